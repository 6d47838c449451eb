/-! THE LAW'S WRAPPERS. -/
theorem ci_I : Cond.castable eI eI ∈ nw := nw_in (tb_1 219 (by decide +kernel)) (by decide +kernel)
theorem ci_A : Cond.castable eA eA ∈ nw := nw_in (tb_2 222 (by decide +kernel)) (by decide +kernel)
theorem ci_U : Cond.castable eU eU ∈ nw := nw_in (tb_4 68 (by decide +kernel)) (by decide +kernel)
theorem ci_N : Cond.castable eN eN ∈ nw := nw_in (tb_2 60 (by decide +kernel)) (by decide +kernel)
def rdI : RO → Int32
  | .inl (some (.int v)) => v
  | .inr E => if E = eI then -25000 else -30000
  | _ => 0
theorem zCh_eU {D : DM} {o a b c : Int32} (h : (zCh D o a b c).1 = .inr eU) : ¬ dI (zCh D o a b c).2 2 = 0 := by
  unfold zCh at h ⊢
  by_cases h0 : jud (dF D 0) o a b c = 0
  · rw [if_pos h0] at h
    cases h
  · rw [if_neg h0] at h ⊢
    unfold zBad at h ⊢
    by_cases h1 : jud (dF D 0) o a b c = -1
    · rw [if_pos h1] at h
      exact absurd (Sum.inr.inj h) (by decide)
    · rw [if_neg h1] at h ⊢
      by_cases h2 : jud (dF D 0) o a b c = -2
      · rw [if_pos h2] at h
        exact absurd (Sum.inr.inj h) (by decide)
      · rw [if_neg h2] at h ⊢
        show ¬ dI (zRej D _ _ 0) 2 = 0
        unfold zRej
        rw [dI_sD, if_neg (by decide), dI_sD, if_neg (by decide), dI_sD, if_pos rfl]
        exact h0
theorem kL_addTurbine {l : Launch} {G : GX} {N : Nat} {S : Nat → va_E} {K : RK} {D : DM} {x y z kk vv : Int32} (hD : isD G N S D) (hv : vD D) (hag : agr [eI, eA, eU] (zCh D 97 x y z).1 kk vv) (hk : ∀ S1 v, isD G N S1 (zCh D 97 x y z).2 → DR S S1 → K (.inl (some (.int v))) S1) : RetH l G N (yL_addTurbine, cL_addTurbine, 5, some .int) [(0, 7, 8, 19), (0, 7, 14, 21), (0, 7, 20, 23)] (9, 163, 4, 24) [.ref (ad G 0), .int x, .int y, .int z] S K := by
  refine ret_enterH (by decide +kernel) (Nat.le_of_ble_eq_true rfl) (fun X hX h hm => ?_)
  subst hX
  replace h : OK X G N cL_addTurbine RL 5 (9, 163, 4, 24) := h
  replace hm : OKmH X G N K (some .int) [(0, 7, 8, 19), (0, 7, 14, 21), (0, 7, 20, 23)] (9, 163, 4, 24) := hm
  show AW X G 5 N 0 [(0, _), (1, _), (2, _), (3, _)] [] S 0 0
  refine r_aload_n (pc' := 1) h dL_addTurbine_0 rfl rfl ?_
  refine r_iload_n (pc' := 2) h dL_addTurbine_1 rfl rfl ?_
  refine r_iload_n (pc' := 3) h dL_addTurbine_2 rfl rfl ?_
  refine r_iload_n (pc' := 4) h dL_addTurbine_3 rfl rfl ?_
  refine r_callVH (st := []) (M := mX4_addTurbine) (As := [.int x, .int y, .int z]) h hm dL_addTurbine_4 lL_13 vX4_addTurbine rfl hD.l0 hD.o0 rfl rfl (Nat.le_of_ble_eq_true rfl) (rrb rfl) (kX4_addTurbine hD hv (fun S1 hD1 hR1 => ?_))
  rcases hag with ⟨e, ek⟩ | ⟨i, E, hi, e, ek⟩
  · rw [e]
    show AW X G 5 N 7 _ _ S1 _ _
    exact r_ireturnH h hm dL_addTurbine_7 (Nat.le_of_ble_eq_true rfl) (Nat.le_of_ble_eq_true rfl) (hk S1 _ hD1 hR1)
  · have er := e
    rw [e]
    have hi2 : i < 3 := (List.getElem?_eq_some_iff.mp hi).1
    rcases (by omega : i = 0 ∨ i = 1 ∨ i = 2) with rfl | rfl | rfl
    · cases hi
      refine ⟨[], _, _, eI, hm.2.2.1, fun z hz => absurd hz List.not_mem_nil, by decide, by decide, lL_19, ci_I, fun q => ?_⟩
      show AW X G 5 N 8 _ _ S1 _ _
      refine r_astore (pc' := 10) h dL_addTurbine_8 rfl (by decide) rfl ?_
      refine r_sipush (pc' := 13) (v := -25000) h dL_addTurbine_10 rfl (by decide) ?_
      exact r_ireturnH h hm dL_addTurbine_13 (Nat.le_of_ble_eq_true rfl) (Nat.le_of_ble_eq_true rfl) (hk S1 _ hD1 hR1)
    · cases hi
      refine ⟨[_], _, _, eA, hm.2.2.1, fun z hz => ?_, by decide, by decide, lL_21, ci_A, fun q => ?_⟩
      · cases List.mem_singleton.mp hz
        exact Or.inr ⟨by decide, eI, lL_19, by decide⟩
      · show AW X G 5 N 14 _ _ S1 _ _
        refine r_astore (pc' := 16) h dL_addTurbine_14 rfl (by decide) rfl ?_
        refine r_sipush (pc' := 19) (v := -20000) h dL_addTurbine_16 rfl (by decide) ?_
        exact r_ireturnH h hm dL_addTurbine_19 (Nat.le_of_ble_eq_true rfl) (Nat.le_of_ble_eq_true rfl) (hk S1 _ hD1 hR1)
    · cases hi
      refine ⟨[_, _], _, _, eU, hm.2.2.1, fun z hz => ?_, by decide, by decide, lL_23, ci_U, fun q => ?_⟩
      · rcases List.mem_cons.mp hz with rfl | hz
        · exact Or.inr ⟨by decide, eI, lL_19, by decide⟩
        · cases List.mem_singleton.mp hz
          exact Or.inr ⟨by decide, eA, lL_21, by decide⟩
      · show AW X G 5 N 20 _ _ S1 _ _
        refine r_astore (pc' := 22) h dL_addTurbine_20 rfl (by decide) rfl ?_
        refine r_sipush (pc' := 25) (v := -10000) h dL_addTurbine_22 rfl (by decide) ?_
        refine r_aload_n (pc' := 26) h dL_addTurbine_25 rfl rfl ?_
        refine r_callVL (st := [.int (-10000)]) (As := []) (M := mX4_rejectionReason) (pc' := 29) h dL_addTurbine_26 rfl lL_25 vX4_rejectionReason rfl hD1.l0 hD1.o0 rfl rfl (Nat.le_of_ble_eq_true rfl) (rrb rfl) (kX4_rejectionReason hD1 ?_)
        rw [if_neg (zCh_eU e)]
        refine K_int ?_
        refine r_isub (pc' := 30) h dL_addTurbine_29 rfl ?_
        exact r_ireturnH h hm dL_addTurbine_30 (Nat.le_of_ble_eq_true rfl) (Nat.le_of_ble_eq_true rfl) (hk S1 _ hD1 hR1)
theorem kL_fail {l : Launch} {G : GX} {N : Nat} {S : Nat → va_E} {K : RK} {D : DM} {x kk vv : Int32} (hD : isD G N S D) (hv : vD D) (hag : agr [eI, eU] (zCh D 102 x 0 0).1 kk vv) (hk : ∀ S1 v, isD G N S1 (zCh D 102 x 0 0).2 → DR S S1 → K (.inl (some (.int v))) S1) : RetH l G N (yL_fail, cL_fail, 3, some .int) [(0, 5, 6, 19), (0, 5, 11, 23)] (9, 163, 4, 24) [.ref (ad G 0), .int x] S K := by
  refine ret_enterH (by decide +kernel) (Nat.le_of_ble_eq_true rfl) (fun X hX h hm => ?_)
  subst hX
  replace h : OK X G N cL_fail RL 3 (9, 163, 4, 24) := h
  replace hm : OKmH X G N K (some .int) [(0, 5, 6, 19), (0, 5, 11, 23)] (9, 163, 4, 24) := hm
  show AW X G 3 N 0 [(0, _), (1, _)] [] S 0 0
  refine r_aload_n (pc' := 1) h dL_fail_0 rfl rfl ?_
  refine r_iload_n (pc' := 2) h dL_fail_1 rfl rfl ?_
  refine r_callVH (st := []) (M := mX4_fail) (As := [.int x]) h hm dL_fail_2 lL_29 vX4_fail rfl hD.l0 hD.o0 rfl rfl (Nat.le_of_ble_eq_true rfl) (rrb rfl) (kX4_fail hD hv (fun S1 hD1 hR1 => ?_))
  rcases hag with ⟨e, ek⟩ | ⟨i, E, hi, e, ek⟩
  · rw [e]
    show AW X G 3 N 5 _ _ S1 _ _
    exact r_ireturnH h hm dL_fail_5 (Nat.le_of_ble_eq_true rfl) (Nat.le_of_ble_eq_true rfl) (hk S1 _ hD1 hR1)
  · have er := e
    rw [e]
    have hi2 : i < 2 := (List.getElem?_eq_some_iff.mp hi).1
    rcases (by omega : i = 0 ∨ i = 1) with rfl | rfl
    · cases hi
      refine ⟨[], _, _, eI, hm.2.2.1, fun z hz => absurd hz List.not_mem_nil, by decide, by decide, lL_19, ci_I, fun q => ?_⟩
      show AW X G 3 N 6 _ _ S1 _ _
      refine r_astoren (j := 2) (pc' := 7) h rfl dL_fail_6 rfl (by decide) rfl ?_
      refine r_sipush (pc' := 10) (v := -25000) h dL_fail_7 rfl (by decide) ?_
      exact r_ireturnH h hm dL_fail_10 (Nat.le_of_ble_eq_true rfl) (Nat.le_of_ble_eq_true rfl) (hk S1 _ hD1 hR1)
    · cases hi
      refine ⟨[_], _, _, eU, hm.2.2.1, fun z hz => ?_, by decide, by decide, lL_23, ci_U, fun q => ?_⟩
      · cases List.mem_singleton.mp hz
        exact Or.inr ⟨by decide, eI, lL_19, by decide⟩
      · show AW X G 3 N 11 _ _ S1 _ _
        refine r_astoren (j := 2) (pc' := 12) h rfl dL_fail_11 rfl (by decide) rfl ?_
        refine r_sipush (pc' := 15) (v := -10000) h dL_fail_12 rfl (by decide) ?_
        refine r_aload_n (pc' := 16) h dL_fail_15 rfl rfl ?_
        refine r_callVL (st := [.int (-10000)]) (As := []) (M := mX4_rejectionReason) (pc' := 19) h dL_fail_16 rfl lL_25 vX4_rejectionReason rfl hD1.l0 hD1.o0 rfl rfl (Nat.le_of_ble_eq_true rfl) (rrb rfl) (kX4_rejectionReason hD1 ?_)
        rw [if_neg (zCh_eU e)]
        refine K_int ?_
        refine r_isub (pc' := 20) h dL_fail_19 rfl ?_
        exact r_ireturnH h hm dL_fail_20 (Nat.le_of_ble_eq_true rfl) (Nat.le_of_ble_eq_true rfl) (hk S1 _ hD1 hR1)
theorem kL_sendCrew {l : Launch} {G : GX} {N : Nat} {S : Nat → va_E} {K : RK} {D : DM} {x y kk vv : Int32} (hD : isD G N S D) (hv : vD D) (hag : agr [eI, eA, eU] (zCh D 115 x y 0).1 kk vv) (hk : ∀ S1 v, isD G N S1 (zCh D 115 x y 0).2 → DR S S1 → K (.inl (some (.int v))) S1) : RetH l G N (yL_sendCrew, cL_sendCrew, 4, some .int) [(0, 6, 7, 19), (0, 6, 12, 21), (0, 6, 17, 23)] (9, 163, 4, 24) [.ref (ad G 0), .int x, .int y] S K := by
  refine ret_enterH (by decide +kernel) (Nat.le_of_ble_eq_true rfl) (fun X hX h hm => ?_)
  subst hX
  replace h : OK X G N cL_sendCrew RL 4 (9, 163, 4, 24) := h
  replace hm : OKmH X G N K (some .int) [(0, 6, 7, 19), (0, 6, 12, 21), (0, 6, 17, 23)] (9, 163, 4, 24) := hm
  show AW X G 4 N 0 [(0, _), (1, _), (2, _)] [] S 0 0
  refine r_aload_n (pc' := 1) h dL_sendCrew_0 rfl rfl ?_
  refine r_iload_n (pc' := 2) h dL_sendCrew_1 rfl rfl ?_
  refine r_iload_n (pc' := 3) h dL_sendCrew_2 rfl rfl ?_
  refine r_callVH (st := []) (M := mX4_sendCrew) (As := [.int x, .int y]) h hm dL_sendCrew_3 lL_33 vX4_sendCrew rfl hD.l0 hD.o0 rfl rfl (Nat.le_of_ble_eq_true rfl) (rrb rfl) (kX4_sendCrew hD hv (fun S1 hD1 hR1 => ?_))
  rcases hag with ⟨e, ek⟩ | ⟨i, E, hi, e, ek⟩
  · rw [e]
    show AW X G 4 N 6 _ _ S1 _ _
    exact r_ireturnH h hm dL_sendCrew_6 (Nat.le_of_ble_eq_true rfl) (Nat.le_of_ble_eq_true rfl) (hk S1 _ hD1 hR1)
  · have er := e
    rw [e]
    have hi2 : i < 3 := (List.getElem?_eq_some_iff.mp hi).1
    rcases (by omega : i = 0 ∨ i = 1 ∨ i = 2) with rfl | rfl | rfl
    · cases hi
      refine ⟨[], _, _, eI, hm.2.2.1, fun z hz => absurd hz List.not_mem_nil, by decide, by decide, lL_19, ci_I, fun q => ?_⟩
      show AW X G 4 N 7 _ _ S1 _ _
      refine r_astoren (j := 3) (pc' := 8) h rfl dL_sendCrew_7 rfl (by decide) rfl ?_
      refine r_sipush (pc' := 11) (v := -25000) h dL_sendCrew_8 rfl (by decide) ?_
      exact r_ireturnH h hm dL_sendCrew_11 (Nat.le_of_ble_eq_true rfl) (Nat.le_of_ble_eq_true rfl) (hk S1 _ hD1 hR1)
    · cases hi
      refine ⟨[_], _, _, eA, hm.2.2.1, fun z hz => ?_, by decide, by decide, lL_21, ci_A, fun q => ?_⟩
      · cases List.mem_singleton.mp hz
        exact Or.inr ⟨by decide, eI, lL_19, by decide⟩
      · show AW X G 4 N 12 _ _ S1 _ _
        refine r_astoren (j := 3) (pc' := 13) h rfl dL_sendCrew_12 rfl (by decide) rfl ?_
        refine r_sipush (pc' := 16) (v := -20000) h dL_sendCrew_13 rfl (by decide) ?_
        exact r_ireturnH h hm dL_sendCrew_16 (Nat.le_of_ble_eq_true rfl) (Nat.le_of_ble_eq_true rfl) (hk S1 _ hD1 hR1)
    · cases hi
      refine ⟨[_, _], _, _, eU, hm.2.2.1, fun z hz => ?_, by decide, by decide, lL_23, ci_U, fun q => ?_⟩
      · rcases List.mem_cons.mp hz with rfl | hz
        · exact Or.inr ⟨by decide, eI, lL_19, by decide⟩
        · cases List.mem_singleton.mp hz
          exact Or.inr ⟨by decide, eA, lL_21, by decide⟩
      · show AW X G 4 N 17 _ _ S1 _ _
        refine r_astoren (j := 3) (pc' := 18) h rfl dL_sendCrew_17 rfl (by decide) rfl ?_
        refine r_sipush (pc' := 21) (v := -10000) h dL_sendCrew_18 rfl (by decide) ?_
        refine r_aload_n (pc' := 22) h dL_sendCrew_21 rfl rfl ?_
        refine r_callVL (st := [.int (-10000)]) (As := []) (M := mX4_rejectionReason) (pc' := 25) h dL_sendCrew_22 rfl lL_25 vX4_rejectionReason rfl hD1.l0 hD1.o0 rfl rfl (Nat.le_of_ble_eq_true rfl) (rrb rfl) (kX4_rejectionReason hD1 ?_)
        rw [if_neg (zCh_eU e)]
        refine K_int ?_
        refine r_isub (pc' := 26) h dL_sendCrew_25 rfl ?_
        exact r_ireturnH h hm dL_sendCrew_26 (Nat.le_of_ble_eq_true rfl) (Nat.le_of_ble_eq_true rfl) (hk S1 _ hD1 hR1)
theorem kL_recallCrew {l : Launch} {G : GX} {N : Nat} {S : Nat → va_E} {K : RK} {D : DM} {x kk vv : Int32} (hD : isD G N S D) (hv : vD D) (hag : agr [eI, eU] (zCh D 114 x 0 0).1 kk vv) (hk : ∀ S1 v, isD G N S1 (zCh D 114 x 0 0).2 → DR S S1 → K (.inl (some (.int v))) S1) : RetH l G N (yL_recallCrew, cL_recallCrew, 3, some .int) [(0, 5, 6, 19), (0, 5, 11, 23)] (9, 163, 4, 24) [.ref (ad G 0), .int x] S K := by
  refine ret_enterH (by decide +kernel) (Nat.le_of_ble_eq_true rfl) (fun X hX h hm => ?_)
  subst hX
  replace h : OK X G N cL_recallCrew RL 3 (9, 163, 4, 24) := h
  replace hm : OKmH X G N K (some .int) [(0, 5, 6, 19), (0, 5, 11, 23)] (9, 163, 4, 24) := hm
  show AW X G 3 N 0 [(0, _), (1, _)] [] S 0 0
  refine r_aload_n (pc' := 1) h dL_recallCrew_0 rfl rfl ?_
  refine r_iload_n (pc' := 2) h dL_recallCrew_1 rfl rfl ?_
  refine r_callVH (st := []) (M := mX4_recallCrew) (As := [.int x]) h hm dL_recallCrew_2 lL_37 vX4_recallCrew rfl hD.l0 hD.o0 rfl rfl (Nat.le_of_ble_eq_true rfl) (rrb rfl) (kX4_recallCrew hD hv (fun S1 hD1 hR1 => ?_))
  rcases hag with ⟨e, ek⟩ | ⟨i, E, hi, e, ek⟩
  · rw [e]
    show AW X G 3 N 5 _ _ S1 _ _
    exact r_ireturnH h hm dL_recallCrew_5 (Nat.le_of_ble_eq_true rfl) (Nat.le_of_ble_eq_true rfl) (hk S1 _ hD1 hR1)
  · have er := e
    rw [e]
    have hi2 : i < 2 := (List.getElem?_eq_some_iff.mp hi).1
    rcases (by omega : i = 0 ∨ i = 1) with rfl | rfl
    · cases hi
      refine ⟨[], _, _, eI, hm.2.2.1, fun z hz => absurd hz List.not_mem_nil, by decide, by decide, lL_19, ci_I, fun q => ?_⟩
      show AW X G 3 N 6 _ _ S1 _ _
      refine r_astoren (j := 2) (pc' := 7) h rfl dL_recallCrew_6 rfl (by decide) rfl ?_
      refine r_sipush (pc' := 10) (v := -25000) h dL_recallCrew_7 rfl (by decide) ?_
      exact r_ireturnH h hm dL_recallCrew_10 (Nat.le_of_ble_eq_true rfl) (Nat.le_of_ble_eq_true rfl) (hk S1 _ hD1 hR1)
    · cases hi
      refine ⟨[_], _, _, eU, hm.2.2.1, fun z hz => ?_, by decide, by decide, lL_23, ci_U, fun q => ?_⟩
      · cases List.mem_singleton.mp hz
        exact Or.inr ⟨by decide, eI, lL_19, by decide⟩
      · show AW X G 3 N 11 _ _ S1 _ _
        refine r_astoren (j := 2) (pc' := 12) h rfl dL_recallCrew_11 rfl (by decide) rfl ?_
        refine r_sipush (pc' := 15) (v := -10000) h dL_recallCrew_12 rfl (by decide) ?_
        refine r_aload_n (pc' := 16) h dL_recallCrew_15 rfl rfl ?_
        refine r_callVL (st := [.int (-10000)]) (As := []) (M := mX4_rejectionReason) (pc' := 19) h dL_recallCrew_16 rfl lL_25 vX4_rejectionReason rfl hD1.l0 hD1.o0 rfl rfl (Nat.le_of_ble_eq_true rfl) (rrb rfl) (kX4_rejectionReason hD1 ?_)
        rw [if_neg (zCh_eU e)]
        refine K_int ?_
        refine r_isub (pc' := 20) h dL_recallCrew_19 rfl ?_
        exact r_ireturnH h hm dL_recallCrew_20 (Nat.le_of_ble_eq_true rfl) (Nat.le_of_ble_eq_true rfl) (hk S1 _ hD1 hR1)
theorem kL_curtail {l : Launch} {G : GX} {N : Nat} {S : Nat → va_E} {K : RK} {D : DM} {x y kk vv : Int32} (hD : isD G N S D) (hv : vD D) (hag : agr [eI, eA, eU] (zCh D 99 x y 0).1 kk vv) (hk : ∀ S1 v, isD G N S1 (zCh D 99 x y 0).2 → DR S S1 → K (.inl (some (.int v))) S1) : RetH l G N (yL_curtail, cL_curtail, 4, some .int) [(0, 6, 7, 19), (0, 6, 12, 21), (0, 6, 17, 23)] (9, 163, 4, 24) [.ref (ad G 0), .int x, .int y] S K := by
  refine ret_enterH (by decide +kernel) (Nat.le_of_ble_eq_true rfl) (fun X hX h hm => ?_)
  subst hX
  replace h : OK X G N cL_curtail RL 4 (9, 163, 4, 24) := h
  replace hm : OKmH X G N K (some .int) [(0, 6, 7, 19), (0, 6, 12, 21), (0, 6, 17, 23)] (9, 163, 4, 24) := hm
  show AW X G 4 N 0 [(0, _), (1, _), (2, _)] [] S 0 0
  refine r_aload_n (pc' := 1) h dL_curtail_0 rfl rfl ?_
  refine r_iload_n (pc' := 2) h dL_curtail_1 rfl rfl ?_
  refine r_iload_n (pc' := 3) h dL_curtail_2 rfl rfl ?_
  refine r_callVH (st := []) (M := mX4_curtail) (As := [.int x, .int y]) h hm dL_curtail_3 lL_40 vX4_curtail rfl hD.l0 hD.o0 rfl rfl (Nat.le_of_ble_eq_true rfl) (rrb rfl) (kX4_curtail hD hv (fun S1 hD1 hR1 => ?_))
  rcases hag with ⟨e, ek⟩ | ⟨i, E, hi, e, ek⟩
  · rw [e]
    show AW X G 4 N 6 _ _ S1 _ _
    exact r_ireturnH h hm dL_curtail_6 (Nat.le_of_ble_eq_true rfl) (Nat.le_of_ble_eq_true rfl) (hk S1 _ hD1 hR1)
  · have er := e
    rw [e]
    have hi2 : i < 3 := (List.getElem?_eq_some_iff.mp hi).1
    rcases (by omega : i = 0 ∨ i = 1 ∨ i = 2) with rfl | rfl | rfl
    · cases hi
      refine ⟨[], _, _, eI, hm.2.2.1, fun z hz => absurd hz List.not_mem_nil, by decide, by decide, lL_19, ci_I, fun q => ?_⟩
      show AW X G 4 N 7 _ _ S1 _ _
      refine r_astoren (j := 3) (pc' := 8) h rfl dL_curtail_7 rfl (by decide) rfl ?_
      refine r_sipush (pc' := 11) (v := -25000) h dL_curtail_8 rfl (by decide) ?_
      exact r_ireturnH h hm dL_curtail_11 (Nat.le_of_ble_eq_true rfl) (Nat.le_of_ble_eq_true rfl) (hk S1 _ hD1 hR1)
    · cases hi
      refine ⟨[_], _, _, eA, hm.2.2.1, fun z hz => ?_, by decide, by decide, lL_21, ci_A, fun q => ?_⟩
      · cases List.mem_singleton.mp hz
        exact Or.inr ⟨by decide, eI, lL_19, by decide⟩
      · show AW X G 4 N 12 _ _ S1 _ _
        refine r_astoren (j := 3) (pc' := 13) h rfl dL_curtail_12 rfl (by decide) rfl ?_
        refine r_sipush (pc' := 16) (v := -20000) h dL_curtail_13 rfl (by decide) ?_
        exact r_ireturnH h hm dL_curtail_16 (Nat.le_of_ble_eq_true rfl) (Nat.le_of_ble_eq_true rfl) (hk S1 _ hD1 hR1)
    · cases hi
      refine ⟨[_, _], _, _, eU, hm.2.2.1, fun z hz => ?_, by decide, by decide, lL_23, ci_U, fun q => ?_⟩
      · rcases List.mem_cons.mp hz with rfl | hz
        · exact Or.inr ⟨by decide, eI, lL_19, by decide⟩
        · cases List.mem_singleton.mp hz
          exact Or.inr ⟨by decide, eA, lL_21, by decide⟩
      · show AW X G 4 N 17 _ _ S1 _ _
        refine r_astoren (j := 3) (pc' := 18) h rfl dL_curtail_17 rfl (by decide) rfl ?_
        refine r_sipush (pc' := 21) (v := -10000) h dL_curtail_18 rfl (by decide) ?_
        refine r_aload_n (pc' := 22) h dL_curtail_21 rfl rfl ?_
        refine r_callVL (st := [.int (-10000)]) (As := []) (M := mX4_rejectionReason) (pc' := 25) h dL_curtail_22 rfl lL_25 vX4_rejectionReason rfl hD1.l0 hD1.o0 rfl rfl (Nat.le_of_ble_eq_true rfl) (rrb rfl) (kX4_rejectionReason hD1 ?_)
        rw [if_neg (zCh_eU e)]
        refine K_int ?_
        refine r_isub (pc' := 26) h dL_curtail_25 rfl ?_
        exact r_ireturnH h hm dL_curtail_26 (Nat.le_of_ble_eq_true rfl) (Nat.le_of_ble_eq_true rfl) (hk S1 _ hD1 hR1)
theorem kL_release {l : Launch} {G : GX} {N : Nat} {S : Nat → va_E} {K : RK} {D : DM} {x kk vv : Int32} (hD : isD G N S D) (hv : vD D) (hag : agr [eI, eU] (zCh D 117 x 0 0).1 kk vv) (hk : ∀ S1 v, isD G N S1 (zCh D 117 x 0 0).2 → DR S S1 → K (.inl (some (.int v))) S1) : RetH l G N (yL_release, cL_release, 3, some .int) [(0, 5, 6, 19), (0, 5, 11, 23)] (9, 163, 4, 24) [.ref (ad G 0), .int x] S K := by
  refine ret_enterH (by decide +kernel) (Nat.le_of_ble_eq_true rfl) (fun X hX h hm => ?_)
  subst hX
  replace h : OK X G N cL_release RL 3 (9, 163, 4, 24) := h
  replace hm : OKmH X G N K (some .int) [(0, 5, 6, 19), (0, 5, 11, 23)] (9, 163, 4, 24) := hm
  show AW X G 3 N 0 [(0, _), (1, _)] [] S 0 0
  refine r_aload_n (pc' := 1) h dL_release_0 rfl rfl ?_
  refine r_iload_n (pc' := 2) h dL_release_1 rfl rfl ?_
  refine r_callVH (st := []) (M := mX4_release) (As := [.int x]) h hm dL_release_2 lL_43 vX4_release rfl hD.l0 hD.o0 rfl rfl (Nat.le_of_ble_eq_true rfl) (rrb rfl) (kX4_release hD hv (fun S1 hD1 hR1 => ?_))
  rcases hag with ⟨e, ek⟩ | ⟨i, E, hi, e, ek⟩
  · rw [e]
    show AW X G 3 N 5 _ _ S1 _ _
    exact r_ireturnH h hm dL_release_5 (Nat.le_of_ble_eq_true rfl) (Nat.le_of_ble_eq_true rfl) (hk S1 _ hD1 hR1)
  · have er := e
    rw [e]
    have hi2 : i < 2 := (List.getElem?_eq_some_iff.mp hi).1
    rcases (by omega : i = 0 ∨ i = 1) with rfl | rfl
    · cases hi
      refine ⟨[], _, _, eI, hm.2.2.1, fun z hz => absurd hz List.not_mem_nil, by decide, by decide, lL_19, ci_I, fun q => ?_⟩
      show AW X G 3 N 6 _ _ S1 _ _
      refine r_astoren (j := 2) (pc' := 7) h rfl dL_release_6 rfl (by decide) rfl ?_
      refine r_sipush (pc' := 10) (v := -25000) h dL_release_7 rfl (by decide) ?_
      exact r_ireturnH h hm dL_release_10 (Nat.le_of_ble_eq_true rfl) (Nat.le_of_ble_eq_true rfl) (hk S1 _ hD1 hR1)
    · cases hi
      refine ⟨[_], _, _, eU, hm.2.2.1, fun z hz => ?_, by decide, by decide, lL_23, ci_U, fun q => ?_⟩
      · cases List.mem_singleton.mp hz
        exact Or.inr ⟨by decide, eI, lL_19, by decide⟩
      · show AW X G 3 N 11 _ _ S1 _ _
        refine r_astoren (j := 2) (pc' := 12) h rfl dL_release_11 rfl (by decide) rfl ?_
        refine r_sipush (pc' := 15) (v := -10000) h dL_release_12 rfl (by decide) ?_
        refine r_aload_n (pc' := 16) h dL_release_15 rfl rfl ?_
        refine r_callVL (st := [.int (-10000)]) (As := []) (M := mX4_rejectionReason) (pc' := 19) h dL_release_16 rfl lL_25 vX4_rejectionReason rfl hD1.l0 hD1.o0 rfl rfl (Nat.le_of_ble_eq_true rfl) (rrb rfl) (kX4_rejectionReason hD1 ?_)
        rw [if_neg (zCh_eU e)]
        refine K_int ?_
        refine r_isub (pc' := 20) h dL_release_19 rfl ?_
        exact r_ireturnH h hm dL_release_20 (Nat.le_of_ble_eq_true rfl) (Nat.le_of_ble_eq_true rfl) (hk S1 _ hD1 hR1)
theorem kL_setWind {l : Launch} {G : GX} {N : Nat} {S : Nat → va_E} {K : RK} {D : DM} {x y kk vv : Int32} (hD : isD G N S D) (hv : vD D) (hch : isCh x) (hag : agr [eA] (zCh D 119 x y 0).1 kk vv) (hk : ∀ S1 v, isD G N S1 (zCh D 119 x y 0).2 → DR S S1 → K (.inl (some (.int v))) S1) : RetH l G N (yL_setWind, cL_setWind, 4, some .int) [(0, 6, 7, 21)] (9, 163, 4, 24) [.ref (ad G 0), .int x, .int y] S K := by
  refine ret_enterH (by decide +kernel) (Nat.le_of_ble_eq_true rfl) (fun X hX h hm => ?_)
  subst hX
  replace h : OK X G N cL_setWind RL 4 (9, 163, 4, 24) := h
  replace hm : OKmH X G N K (some .int) [(0, 6, 7, 21)] (9, 163, 4, 24) := hm
  show AW X G 4 N 0 [(0, _), (1, _), (2, _)] [] S 0 0
  refine r_aload_n (pc' := 1) h dL_setWind_0 rfl rfl ?_
  refine r_iload_n (pc' := 2) h dL_setWind_1 rfl rfl ?_
  refine r_iload_n (pc' := 3) h dL_setWind_2 rfl rfl ?_
  refine r_callVH (st := []) (M := mX4_setWind) (As := [.int x, .int y]) h hm dL_setWind_3 lL_57 vX4_setWind rfl hD.l0 hD.o0 rfl rfl (Nat.le_of_ble_eq_true rfl) (rrb rfl) (kX4_setWind hD hv hch (fun S1 hD1 hR1 => ?_))
  rcases hag with ⟨e, ek⟩ | ⟨i, E, hi, e, ek⟩
  · rw [e]
    show AW X G 4 N 6 _ _ S1 _ _
    exact r_ireturnH h hm dL_setWind_6 (Nat.le_of_ble_eq_true rfl) (Nat.le_of_ble_eq_true rfl) (hk S1 _ hD1 hR1)
  · have er := e
    rw [e]
    have hi2 : i < 1 := (List.getElem?_eq_some_iff.mp hi).1
    obtain rfl : i = 0 := by omega
    cases hi
    refine ⟨[], _, _, eA, hm.2.2.1, fun z hz => absurd hz List.not_mem_nil, by decide, by decide, lL_21, ci_A, fun q => ?_⟩
    show AW X G 4 N 7 _ _ S1 _ _
    refine r_astoren (j := 3) (pc' := 8) h rfl dL_setWind_7 rfl (by decide) rfl ?_
    refine r_sipush (pc' := 11) (v := -20000) h dL_setWind_8 rfl (by decide) ?_
    exact r_ireturnH h hm dL_setWind_11 (Nat.le_of_ble_eq_true rfl) (Nat.le_of_ble_eq_true rfl) (hk S1 _ hD1 hR1)
theorem kL_setGridLimit {l : Launch} {G : GX} {N : Nat} {S : Nat → va_E} {K : RK} {D : DM} {x kk vv : Int32} (hD : isD G N S D) (hv : vD D) (hag : agr [eA] (zCh D 103 x 0 0).1 kk vv) (hk : ∀ S1 v, isD G N S1 (zCh D 103 x 0 0).2 → DR S S1 → K (.inl (some (.int v))) S1) : RetH l G N (yL_setGridLimit, cL_setGridLimit, 3, some .int) [(0, 5, 6, 21)] (9, 163, 4, 24) [.ref (ad G 0), .int x] S K := by
  refine ret_enterH (by decide +kernel) (Nat.le_of_ble_eq_true rfl) (fun X hX h hm => ?_)
  subst hX
  replace h : OK X G N cL_setGridLimit RL 3 (9, 163, 4, 24) := h
  replace hm : OKmH X G N K (some .int) [(0, 5, 6, 21)] (9, 163, 4, 24) := hm
  show AW X G 3 N 0 [(0, _), (1, _)] [] S 0 0
  refine r_aload_n (pc' := 1) h dL_setGridLimit_0 rfl rfl ?_
  refine r_iload_n (pc' := 2) h dL_setGridLimit_1 rfl rfl ?_
  refine r_callVH (st := []) (M := mX4_setGridLimit) (As := [.int x]) h hm dL_setGridLimit_2 lL_61 vX4_setGridLimit rfl hD.l0 hD.o0 rfl rfl (Nat.le_of_ble_eq_true rfl) (rrb rfl) (kX4_setGridLimit hD hv (fun S1 hD1 hR1 => ?_))
  rcases hag with ⟨e, ek⟩ | ⟨i, E, hi, e, ek⟩
  · rw [e]
    show AW X G 3 N 5 _ _ S1 _ _
    exact r_ireturnH h hm dL_setGridLimit_5 (Nat.le_of_ble_eq_true rfl) (Nat.le_of_ble_eq_true rfl) (hk S1 _ hD1 hR1)
  · have er := e
    rw [e]
    have hi2 : i < 1 := (List.getElem?_eq_some_iff.mp hi).1
    obtain rfl : i = 0 := by omega
    cases hi
    refine ⟨[], _, _, eA, hm.2.2.1, fun z hz => absurd hz List.not_mem_nil, by decide, by decide, lL_21, ci_A, fun q => ?_⟩
    show AW X G 3 N 6 _ _ S1 _ _
    refine r_astoren (j := 2) (pc' := 7) h rfl dL_setGridLimit_6 rfl (by decide) rfl ?_
    refine r_sipush (pc' := 10) (v := -20000) h dL_setGridLimit_7 rfl (by decide) ?_
    exact r_ireturnH h hm dL_setGridLimit_10 (Nat.le_of_ble_eq_true rfl) (Nat.le_of_ble_eq_true rfl) (hk S1 _ hD1 hR1)
theorem kL_placeBid {l : Launch} {G : GX} {N : Nat} {S : Nat → va_E} {K : RK} {D : DM} {x y z kk vv : Int32} (hD : isD G N S D) (hv : vD D) (hag : agr [eI, eA, eU] (zCh D 98 x y z).1 kk vv) (hk : ∀ S1 v, isD G N S1 (zCh D 98 x y z).2 → DR S S1 → K (.inl (some (.int v))) S1) : RetH l G N (yL_placeBid, cL_placeBid, 5, some .int) [(0, 7, 8, 19), (0, 7, 14, 21), (0, 7, 20, 23)] (9, 163, 4, 24) [.ref (ad G 0), .int x, .int y, .int z] S K := by
  refine ret_enterH (by decide +kernel) (Nat.le_of_ble_eq_true rfl) (fun X hX h hm => ?_)
  subst hX
  replace h : OK X G N cL_placeBid RL 5 (9, 163, 4, 24) := h
  replace hm : OKmH X G N K (some .int) [(0, 7, 8, 19), (0, 7, 14, 21), (0, 7, 20, 23)] (9, 163, 4, 24) := hm
  show AW X G 5 N 0 [(0, _), (1, _), (2, _), (3, _)] [] S 0 0
  refine r_aload_n (pc' := 1) h dL_placeBid_0 rfl rfl ?_
  refine r_iload_n (pc' := 2) h dL_placeBid_1 rfl rfl ?_
  refine r_iload_n (pc' := 3) h dL_placeBid_2 rfl rfl ?_
  refine r_iload_n (pc' := 4) h dL_placeBid_3 rfl rfl ?_
  refine r_callVH (st := []) (M := mX4_placeBid) (As := [.int x, .int y, .int z]) h hm dL_placeBid_4 lL_64 vX4_placeBid rfl hD.l0 hD.o0 rfl rfl (Nat.le_of_ble_eq_true rfl) (rrb rfl) (kX4_placeBid hD hv (fun S1 hD1 hR1 => ?_))
  rcases hag with ⟨e, ek⟩ | ⟨i, E, hi, e, ek⟩
  · rw [e]
    show AW X G 5 N 7 _ _ S1 _ _
    exact r_ireturnH h hm dL_placeBid_7 (Nat.le_of_ble_eq_true rfl) (Nat.le_of_ble_eq_true rfl) (hk S1 _ hD1 hR1)
  · have er := e
    rw [e]
    have hi2 : i < 3 := (List.getElem?_eq_some_iff.mp hi).1
    rcases (by omega : i = 0 ∨ i = 1 ∨ i = 2) with rfl | rfl | rfl
    · cases hi
      refine ⟨[], _, _, eI, hm.2.2.1, fun z hz => absurd hz List.not_mem_nil, by decide, by decide, lL_19, ci_I, fun q => ?_⟩
      show AW X G 5 N 8 _ _ S1 _ _
      refine r_astore (pc' := 10) h dL_placeBid_8 rfl (by decide) rfl ?_
      refine r_sipush (pc' := 13) (v := -25000) h dL_placeBid_10 rfl (by decide) ?_
      exact r_ireturnH h hm dL_placeBid_13 (Nat.le_of_ble_eq_true rfl) (Nat.le_of_ble_eq_true rfl) (hk S1 _ hD1 hR1)
    · cases hi
      refine ⟨[_], _, _, eA, hm.2.2.1, fun z hz => ?_, by decide, by decide, lL_21, ci_A, fun q => ?_⟩
      · cases List.mem_singleton.mp hz
        exact Or.inr ⟨by decide, eI, lL_19, by decide⟩
      · show AW X G 5 N 14 _ _ S1 _ _
        refine r_astore (pc' := 16) h dL_placeBid_14 rfl (by decide) rfl ?_
        refine r_sipush (pc' := 19) (v := -20000) h dL_placeBid_16 rfl (by decide) ?_
        exact r_ireturnH h hm dL_placeBid_19 (Nat.le_of_ble_eq_true rfl) (Nat.le_of_ble_eq_true rfl) (hk S1 _ hD1 hR1)
    · cases hi
      refine ⟨[_, _], _, _, eU, hm.2.2.1, fun z hz => ?_, by decide, by decide, lL_23, ci_U, fun q => ?_⟩
      · rcases List.mem_cons.mp hz with rfl | hz
        · exact Or.inr ⟨by decide, eI, lL_19, by decide⟩
        · cases List.mem_singleton.mp hz
          exact Or.inr ⟨by decide, eA, lL_21, by decide⟩
      · show AW X G 5 N 20 _ _ S1 _ _
        refine r_astore (pc' := 22) h dL_placeBid_20 rfl (by decide) rfl ?_
        refine r_sipush (pc' := 25) (v := -10000) h dL_placeBid_22 rfl (by decide) ?_
        refine r_aload_n (pc' := 26) h dL_placeBid_25 rfl rfl ?_
        refine r_callVL (st := [.int (-10000)]) (As := []) (M := mX4_rejectionReason) (pc' := 29) h dL_placeBid_26 rfl lL_25 vX4_rejectionReason rfl hD1.l0 hD1.o0 rfl rfl (Nat.le_of_ble_eq_true rfl) (rrb rfl) (kX4_rejectionReason hD1 ?_)
        rw [if_neg (zCh_eU e)]
        refine K_int ?_
        refine r_isub (pc' := 30) h dL_placeBid_29 rfl ?_
        exact r_ireturnH h hm dL_placeBid_30 (Nat.le_of_ble_eq_true rfl) (Nat.le_of_ble_eq_true rfl) (hk S1 _ hD1 hR1)
theorem kL_withdrawBid {l : Launch} {G : GX} {N : Nat} {S : Nat → va_E} {K : RK} {D : DM} {x kk vv : Int32} (hD : isD G N S D) (hv : vD D) (hag : agr [eI, eU] (zCh D 113 x 0 0).1 kk vv) (hk : ∀ S1 v, isD G N S1 (zCh D 113 x 0 0).2 → DR S S1 → K (.inl (some (.int v))) S1) : RetH l G N (yL_withdrawBid, cL_withdrawBid, 3, some .int) [(0, 5, 6, 19), (0, 5, 11, 23)] (9, 163, 4, 24) [.ref (ad G 0), .int x] S K := by
  refine ret_enterH (by decide +kernel) (Nat.le_of_ble_eq_true rfl) (fun X hX h hm => ?_)
  subst hX
  replace h : OK X G N cL_withdrawBid RL 3 (9, 163, 4, 24) := h
  replace hm : OKmH X G N K (some .int) [(0, 5, 6, 19), (0, 5, 11, 23)] (9, 163, 4, 24) := hm
  show AW X G 3 N 0 [(0, _), (1, _)] [] S 0 0
  refine r_aload_n (pc' := 1) h dL_withdrawBid_0 rfl rfl ?_
  refine r_iload_n (pc' := 2) h dL_withdrawBid_1 rfl rfl ?_
  refine r_callVH (st := []) (M := mX4_withdrawBid) (As := [.int x]) h hm dL_withdrawBid_2 lL_67 vX4_withdrawBid rfl hD.l0 hD.o0 rfl rfl (Nat.le_of_ble_eq_true rfl) (rrb rfl) (kX4_withdrawBid hD hv (fun S1 hD1 hR1 => ?_))
  rcases hag with ⟨e, ek⟩ | ⟨i, E, hi, e, ek⟩
  · rw [e]
    show AW X G 3 N 5 _ _ S1 _ _
    exact r_ireturnH h hm dL_withdrawBid_5 (Nat.le_of_ble_eq_true rfl) (Nat.le_of_ble_eq_true rfl) (hk S1 _ hD1 hR1)
  · have er := e
    rw [e]
    have hi2 : i < 2 := (List.getElem?_eq_some_iff.mp hi).1
    rcases (by omega : i = 0 ∨ i = 1) with rfl | rfl
    · cases hi
      refine ⟨[], _, _, eI, hm.2.2.1, fun z hz => absurd hz List.not_mem_nil, by decide, by decide, lL_19, ci_I, fun q => ?_⟩
      show AW X G 3 N 6 _ _ S1 _ _
      refine r_astoren (j := 2) (pc' := 7) h rfl dL_withdrawBid_6 rfl (by decide) rfl ?_
      refine r_sipush (pc' := 10) (v := -25000) h dL_withdrawBid_7 rfl (by decide) ?_
      exact r_ireturnH h hm dL_withdrawBid_10 (Nat.le_of_ble_eq_true rfl) (Nat.le_of_ble_eq_true rfl) (hk S1 _ hD1 hR1)
    · cases hi
      refine ⟨[_], _, _, eU, hm.2.2.1, fun z hz => ?_, by decide, by decide, lL_23, ci_U, fun q => ?_⟩
      · cases List.mem_singleton.mp hz
        exact Or.inr ⟨by decide, eI, lL_19, by decide⟩
      · show AW X G 3 N 11 _ _ S1 _ _
        refine r_astoren (j := 2) (pc' := 12) h rfl dL_withdrawBid_11 rfl (by decide) rfl ?_
        refine r_sipush (pc' := 15) (v := -10000) h dL_withdrawBid_12 rfl (by decide) ?_
        refine r_aload_n (pc' := 16) h dL_withdrawBid_15 rfl rfl ?_
        refine r_callVL (st := [.int (-10000)]) (As := []) (M := mX4_rejectionReason) (pc' := 19) h dL_withdrawBid_16 rfl lL_25 vX4_rejectionReason rfl hD1.l0 hD1.o0 rfl rfl (Nat.le_of_ble_eq_true rfl) (rrb rfl) (kX4_rejectionReason hD1 ?_)
        rw [if_neg (zCh_eU e)]
        refine K_int ?_
        refine r_isub (pc' := 20) h dL_withdrawBid_19 rfl ?_
        exact r_ireturnH h hm dL_withdrawBid_20 (Nat.le_of_ble_eq_true rfl) (Nat.le_of_ble_eq_true rfl) (hk S1 _ hD1 hR1)
theorem kL_passHours {l : Launch} {G : GX} {N : Nat} {S : Nat → va_E} {K : RK} {D : DM} {x kk vv : Int32} (hD : isD G N S D) (hv : vD D) (hag : agr [eA] (zCh D 116 x 0 0).1 kk vv) (hk : ∀ S1 v, isD G N S1 (zCh D 116 x 0 0).2 → DR S S1 → K (.inl (some (.int v))) S1) : RetH l G N (yL_passHours, cL_passHours, 3, some .int) [(0, 5, 6, 21)] (9, 163, 4, 24) [.ref (ad G 0), .int x] S K := by
  refine ret_enterH (by decide +kernel) (Nat.le_of_ble_eq_true rfl) (fun X hX h hm => ?_)
  subst hX
  replace h : OK X G N cL_passHours RL 3 (9, 163, 4, 24) := h
  replace hm : OKmH X G N K (some .int) [(0, 5, 6, 21)] (9, 163, 4, 24) := hm
  show AW X G 3 N 0 [(0, _), (1, _)] [] S 0 0
  refine r_aload_n (pc' := 1) h dL_passHours_0 rfl rfl ?_
  refine r_iload_n (pc' := 2) h dL_passHours_1 rfl rfl ?_
  refine r_callVH (st := []) (M := mX4_passHours) (As := [.int x]) h hm dL_passHours_2 lL_79 vX4_passHours rfl hD.l0 hD.o0 rfl rfl (Nat.le_of_ble_eq_true rfl) (rrb rfl) (kX4_passHours hD hv (fun S1 hD1 hR1 => ?_))
  rcases hag with ⟨e, ek⟩ | ⟨i, E, hi, e, ek⟩
  · rw [e]
    show AW X G 3 N 5 _ _ S1 _ _
    exact r_ireturnH h hm dL_passHours_5 (Nat.le_of_ble_eq_true rfl) (Nat.le_of_ble_eq_true rfl) (hk S1 _ hD1 hR1)
  · have er := e
    rw [e]
    have hi2 : i < 1 := (List.getElem?_eq_some_iff.mp hi).1
    obtain rfl : i = 0 := by omega
    cases hi
    refine ⟨[], _, _, eA, hm.2.2.1, fun z hz => absurd hz List.not_mem_nil, by decide, by decide, lL_21, ci_A, fun q => ?_⟩
    show AW X G 3 N 6 _ _ S1 _ _
    refine r_astoren (j := 2) (pc' := 7) h rfl dL_passHours_6 rfl (by decide) rfl ?_
    refine r_sipush (pc' := 10) (v := -20000) h dL_passHours_7 rfl (by decide) ?_
    exact r_ireturnH h hm dL_passHours_10 (Nat.le_of_ble_eq_true rfl) (Nat.le_of_ble_eq_true rfl) (hk S1 _ hD1 hR1)
theorem kL_turbineAt {l : Launch} {G : GX} {N : Nat} {S : Nat → va_E} {K : RK} {D : DM} {r c : Int32} {zz : RO} (hD : isD G N S D) (hz : zz = (if isCell' r c then (if tIn (dF D 0) r c < 0 then .inr eN else .inl (some (.int (tIn (dF D 0) r c)))) else .inr eI)) (hag : (∃ v, zz = .inl (some (.int v))) ∨ zz = .inr eI ∨ zz = .inr eN) (hk : K (.inl (some (.int (rdI zz)))) S) : RetH l G N (yL_turbineAt, cL_turbineAt, 4, some .int) [(0, 6, 7, 19), (0, 6, 12, 49)] (8, 130, 2, 12) [.ref (ad G 0), .int r, .int c] S K := by
  refine ret_enterH (by decide +kernel) (Nat.le_of_ble_eq_true rfl) (fun X hX h hm => ?_)
  subst hX
  replace h : OK X G N cL_turbineAt RL 4 (8, 130, 2, 12) := h
  replace hm : OKmH X G N K (some .int) [(0, 6, 7, 19), (0, 6, 12, 49)] (8, 130, 2, 12) := hm
  show AW X G 4 N 0 [(0, _), (1, _), (2, _)] [] S 0 0
  refine r_aload_n (pc' := 1) h dL_turbineAt_0 rfl rfl ?_
  refine r_iload_n (pc' := 2) h dL_turbineAt_1 rfl rfl ?_
  refine r_iload_n (pc' := 3) h dL_turbineAt_2 rfl rfl ?_
  refine r_callVH (st := []) (M := mX4_turbineAt) (As := [.int r, .int c]) h hm dL_turbineAt_3 lL_46 vX4_turbineAt rfl hD.l0 hD.o0 rfl rfl (Nat.le_of_ble_eq_true rfl) (rrb rfl) (kX4_turbineAt hD ?_)
  rw [← hz]
  rcases hag with ⟨v, e⟩ | e | e
  · rw [e] at hk ⊢
    show AW X G 4 N 6 _ _ S _ _
    exact r_ireturnH h hm dL_turbineAt_6 (Nat.le_of_ble_eq_true rfl) (Nat.le_of_ble_eq_true rfl) hk
  · rw [e] at hk ⊢
    refine ⟨[], _, _, eI, hm.2.2.1, fun z hz => absurd hz List.not_mem_nil, by decide, by decide, lL_19, ci_I, fun q => ?_⟩
    show AW X G 4 N 7 _ _ S _ _
    refine r_astoren (j := 3) (pc' := 8) h rfl dL_turbineAt_7 rfl (by decide) rfl ?_
    refine r_sipush (pc' := 11) (v := -25000) h dL_turbineAt_8 rfl (by decide) ?_
    exact r_ireturnH h hm dL_turbineAt_11 (Nat.le_of_ble_eq_true rfl) (Nat.le_of_ble_eq_true rfl) hk
  · rw [e] at hk ⊢
    refine ⟨[_], _, _, eN, hm.2.2.1, fun z hz => ?_, by decide, by decide, lL_49, ci_N, fun q => ?_⟩
    · cases List.mem_singleton.mp hz
      exact Or.inr ⟨by decide, eI, lL_19, by decide⟩
    · show AW X G 4 N 12 _ _ S _ _
      refine r_astoren (j := 3) (pc' := 13) h rfl dL_turbineAt_12 rfl (by decide) rfl ?_
      refine r_sipush (pc' := 16) (v := -30000) h dL_turbineAt_13 rfl (by decide) ?_
      exact r_ireturnH h hm dL_turbineAt_16 (Nat.le_of_ble_eq_true rfl) (Nat.le_of_ble_eq_true rfl) hk
theorem kL_limitOf {l : Launch} {G : GX} {N : Nat} {S : Nat → va_E} {K : RK} {D : DM} {t : Int32} {zz : RO} (hD : isD G N S D) (hz : zz = (if hasT (dF D 0) t then (if curt (dF D 0) t then .inl (some (.int (vAt 12 (fA (dF D 0) 4) t))) else .inr eN) else .inr eI)) (hag : (∃ v, zz = .inl (some (.int v))) ∨ zz = .inr eI ∨ zz = .inr eN) (hk : K (.inl (some (.int (rdI zz)))) S) : RetH l G N (yL_limitOf, cL_limitOf, 3, some .int) [(0, 5, 6, 19), (0, 5, 11, 49)] (9, 150, 2, 12) [.ref (ad G 0), .int t] S K := by
  refine ret_enterH (by decide +kernel) (Nat.le_of_ble_eq_true rfl) (fun X hX h hm => ?_)
  subst hX
  replace h : OK X G N cL_limitOf RL 3 (9, 150, 2, 12) := h
  replace hm : OKmH X G N K (some .int) [(0, 5, 6, 19), (0, 5, 11, 49)] (9, 150, 2, 12) := hm
  show AW X G 3 N 0 [(0, _), (1, _)] [] S 0 0
  refine r_aload_n (pc' := 1) h dL_limitOf_0 rfl rfl ?_
  refine r_iload_n (pc' := 2) h dL_limitOf_1 rfl rfl ?_
  refine r_callVH (st := []) (M := mX4_limitOf) (As := [.int t]) h hm dL_limitOf_2 lL_51 vX4_limitOf rfl hD.l0 hD.o0 rfl rfl (Nat.le_of_ble_eq_true rfl) (rrb rfl) (kX4_limitOf hD ?_)
  rw [← hz]
  rcases hag with ⟨v, e⟩ | e | e
  · rw [e] at hk ⊢
    show AW X G 3 N 5 _ _ S _ _
    exact r_ireturnH h hm dL_limitOf_5 (Nat.le_of_ble_eq_true rfl) (Nat.le_of_ble_eq_true rfl) hk
  · rw [e] at hk ⊢
    refine ⟨[], _, _, eI, hm.2.2.1, fun z hz => absurd hz List.not_mem_nil, by decide, by decide, lL_19, ci_I, fun q => ?_⟩
    show AW X G 3 N 6 _ _ S _ _
    refine r_astoren (j := 2) (pc' := 7) h rfl dL_limitOf_6 rfl (by decide) rfl ?_
    refine r_sipush (pc' := 10) (v := -25000) h dL_limitOf_7 rfl (by decide) ?_
    exact r_ireturnH h hm dL_limitOf_10 (Nat.le_of_ble_eq_true rfl) (Nat.le_of_ble_eq_true rfl) hk
  · rw [e] at hk ⊢
    refine ⟨[_], _, _, eN, hm.2.2.1, fun z hz => ?_, by decide, by decide, lL_49, ci_N, fun q => ?_⟩
    · cases List.mem_singleton.mp hz
      exact Or.inr ⟨by decide, eI, lL_19, by decide⟩
    · show AW X G 3 N 11 _ _ S _ _
      refine r_astoren (j := 2) (pc' := 12) h rfl dL_limitOf_11 rfl (by decide) rfl ?_
      refine r_sipush (pc' := 15) (v := -30000) h dL_limitOf_12 rfl (by decide) ?_
      exact r_ireturnH h hm dL_limitOf_15 (Nat.le_of_ble_eq_true rfl) (Nat.le_of_ble_eq_true rfl) hk
theorem kL_serviceHoursLeft {l : Launch} {G : GX} {N : Nat} {S : Nat → va_E} {K : RK} {D : DM} {t : Int32} {zz : RO} (hD : isD G N S D) (hz : zz = (if hasT (dF D 0) t then (if inSt (dF D 0) t 3 then .inl (some (.int (vAt 12 (fA (dF D 0) 5) t))) else .inr eN) else .inr eI)) (hag : (∃ v, zz = .inl (some (.int v))) ∨ zz = .inr eI ∨ zz = .inr eN) (hk : K (.inl (some (.int (rdI zz)))) S) : RetH l G N (yL_serviceHoursLeft, cL_serviceHoursLeft, 3, some .int) [(0, 5, 6, 19), (0, 5, 11, 49)] (9, 150, 2, 12) [.ref (ad G 0), .int t] S K := by
  refine ret_enterH (by decide +kernel) (Nat.le_of_ble_eq_true rfl) (fun X hX h hm => ?_)
  subst hX
  replace h : OK X G N cL_serviceHoursLeft RL 3 (9, 150, 2, 12) := h
  replace hm : OKmH X G N K (some .int) [(0, 5, 6, 19), (0, 5, 11, 49)] (9, 150, 2, 12) := hm
  show AW X G 3 N 0 [(0, _), (1, _)] [] S 0 0
  refine r_aload_n (pc' := 1) h dL_serviceHoursLeft_0 rfl rfl ?_
  refine r_iload_n (pc' := 2) h dL_serviceHoursLeft_1 rfl rfl ?_
  refine r_callVH (st := []) (M := mX4_serviceHoursLeft) (As := [.int t]) h hm dL_serviceHoursLeft_2 lL_54 vX4_serviceHoursLeft rfl hD.l0 hD.o0 rfl rfl (Nat.le_of_ble_eq_true rfl) (rrb rfl) (kX4_serviceHoursLeft hD ?_)
  rw [← hz]
  rcases hag with ⟨v, e⟩ | e | e
  · rw [e] at hk ⊢
    show AW X G 3 N 5 _ _ S _ _
    exact r_ireturnH h hm dL_serviceHoursLeft_5 (Nat.le_of_ble_eq_true rfl) (Nat.le_of_ble_eq_true rfl) hk
  · rw [e] at hk ⊢
    refine ⟨[], _, _, eI, hm.2.2.1, fun z hz => absurd hz List.not_mem_nil, by decide, by decide, lL_19, ci_I, fun q => ?_⟩
    show AW X G 3 N 6 _ _ S _ _
    refine r_astoren (j := 2) (pc' := 7) h rfl dL_serviceHoursLeft_6 rfl (by decide) rfl ?_
    refine r_sipush (pc' := 10) (v := -25000) h dL_serviceHoursLeft_7 rfl (by decide) ?_
    exact r_ireturnH h hm dL_serviceHoursLeft_10 (Nat.le_of_ble_eq_true rfl) (Nat.le_of_ble_eq_true rfl) hk
  · rw [e] at hk ⊢
    refine ⟨[_], _, _, eN, hm.2.2.1, fun z hz => ?_, by decide, by decide, lL_49, ci_N, fun q => ?_⟩
    · cases List.mem_singleton.mp hz
      exact Or.inr ⟨by decide, eI, lL_19, by decide⟩
    · show AW X G 3 N 11 _ _ S _ _
      refine r_astoren (j := 2) (pc' := 12) h rfl dL_serviceHoursLeft_11 rfl (by decide) rfl ?_
      refine r_sipush (pc' := 15) (v := -30000) h dL_serviceHoursLeft_12 rfl (by decide) ?_
      exact r_ireturnH h hm dL_serviceHoursLeft_15 (Nat.le_of_ble_eq_true rfl) (Nat.le_of_ble_eq_true rfl) hk
theorem kL_bidPrice {l : Launch} {G : GX} {N : Nat} {S : Nat → va_E} {K : RK} {D : DM} {t : Int32} {zz : RO} (hD : isD G N S D) (hz : zz = (if isHour' t then (if bidF (dF D 0) t then .inl (some (.int (vAt 24 (fA (dF D 0) 7) t))) else .inr eN) else .inr eI)) (hag : (∃ v, zz = .inl (some (.int v))) ∨ zz = .inr eI ∨ zz = .inr eN) (hk : K (.inl (some (.int (rdI zz)))) S) : RetH l G N (yL_bidPrice, cL_bidPrice, 3, some .int) [(0, 5, 6, 19), (0, 5, 11, 49)] (10, 170, 2, 12) [.ref (ad G 0), .int t] S K := by
  refine ret_enterH (by decide +kernel) (Nat.le_of_ble_eq_true rfl) (fun X hX h hm => ?_)
  subst hX
  replace h : OK X G N cL_bidPrice RL 3 (10, 170, 2, 12) := h
  replace hm : OKmH X G N K (some .int) [(0, 5, 6, 19), (0, 5, 11, 49)] (10, 170, 2, 12) := hm
  show AW X G 3 N 0 [(0, _), (1, _)] [] S 0 0
  refine r_aload_n (pc' := 1) h dL_bidPrice_0 rfl rfl ?_
  refine r_iload_n (pc' := 2) h dL_bidPrice_1 rfl rfl ?_
  refine r_callVH (st := []) (M := mX4_bidPrice) (As := [.int t]) h hm dL_bidPrice_2 lL_70 vX4_bidPrice rfl hD.l0 hD.o0 rfl rfl (Nat.le_of_ble_eq_true rfl) (rrb rfl) (kX4_bidPrice hD ?_)
  rw [← hz]
  rcases hag with ⟨v, e⟩ | e | e
  · rw [e] at hk ⊢
    show AW X G 3 N 5 _ _ S _ _
    exact r_ireturnH h hm dL_bidPrice_5 (Nat.le_of_ble_eq_true rfl) (Nat.le_of_ble_eq_true rfl) hk
  · rw [e] at hk ⊢
    refine ⟨[], _, _, eI, hm.2.2.1, fun z hz => absurd hz List.not_mem_nil, by decide, by decide, lL_19, ci_I, fun q => ?_⟩
    show AW X G 3 N 6 _ _ S _ _
    refine r_astoren (j := 2) (pc' := 7) h rfl dL_bidPrice_6 rfl (by decide) rfl ?_
    refine r_sipush (pc' := 10) (v := -25000) h dL_bidPrice_7 rfl (by decide) ?_
    exact r_ireturnH h hm dL_bidPrice_10 (Nat.le_of_ble_eq_true rfl) (Nat.le_of_ble_eq_true rfl) hk
  · rw [e] at hk ⊢
    refine ⟨[_], _, _, eN, hm.2.2.1, fun z hz => ?_, by decide, by decide, lL_49, ci_N, fun q => ?_⟩
    · cases List.mem_singleton.mp hz
      exact Or.inr ⟨by decide, eI, lL_19, by decide⟩
    · show AW X G 3 N 11 _ _ S _ _
      refine r_astoren (j := 2) (pc' := 12) h rfl dL_bidPrice_11 rfl (by decide) rfl ?_
      refine r_sipush (pc' := 15) (v := -30000) h dL_bidPrice_12 rfl (by decide) ?_
      exact r_ireturnH h hm dL_bidPrice_15 (Nat.le_of_ble_eq_true rfl) (Nat.le_of_ble_eq_true rfl) hk
theorem kL_bidQuantity {l : Launch} {G : GX} {N : Nat} {S : Nat → va_E} {K : RK} {D : DM} {t : Int32} {zz : RO} (hD : isD G N S D) (hz : zz = (if isHour' t then (if bidF (dF D 0) t then .inl (some (.int (vAt 24 (fA (dF D 0) 8) t))) else .inr eN) else .inr eI)) (hag : (∃ v, zz = .inl (some (.int v))) ∨ zz = .inr eI ∨ zz = .inr eN) (hk : K (.inl (some (.int (rdI zz)))) S) : RetH l G N (yL_bidQuantity, cL_bidQuantity, 3, some .int) [(0, 5, 6, 19), (0, 5, 11, 49)] (10, 170, 2, 12) [.ref (ad G 0), .int t] S K := by
  refine ret_enterH (by decide +kernel) (Nat.le_of_ble_eq_true rfl) (fun X hX h hm => ?_)
  subst hX
  replace h : OK X G N cL_bidQuantity RL 3 (10, 170, 2, 12) := h
  replace hm : OKmH X G N K (some .int) [(0, 5, 6, 19), (0, 5, 11, 49)] (10, 170, 2, 12) := hm
  show AW X G 3 N 0 [(0, _), (1, _)] [] S 0 0
  refine r_aload_n (pc' := 1) h dL_bidQuantity_0 rfl rfl ?_
  refine r_iload_n (pc' := 2) h dL_bidQuantity_1 rfl rfl ?_
  refine r_callVH (st := []) (M := mX4_bidQuantity) (As := [.int t]) h hm dL_bidQuantity_2 lL_73 vX4_bidQuantity rfl hD.l0 hD.o0 rfl rfl (Nat.le_of_ble_eq_true rfl) (rrb rfl) (kX4_bidQuantity hD ?_)
  rw [← hz]
  rcases hag with ⟨v, e⟩ | e | e
  · rw [e] at hk ⊢
    show AW X G 3 N 5 _ _ S _ _
    exact r_ireturnH h hm dL_bidQuantity_5 (Nat.le_of_ble_eq_true rfl) (Nat.le_of_ble_eq_true rfl) hk
  · rw [e] at hk ⊢
    refine ⟨[], _, _, eI, hm.2.2.1, fun z hz => absurd hz List.not_mem_nil, by decide, by decide, lL_19, ci_I, fun q => ?_⟩
    show AW X G 3 N 6 _ _ S _ _
    refine r_astoren (j := 2) (pc' := 7) h rfl dL_bidQuantity_6 rfl (by decide) rfl ?_
    refine r_sipush (pc' := 10) (v := -25000) h dL_bidQuantity_7 rfl (by decide) ?_
    exact r_ireturnH h hm dL_bidQuantity_10 (Nat.le_of_ble_eq_true rfl) (Nat.le_of_ble_eq_true rfl) hk
  · rw [e] at hk ⊢
    refine ⟨[_], _, _, eN, hm.2.2.1, fun z hz => ?_, by decide, by decide, lL_49, ci_N, fun q => ?_⟩
    · cases List.mem_singleton.mp hz
      exact Or.inr ⟨by decide, eI, lL_19, by decide⟩
    · show AW X G 3 N 11 _ _ S _ _
      refine r_astoren (j := 2) (pc' := 12) h rfl dL_bidQuantity_11 rfl (by decide) rfl ?_
      refine r_sipush (pc' := 15) (v := -30000) h dL_bidQuantity_12 rfl (by decide) ?_
      exact r_ireturnH h hm dL_bidQuantity_15 (Nat.le_of_ble_eq_true rfl) (Nat.le_of_ble_eq_true rfl) hk
theorem kL_bidByPrice {l : Launch} {G : GX} {N : Nat} {S : Nat → va_E} {K : RK} {D : DM} {t : Int32} {zz : RO} (hD : isD G N S D) (hz : zz = (zBP (dF D 0) t 0 24)) (hag : (∃ v, zz = .inl (some (.int v))) ∨ zz = .inr eN) (hk : K (.inl (some (.int (rdI zz)))) S) : RetH l G N (yL_bidByPrice, cL_bidByPrice, 3, some .int) [(0, 5, 6, 49)] (8, 130, 1, 6) [.ref (ad G 0), .int t] S K := by
  refine ret_enterH (by decide +kernel) (Nat.le_of_ble_eq_true rfl) (fun X hX h hm => ?_)
  subst hX
  replace h : OK X G N cL_bidByPrice RL 3 (8, 130, 1, 6) := h
  replace hm : OKmH X G N K (some .int) [(0, 5, 6, 49)] (8, 130, 1, 6) := hm
  show AW X G 3 N 0 [(0, _), (1, _)] [] S 0 0
  refine r_aload_n (pc' := 1) h dL_bidByPrice_0 rfl rfl ?_
  refine r_iload_n (pc' := 2) h dL_bidByPrice_1 rfl rfl ?_
  refine r_callVH (st := []) (M := mX4_bidByPrice) (As := [.int t]) h hm dL_bidByPrice_2 lL_76 vX4_bidByPrice rfl hD.l0 hD.o0 rfl rfl (Nat.le_of_ble_eq_true rfl) (rrb rfl) (kX4_bidByPrice hD ?_)
  rw [← hz]
  rcases hag with ⟨v, e⟩ | e
  · rw [e] at hk ⊢
    show AW X G 3 N 5 _ _ S _ _
    exact r_ireturnH h hm dL_bidByPrice_5 (Nat.le_of_ble_eq_true rfl) (Nat.le_of_ble_eq_true rfl) hk
  · rw [e] at hk ⊢
    refine ⟨[], _, _, eN, hm.2.2.1, fun z hz => absurd hz List.not_mem_nil, by decide, by decide, lL_49, ci_N, fun q => ?_⟩
    show AW X G 3 N 6 _ _ S _ _
    refine r_astoren (j := 2) (pc' := 7) h rfl dL_bidByPrice_6 rfl (by decide) rfl ?_
    refine r_sipush (pc' := 10) (v := -30000) h dL_bidByPrice_7 rfl (by decide) ?_
    exact r_ireturnH h hm dL_bidByPrice_10 (Nat.le_of_ble_eq_true rfl) (Nat.le_of_ble_eq_true rfl) hk
theorem kL_hoursToBid {l : Launch} {G : GX} {N : Nat} {S : Nat → va_E} {K : RK} {D : DM} {zz : RO} (hD : isD G N S D) (hz : zz = (zHT (dF D 0) 0 24)) (hag : (∃ v, zz = .inl (some (.int v))) ∨ zz = .inr eN) (hk : K (.inl (some (.int (rdI zz)))) S) : RetH l G N (yL_hoursToBid, cL_hoursToBid, 2, some .int) [(0, 4, 5, 49)] (8, 130, 1, 6) [.ref (ad G 0)] S K := by
  refine ret_enterH (by decide +kernel) (Nat.le_of_ble_eq_true rfl) (fun X hX h hm => ?_)
  subst hX
  replace h : OK X G N cL_hoursToBid RL 2 (8, 130, 1, 6) := h
  replace hm : OKmH X G N K (some .int) [(0, 4, 5, 49)] (8, 130, 1, 6) := hm
  show AW X G 2 N 0 [(0, _)] [] S 0 0
  refine r_aload_n (pc' := 1) h dL_hoursToBid_0 rfl rfl ?_
  refine r_callVH (st := []) (M := mX4_hoursToBid) (As := []) h hm dL_hoursToBid_1 lL_82 vX4_hoursToBid rfl hD.l0 hD.o0 rfl rfl (Nat.le_of_ble_eq_true rfl) (rrb rfl) (kX4_hoursToBid hD ?_)
  rw [← hz]
  rcases hag with ⟨v, e⟩ | e
  · rw [e] at hk ⊢
    show AW X G 2 N 4 _ _ S _ _
    exact r_ireturnH h hm dL_hoursToBid_4 (Nat.le_of_ble_eq_true rfl) (Nat.le_of_ble_eq_true rfl) hk
  · rw [e] at hk ⊢
    refine ⟨[], _, _, eN, hm.2.2.1, fun z hz => absurd hz List.not_mem_nil, by decide, by decide, lL_49, ci_N, fun q => ?_⟩
    show AW X G 2 N 5 _ _ S _ _
    refine r_astoren (j := 1) (pc' := 6) h rfl dL_hoursToBid_5 rfl (by decide) rfl ?_
    refine r_sipush (pc' := 9) (v := -30000) h dL_hoursToBid_6 rfl (by decide) ?_
    exact r_ireturnH h hm dL_hoursToBid_9 (Nat.le_of_ble_eq_true rfl) (Nat.le_of_ble_eq_true rfl) hk
theorem kL_turbineByOutput {l : Launch} {G : GX} {N : Nat} {S : Nat → va_E} {K : RK} {D : DM} {t : Int32} {zz : RO} (hD : isD G N S D) (hw : wF (dF D 0)) (hz : zz = (zTP (dF D 0) t 0 (fN (dF D 0)))) (hag : (∃ v, zz = .inl (some (.int v))) ∨ zz = .inr eN) (hk : K (.inl (some (.int (rdI zz)))) S) : RetH l G N (yL_turbineByOutput, cL_turbineByOutput, 3, some .int) [(0, 5, 6, 49)] (8, 150, 1, 6) [.ref (ad G 0), .int t] S K := by
  refine ret_enterH (by decide +kernel) (Nat.le_of_ble_eq_true rfl) (fun X hX h hm => ?_)
  subst hX
  replace h : OK X G N cL_turbineByOutput RL 3 (8, 150, 1, 6) := h
  replace hm : OKmH X G N K (some .int) [(0, 5, 6, 49)] (8, 150, 1, 6) := hm
  show AW X G 3 N 0 [(0, _), (1, _)] [] S 0 0
  refine r_aload_n (pc' := 1) h dL_turbineByOutput_0 rfl rfl ?_
  refine r_iload_n (pc' := 2) h dL_turbineByOutput_1 rfl rfl ?_
  refine r_callVH (st := []) (M := mX4_turbineByOutput) (As := [.int t]) h hm dL_turbineByOutput_2 lL_85 vX4_turbineByOutput rfl hD.l0 hD.o0 rfl rfl (Nat.le_of_ble_eq_true rfl) (rrb rfl) (kX4_turbineByOutput hD hw ?_)
  rw [← hz]
  rcases hag with ⟨v, e⟩ | e
  · rw [e] at hk ⊢
    show AW X G 3 N 5 _ _ S _ _
    exact r_ireturnH h hm dL_turbineByOutput_5 (Nat.le_of_ble_eq_true rfl) (Nat.le_of_ble_eq_true rfl) hk
  · rw [e] at hk ⊢
    refine ⟨[], _, _, eN, hm.2.2.1, fun z hz => absurd hz List.not_mem_nil, by decide, by decide, lL_49, ci_N, fun q => ?_⟩
    show AW X G 3 N 6 _ _ S _ _
    refine r_astoren (j := 2) (pc' := 7) h rfl dL_turbineByOutput_6 rfl (by decide) rfl ?_
    refine r_sipush (pc' := 10) (v := -30000) h dL_turbineByOutput_7 rfl (by decide) ?_
    exact r_ireturnH h hm dL_turbineByOutput_10 (Nat.le_of_ble_eq_true rfl) (Nat.le_of_ble_eq_true rfl) hk
