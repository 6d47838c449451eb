/-! THE LAW's wrappers of changes. -/
theorem kL_addTurbine {l : Launch} {G : GX} {N : Nat} {S : Nat → va_E} {K : RK} {D : DM} {f : Nat → Int64} (hD : isD G N S D) (hN : 124 < N) (ho : S 124 = .inl (gJ G, 1, .inr (.inl f))) (hv : vD D) {x y z kk v : Int32} (hag : agr [eI, eA, eU] (zCh D 97 x y z).1 kk v)
    (hk : ∀ S1 g, isD G N S1 (zCh D 97 x y z).2 → (∀ j, 118 < j → j ≠ 124 → S1 j = S j) → S1 124 = .inl (gJ G, 1, .inr (.inl g)) → (kk = 0 → g 0 = v.toInt64) → K (.inl (some (.int kk))) S1) : RetH l G N (yL_addTurbine, cL_addTurbine, 6, some .int) [(0, 12, 15, 13), (0, 12, 19, 15), (0, 12, 23, 17)] (9, 163, 3, 18) [.ref (ad G 0), .int x, .int y, .int z, .ref (ad G 124)] S K := by
  refine ret_enterH (by decide +kernel) (Nat.le_of_ble_eq_true rfl) (fun X hX h hm => ?_)
  subst hX
  replace h : OK X G N cL_addTurbine RL 6 (9, 163, 3, 18) := h
  replace hm : OKmH X G N K (some .int) [(0, 12, 15, 13), (0, 12, 19, 15), (0, 12, 23, 17)] (9, 163, 3, 18) := hm
  show AW X G 6 N 0 [(0, _), (1, _), (2, _), (3, _), (4, _)] [] S 0 0
  refine r_aload (pc' := 2) h dL_addTurbine_0 rfl rfl ?_
  refine r_iconst (pc' := 3) (v := 0) h dL_addTurbine_2 rfl (by decide) ?_
  refine r_aload_n (pc' := 4) h dL_addTurbine_3 rfl rfl ?_
  refine r_iload_n (pc' := 5) h dL_addTurbine_4 rfl rfl ?_
  refine r_iload_n (pc' := 6) h dL_addTurbine_5 rfl rfl ?_
  refine r_iload_n (pc' := 7) h dL_addTurbine_6 rfl rfl ?_
  refine r_callVH (st := [.int 0, .ref (ad G 124)]) (M := mX4_addTurbine) (As := [.int x, .int y, .int z]) h hm dL_addTurbine_7 lL_7 vX4_addTurbine rfl hD.l0 hD.o0 rfl rfl (by show 1 + (1 + 0) ≤ 8; decide) ⟨by decide, by decide, by decide, by decide⟩ (kX4_addTurbine hD hv (fun S1 hD1 hR1 => ?_))
  rcases hag with ⟨e, ek⟩ | ⟨i, E, hi, e, ek⟩
  · rw [e]
    show AW X G 6 N 10 _ _ S1 _ _
    refine r_i2l (pc' := 11) h dL_addTurbine_10 rfl ?_
    refine r_last (pc' := 12) h dL_addTurbine_11 rfl hN ((hR1 124 (by decide)).trans ho) (show vp_in (nI 0) 1 from nI_in (by decide) (by decide)) ?_
    refine r_goto (tgt := 27) h dL_addTurbine_12 (by decide) ?_
    refine r_iconst (pc' := 28) (v := 0) h dL_addTurbine_27 rfl (by decide) ?_
    refine r_ireturnH h hm dL_addTurbine_28 (by decide) (by decide) ?_
    have key := hk _ (vp_updL f 0 v.toInt64) (hD1.world (S' := va_up S1 124 (.inl (gJ G, 1, .inr (.inl (vp_updL f 0 v.toInt64))))) (fun j hj => up_ne _ _ (by omega))) (fun j a1 a2 => (up_ne _ _ a2).trans (hR1 j a1)) (up_at _ _ _) (fun _ => upL_0 _ _)
    rw [ek] at key
    exact key
  · rw [e]
    have hi2 : i < 3 := (List.getElem?_eq_some_iff.mp hi).1
    have fin : ∀ n, kk = n → K (.inl (some (.int n))) S1 := fun n z => by
      rw [← z]
      exact hk S1 f hD1 (fun j a1 _ => hR1 j a1) ((hR1 124 (by decide)).trans ho) (fun z2 => absurd (ek.symm.trans z2) (nI_ne0 (by omega) (by omega)))
    rcases (by omega : i = 0 ∨ i = 1 ∨ i = 2) with rfl | rfl | rfl
    · cases hi
      refine ⟨[], _, _, eI, hm.2.2.1, fun z hz => absurd hz List.not_mem_nil, by decide, by decide, lL_13, ci_I, fun q => ?_⟩
      show AW X G 6 N 15 _ _ S1 _ _
      refine r_astore (pc' := 17) h dL_addTurbine_15 rfl (by decide) rfl ?_
      refine r_iconst (pc' := 18) (v := 1) h dL_addTurbine_17 rfl (by decide) ?_
      exact r_ireturnH h hm dL_addTurbine_18 (by decide) (by decide) (fin _ ek)
    · cases hi
      refine ⟨[_], _, _, eA, hm.2.2.1, fun z hz => ?_, by decide, by decide, lL_15, ci_A, fun q => ?_⟩
      · cases List.mem_singleton.mp hz
        exact Or.inr ⟨by decide, eI, lL_13, by decide⟩
      · show AW X G 6 N 19 _ _ S1 _ _
        refine r_astore (pc' := 21) h dL_addTurbine_19 rfl (by decide) rfl ?_
        refine r_iconst (pc' := 22) (v := 2) h dL_addTurbine_21 rfl (by decide) ?_
        exact r_ireturnH h hm dL_addTurbine_22 (by decide) (by decide) (fin _ ek)
    · cases hi
      refine ⟨[_, _], _, _, eU, hm.2.2.1, fun z hz => ?_, by decide, by decide, lL_17, ci_U, fun q => ?_⟩
      · rcases List.mem_cons.mp hz with rfl | hz
        · exact Or.inr ⟨by decide, eI, lL_13, by decide⟩
        · cases List.mem_singleton.mp hz
          exact Or.inr ⟨by decide, eA, lL_15, by decide⟩
      · show AW X G 6 N 23 _ _ S1 _ _
        refine r_astore (pc' := 25) h dL_addTurbine_23 rfl (by decide) rfl ?_
        refine r_iconst (pc' := 26) (v := 3) h dL_addTurbine_25 rfl (by decide) ?_
        exact r_ireturnH h hm dL_addTurbine_26 (by decide) (by decide) (fin _ ek)
theorem kL_sendCrew {l : Launch} {G : GX} {N : Nat} {S : Nat → va_E} {K : RK} {D : DM} {f : Nat → Int64} (hD : isD G N S D) (hN : 124 < N) (ho : S 124 = .inl (gJ G, 1, .inr (.inl f))) (hv : vD D) {x y kk v : Int32} (hag : agr [eI, eA, eU] (zCh D 115 x y 0).1 kk v)
    (hk : ∀ S1 g, isD G N S1 (zCh D 115 x y 0).2 → (∀ j, 118 < j → j ≠ 124 → S1 j = S j) → S1 124 = .inl (gJ G, 1, .inr (.inl g)) → (kk = 0 → g 0 = v.toInt64) → K (.inl (some (.int kk))) S1) : RetH l G N (yL_sendCrew, cL_sendCrew, 5, some .int) [(0, 10, 13, 13), (0, 10, 17, 15), (0, 10, 21, 17)] (9, 162, 3, 18) [.ref (ad G 0), .int x, .int y, .ref (ad G 124)] S K := by
  refine ret_enterH (by decide +kernel) (Nat.le_of_ble_eq_true rfl) (fun X hX h hm => ?_)
  subst hX
  replace h : OK X G N cL_sendCrew RL 5 (9, 162, 3, 18) := h
  replace hm : OKmH X G N K (some .int) [(0, 10, 13, 13), (0, 10, 17, 15), (0, 10, 21, 17)] (9, 162, 3, 18) := hm
  show AW X G 5 N 0 [(0, _), (1, _), (2, _), (3, _)] [] S 0 0
  refine r_aload_n (pc' := 1) h dL_sendCrew_0 rfl rfl ?_
  refine r_iconst (pc' := 2) (v := 0) h dL_sendCrew_1 rfl (by decide) ?_
  refine r_aload_n (pc' := 3) h dL_sendCrew_2 rfl rfl ?_
  refine r_iload_n (pc' := 4) h dL_sendCrew_3 rfl rfl ?_
  refine r_iload_n (pc' := 5) h dL_sendCrew_4 rfl rfl ?_
  refine r_callVH (st := [.int 0, .ref (ad G 124)]) (M := mX4_sendCrew) (As := [.int x, .int y]) h hm dL_sendCrew_5 lL_23 vX4_sendCrew rfl hD.l0 hD.o0 rfl rfl (by show 1 + (1 + 0) ≤ 8; decide) ⟨by decide, by decide, by decide, by decide⟩ (kX4_sendCrew hD hv (fun S1 hD1 hR1 => ?_))
  rcases hag with ⟨e, ek⟩ | ⟨i, E, hi, e, ek⟩
  · rw [e]
    show AW X G 5 N 8 _ _ S1 _ _
    refine r_i2l (pc' := 9) h dL_sendCrew_8 rfl ?_
    refine r_last (pc' := 10) h dL_sendCrew_9 rfl hN ((hR1 124 (by decide)).trans ho) (show vp_in (nI 0) 1 from nI_in (by decide) (by decide)) ?_
    refine r_goto (tgt := 25) h dL_sendCrew_10 (by decide) ?_
    refine r_iconst (pc' := 26) (v := 0) h dL_sendCrew_25 rfl (by decide) ?_
    refine r_ireturnH h hm dL_sendCrew_26 (by decide) (by decide) ?_
    have key := hk _ (vp_updL f 0 v.toInt64) (hD1.world (S' := va_up S1 124 (.inl (gJ G, 1, .inr (.inl (vp_updL f 0 v.toInt64))))) (fun j hj => up_ne _ _ (by omega))) (fun j a1 a2 => (up_ne _ _ a2).trans (hR1 j a1)) (up_at _ _ _) (fun _ => upL_0 _ _)
    rw [ek] at key
    exact key
  · rw [e]
    have hi2 : i < 3 := (List.getElem?_eq_some_iff.mp hi).1
    have fin : ∀ n, kk = n → K (.inl (some (.int n))) S1 := fun n z => by
      rw [← z]
      exact hk S1 f hD1 (fun j a1 _ => hR1 j a1) ((hR1 124 (by decide)).trans ho) (fun z2 => absurd (ek.symm.trans z2) (nI_ne0 (by omega) (by omega)))
    rcases (by omega : i = 0 ∨ i = 1 ∨ i = 2) with rfl | rfl | rfl
    · cases hi
      refine ⟨[], _, _, eI, hm.2.2.1, fun z hz => absurd hz List.not_mem_nil, by decide, by decide, lL_13, ci_I, fun q => ?_⟩
      show AW X G 5 N 13 _ _ S1 _ _
      refine r_astore (pc' := 15) h dL_sendCrew_13 rfl (by decide) rfl ?_
      refine r_iconst (pc' := 16) (v := 1) h dL_sendCrew_15 rfl (by decide) ?_
      exact r_ireturnH h hm dL_sendCrew_16 (by decide) (by decide) (fin _ ek)
    · cases hi
      refine ⟨[_], _, _, eA, hm.2.2.1, fun z hz => ?_, by decide, by decide, lL_15, ci_A, fun q => ?_⟩
      · cases List.mem_singleton.mp hz
        exact Or.inr ⟨by decide, eI, lL_13, by decide⟩
      · show AW X G 5 N 17 _ _ S1 _ _
        refine r_astore (pc' := 19) h dL_sendCrew_17 rfl (by decide) rfl ?_
        refine r_iconst (pc' := 20) (v := 2) h dL_sendCrew_19 rfl (by decide) ?_
        exact r_ireturnH h hm dL_sendCrew_20 (by decide) (by decide) (fin _ ek)
    · cases hi
      refine ⟨[_, _], _, _, eU, hm.2.2.1, fun z hz => ?_, by decide, by decide, lL_17, ci_U, fun q => ?_⟩
      · rcases List.mem_cons.mp hz with rfl | hz
        · exact Or.inr ⟨by decide, eI, lL_13, by decide⟩
        · cases List.mem_singleton.mp hz
          exact Or.inr ⟨by decide, eA, lL_15, by decide⟩
      · show AW X G 5 N 21 _ _ S1 _ _
        refine r_astore (pc' := 23) h dL_sendCrew_21 rfl (by decide) rfl ?_
        refine r_iconst (pc' := 24) (v := 3) h dL_sendCrew_23 rfl (by decide) ?_
        exact r_ireturnH h hm dL_sendCrew_24 (by decide) (by decide) (fin _ ek)
theorem kL_recallCrew {l : Launch} {G : GX} {N : Nat} {S : Nat → va_E} {K : RK} {D : DM} {f : Nat → Int64} (hD : isD G N S D) (hN : 124 < N) (ho : S 124 = .inl (gJ G, 1, .inr (.inl f))) (hv : vD D) {x kk v : Int32} (hag : agr [eI, eU] (zCh D 114 x 0 0).1 kk v)
    (hk : ∀ S1 g, isD G N S1 (zCh D 114 x 0 0).2 → (∀ j, 118 < j → j ≠ 124 → S1 j = S j) → S1 124 = .inl (gJ G, 1, .inr (.inl g)) → (kk = 0 → g 0 = v.toInt64) → K (.inl (some (.int kk))) S1) : RetH l G N (yL_recallCrew, cL_recallCrew, 4, some .int) [(0, 9, 12, 13), (0, 9, 15, 17)] (9, 161, 3, 18) [.ref (ad G 0), .int x, .ref (ad G 124)] S K := by
  refine ret_enterH (by decide +kernel) (Nat.le_of_ble_eq_true rfl) (fun X hX h hm => ?_)
  subst hX
  replace h : OK X G N cL_recallCrew RL 4 (9, 161, 3, 18) := h
  replace hm : OKmH X G N K (some .int) [(0, 9, 12, 13), (0, 9, 15, 17)] (9, 161, 3, 18) := hm
  show AW X G 4 N 0 [(0, _), (1, _), (2, _)] [] S 0 0
  refine r_aload_n (pc' := 1) h dL_recallCrew_0 rfl rfl ?_
  refine r_iconst (pc' := 2) (v := 0) h dL_recallCrew_1 rfl (by decide) ?_
  refine r_aload_n (pc' := 3) h dL_recallCrew_2 rfl rfl ?_
  refine r_iload_n (pc' := 4) h dL_recallCrew_3 rfl rfl ?_
  refine r_callVH (st := [.int 0, .ref (ad G 124)]) (M := mX4_recallCrew) (As := [.int x]) h hm dL_recallCrew_4 lL_27 vX4_recallCrew rfl hD.l0 hD.o0 rfl rfl (by show 1 + (1 + 0) ≤ 8; decide) ⟨by decide, by decide, by decide, by decide⟩ (kX4_recallCrew hD hv (fun S1 hD1 hR1 => ?_))
  rcases hag with ⟨e, ek⟩ | ⟨i, E, hi, e, ek⟩
  · rw [e]
    show AW X G 4 N 7 _ _ S1 _ _
    refine r_i2l (pc' := 8) h dL_recallCrew_7 rfl ?_
    refine r_last (pc' := 9) h dL_recallCrew_8 rfl hN ((hR1 124 (by decide)).trans ho) (show vp_in (nI 0) 1 from nI_in (by decide) (by decide)) ?_
    refine r_goto (tgt := 18) h dL_recallCrew_9 (by decide) ?_
    refine r_iconst (pc' := 19) (v := 0) h dL_recallCrew_18 rfl (by decide) ?_
    refine r_ireturnH h hm dL_recallCrew_19 (by decide) (by decide) ?_
    have key := hk _ (vp_updL f 0 v.toInt64) (hD1.world (S' := va_up S1 124 (.inl (gJ G, 1, .inr (.inl (vp_updL f 0 v.toInt64))))) (fun j hj => up_ne _ _ (by omega))) (fun j a1 a2 => (up_ne _ _ a2).trans (hR1 j a1)) (up_at _ _ _) (fun _ => upL_0 _ _)
    rw [ek] at key
    exact key
  · rw [e]
    have hi2 : i < 2 := (List.getElem?_eq_some_iff.mp hi).1
    have fin : ∀ n, kk = n → K (.inl (some (.int n))) S1 := fun n z => by
      rw [← z]
      exact hk S1 f hD1 (fun j a1 _ => hR1 j a1) ((hR1 124 (by decide)).trans ho) (fun z2 => absurd (ek.symm.trans z2) (nI_ne0 (by omega) (by omega)))
    rcases (by omega : i = 0 ∨ i = 1) with rfl | rfl
    · cases hi
      refine ⟨[], _, _, eI, hm.2.2.1, fun z hz => absurd hz List.not_mem_nil, by decide, by decide, lL_13, ci_I, fun q => ?_⟩
      show AW X G 4 N 12 _ _ S1 _ _
      refine r_astore_n (pc' := 13) h dL_recallCrew_12 rfl (by decide) rfl ?_
      refine r_iconst (pc' := 14) (v := 1) h dL_recallCrew_13 rfl (by decide) ?_
      exact r_ireturnH h hm dL_recallCrew_14 (by decide) (by decide) (fin _ ek)
    · cases hi
      refine ⟨[_], _, _, eU, hm.2.2.1, fun z hz => ?_, by decide, by decide, lL_17, ci_U, fun q => ?_⟩
      · cases List.mem_singleton.mp hz
        exact Or.inr ⟨by decide, eI, lL_13, by decide⟩
      · show AW X G 4 N 15 _ _ S1 _ _
        refine r_astore_n (pc' := 16) h dL_recallCrew_15 rfl (by decide) rfl ?_
        refine r_iconst (pc' := 17) (v := 2) h dL_recallCrew_16 rfl (by decide) ?_
        exact r_ireturnH h hm dL_recallCrew_17 (by decide) (by decide) (fin _ ek)
theorem kL_curtail {l : Launch} {G : GX} {N : Nat} {S : Nat → va_E} {K : RK} {D : DM} {f : Nat → Int64} (hD : isD G N S D) (hN : 124 < N) (ho : S 124 = .inl (gJ G, 1, .inr (.inl f))) (hv : vD D) {x y kk v : Int32} (hag : agr [eI, eA, eU] (zCh D 99 x y 0).1 kk v)
    (hk : ∀ S1 g, isD G N S1 (zCh D 99 x y 0).2 → (∀ j, 118 < j → j ≠ 124 → S1 j = S j) → S1 124 = .inl (gJ G, 1, .inr (.inl g)) → (kk = 0 → g 0 = v.toInt64) → K (.inl (some (.int kk))) S1) : RetH l G N (yL_curtail, cL_curtail, 5, some .int) [(0, 10, 13, 13), (0, 10, 17, 15), (0, 10, 21, 17)] (9, 162, 3, 18) [.ref (ad G 0), .int x, .int y, .ref (ad G 124)] S K := by
  refine ret_enterH (by decide +kernel) (Nat.le_of_ble_eq_true rfl) (fun X hX h hm => ?_)
  subst hX
  replace h : OK X G N cL_curtail RL 5 (9, 162, 3, 18) := h
  replace hm : OKmH X G N K (some .int) [(0, 10, 13, 13), (0, 10, 17, 15), (0, 10, 21, 17)] (9, 162, 3, 18) := hm
  show AW X G 5 N 0 [(0, _), (1, _), (2, _), (3, _)] [] S 0 0
  refine r_aload_n (pc' := 1) h dL_curtail_0 rfl rfl ?_
  refine r_iconst (pc' := 2) (v := 0) h dL_curtail_1 rfl (by decide) ?_
  refine r_aload_n (pc' := 3) h dL_curtail_2 rfl rfl ?_
  refine r_iload_n (pc' := 4) h dL_curtail_3 rfl rfl ?_
  refine r_iload_n (pc' := 5) h dL_curtail_4 rfl rfl ?_
  refine r_callVH (st := [.int 0, .ref (ad G 124)]) (M := mX4_curtail) (As := [.int x, .int y]) h hm dL_curtail_5 lL_30 vX4_curtail rfl hD.l0 hD.o0 rfl rfl (by show 1 + (1 + 0) ≤ 8; decide) ⟨by decide, by decide, by decide, by decide⟩ (kX4_curtail hD hv (fun S1 hD1 hR1 => ?_))
  rcases hag with ⟨e, ek⟩ | ⟨i, E, hi, e, ek⟩
  · rw [e]
    show AW X G 5 N 8 _ _ S1 _ _
    refine r_i2l (pc' := 9) h dL_curtail_8 rfl ?_
    refine r_last (pc' := 10) h dL_curtail_9 rfl hN ((hR1 124 (by decide)).trans ho) (show vp_in (nI 0) 1 from nI_in (by decide) (by decide)) ?_
    refine r_goto (tgt := 25) h dL_curtail_10 (by decide) ?_
    refine r_iconst (pc' := 26) (v := 0) h dL_curtail_25 rfl (by decide) ?_
    refine r_ireturnH h hm dL_curtail_26 (by decide) (by decide) ?_
    have key := hk _ (vp_updL f 0 v.toInt64) (hD1.world (S' := va_up S1 124 (.inl (gJ G, 1, .inr (.inl (vp_updL f 0 v.toInt64))))) (fun j hj => up_ne _ _ (by omega))) (fun j a1 a2 => (up_ne _ _ a2).trans (hR1 j a1)) (up_at _ _ _) (fun _ => upL_0 _ _)
    rw [ek] at key
    exact key
  · rw [e]
    have hi2 : i < 3 := (List.getElem?_eq_some_iff.mp hi).1
    have fin : ∀ n, kk = n → K (.inl (some (.int n))) S1 := fun n z => by
      rw [← z]
      exact hk S1 f hD1 (fun j a1 _ => hR1 j a1) ((hR1 124 (by decide)).trans ho) (fun z2 => absurd (ek.symm.trans z2) (nI_ne0 (by omega) (by omega)))
    rcases (by omega : i = 0 ∨ i = 1 ∨ i = 2) with rfl | rfl | rfl
    · cases hi
      refine ⟨[], _, _, eI, hm.2.2.1, fun z hz => absurd hz List.not_mem_nil, by decide, by decide, lL_13, ci_I, fun q => ?_⟩
      show AW X G 5 N 13 _ _ S1 _ _
      refine r_astore (pc' := 15) h dL_curtail_13 rfl (by decide) rfl ?_
      refine r_iconst (pc' := 16) (v := 1) h dL_curtail_15 rfl (by decide) ?_
      exact r_ireturnH h hm dL_curtail_16 (by decide) (by decide) (fin _ ek)
    · cases hi
      refine ⟨[_], _, _, eA, hm.2.2.1, fun z hz => ?_, by decide, by decide, lL_15, ci_A, fun q => ?_⟩
      · cases List.mem_singleton.mp hz
        exact Or.inr ⟨by decide, eI, lL_13, by decide⟩
      · show AW X G 5 N 17 _ _ S1 _ _
        refine r_astore (pc' := 19) h dL_curtail_17 rfl (by decide) rfl ?_
        refine r_iconst (pc' := 20) (v := 2) h dL_curtail_19 rfl (by decide) ?_
        exact r_ireturnH h hm dL_curtail_20 (by decide) (by decide) (fin _ ek)
    · cases hi
      refine ⟨[_, _], _, _, eU, hm.2.2.1, fun z hz => ?_, by decide, by decide, lL_17, ci_U, fun q => ?_⟩
      · rcases List.mem_cons.mp hz with rfl | hz
        · exact Or.inr ⟨by decide, eI, lL_13, by decide⟩
        · cases List.mem_singleton.mp hz
          exact Or.inr ⟨by decide, eA, lL_15, by decide⟩
      · show AW X G 5 N 21 _ _ S1 _ _
        refine r_astore (pc' := 23) h dL_curtail_21 rfl (by decide) rfl ?_
        refine r_iconst (pc' := 24) (v := 3) h dL_curtail_23 rfl (by decide) ?_
        exact r_ireturnH h hm dL_curtail_24 (by decide) (by decide) (fin _ ek)
theorem kL_release {l : Launch} {G : GX} {N : Nat} {S : Nat → va_E} {K : RK} {D : DM} {f : Nat → Int64} (hD : isD G N S D) (hN : 124 < N) (ho : S 124 = .inl (gJ G, 1, .inr (.inl f))) (hv : vD D) {x kk v : Int32} (hag : agr [eI, eU] (zCh D 117 x 0 0).1 kk v)
    (hk : ∀ S1 g, isD G N S1 (zCh D 117 x 0 0).2 → (∀ j, 118 < j → j ≠ 124 → S1 j = S j) → S1 124 = .inl (gJ G, 1, .inr (.inl g)) → (kk = 0 → g 0 = v.toInt64) → K (.inl (some (.int kk))) S1) : RetH l G N (yL_release, cL_release, 4, some .int) [(0, 9, 12, 13), (0, 9, 15, 17)] (9, 161, 3, 18) [.ref (ad G 0), .int x, .ref (ad G 124)] S K := by
  refine ret_enterH (by decide +kernel) (Nat.le_of_ble_eq_true rfl) (fun X hX h hm => ?_)
  subst hX
  replace h : OK X G N cL_release RL 4 (9, 161, 3, 18) := h
  replace hm : OKmH X G N K (some .int) [(0, 9, 12, 13), (0, 9, 15, 17)] (9, 161, 3, 18) := hm
  show AW X G 4 N 0 [(0, _), (1, _), (2, _)] [] S 0 0
  refine r_aload_n (pc' := 1) h dL_release_0 rfl rfl ?_
  refine r_iconst (pc' := 2) (v := 0) h dL_release_1 rfl (by decide) ?_
  refine r_aload_n (pc' := 3) h dL_release_2 rfl rfl ?_
  refine r_iload_n (pc' := 4) h dL_release_3 rfl rfl ?_
  refine r_callVH (st := [.int 0, .ref (ad G 124)]) (M := mX4_release) (As := [.int x]) h hm dL_release_4 lL_33 vX4_release rfl hD.l0 hD.o0 rfl rfl (by show 1 + (1 + 0) ≤ 8; decide) ⟨by decide, by decide, by decide, by decide⟩ (kX4_release hD hv (fun S1 hD1 hR1 => ?_))
  rcases hag with ⟨e, ek⟩ | ⟨i, E, hi, e, ek⟩
  · rw [e]
    show AW X G 4 N 7 _ _ S1 _ _
    refine r_i2l (pc' := 8) h dL_release_7 rfl ?_
    refine r_last (pc' := 9) h dL_release_8 rfl hN ((hR1 124 (by decide)).trans ho) (show vp_in (nI 0) 1 from nI_in (by decide) (by decide)) ?_
    refine r_goto (tgt := 18) h dL_release_9 (by decide) ?_
    refine r_iconst (pc' := 19) (v := 0) h dL_release_18 rfl (by decide) ?_
    refine r_ireturnH h hm dL_release_19 (by decide) (by decide) ?_
    have key := hk _ (vp_updL f 0 v.toInt64) (hD1.world (S' := va_up S1 124 (.inl (gJ G, 1, .inr (.inl (vp_updL f 0 v.toInt64))))) (fun j hj => up_ne _ _ (by omega))) (fun j a1 a2 => (up_ne _ _ a2).trans (hR1 j a1)) (up_at _ _ _) (fun _ => upL_0 _ _)
    rw [ek] at key
    exact key
  · rw [e]
    have hi2 : i < 2 := (List.getElem?_eq_some_iff.mp hi).1
    have fin : ∀ n, kk = n → K (.inl (some (.int n))) S1 := fun n z => by
      rw [← z]
      exact hk S1 f hD1 (fun j a1 _ => hR1 j a1) ((hR1 124 (by decide)).trans ho) (fun z2 => absurd (ek.symm.trans z2) (nI_ne0 (by omega) (by omega)))
    rcases (by omega : i = 0 ∨ i = 1) with rfl | rfl
    · cases hi
      refine ⟨[], _, _, eI, hm.2.2.1, fun z hz => absurd hz List.not_mem_nil, by decide, by decide, lL_13, ci_I, fun q => ?_⟩
      show AW X G 4 N 12 _ _ S1 _ _
      refine r_astore_n (pc' := 13) h dL_release_12 rfl (by decide) rfl ?_
      refine r_iconst (pc' := 14) (v := 1) h dL_release_13 rfl (by decide) ?_
      exact r_ireturnH h hm dL_release_14 (by decide) (by decide) (fin _ ek)
    · cases hi
      refine ⟨[_], _, _, eU, hm.2.2.1, fun z hz => ?_, by decide, by decide, lL_17, ci_U, fun q => ?_⟩
      · cases List.mem_singleton.mp hz
        exact Or.inr ⟨by decide, eI, lL_13, by decide⟩
      · show AW X G 4 N 15 _ _ S1 _ _
        refine r_astore_n (pc' := 16) h dL_release_15 rfl (by decide) rfl ?_
        refine r_iconst (pc' := 17) (v := 2) h dL_release_16 rfl (by decide) ?_
        exact r_ireturnH h hm dL_release_17 (by decide) (by decide) (fin _ ek)
theorem kL_placeBid {l : Launch} {G : GX} {N : Nat} {S : Nat → va_E} {K : RK} {D : DM} {f : Nat → Int64} (hD : isD G N S D) (hN : 124 < N) (ho : S 124 = .inl (gJ G, 1, .inr (.inl f))) (hv : vD D) {x y z kk v : Int32} (hag : agr [eI, eA, eU] (zCh D 98 x y z).1 kk v)
    (hk : ∀ S1 g, isD G N S1 (zCh D 98 x y z).2 → (∀ j, 118 < j → j ≠ 124 → S1 j = S j) → S1 124 = .inl (gJ G, 1, .inr (.inl g)) → (kk = 0 → g 0 = v.toInt64) → K (.inl (some (.int kk))) S1) : RetH l G N (yL_placeBid, cL_placeBid, 6, some .int) [(0, 12, 15, 13), (0, 12, 19, 15), (0, 12, 23, 17)] (9, 163, 3, 18) [.ref (ad G 0), .int x, .int y, .int z, .ref (ad G 124)] S K := by
  refine ret_enterH (by decide +kernel) (Nat.le_of_ble_eq_true rfl) (fun X hX h hm => ?_)
  subst hX
  replace h : OK X G N cL_placeBid RL 6 (9, 163, 3, 18) := h
  replace hm : OKmH X G N K (some .int) [(0, 12, 15, 13), (0, 12, 19, 15), (0, 12, 23, 17)] (9, 163, 3, 18) := hm
  show AW X G 6 N 0 [(0, _), (1, _), (2, _), (3, _), (4, _)] [] S 0 0
  refine r_aload (pc' := 2) h dL_placeBid_0 rfl rfl ?_
  refine r_iconst (pc' := 3) (v := 0) h dL_placeBid_2 rfl (by decide) ?_
  refine r_aload_n (pc' := 4) h dL_placeBid_3 rfl rfl ?_
  refine r_iload_n (pc' := 5) h dL_placeBid_4 rfl rfl ?_
  refine r_iload_n (pc' := 6) h dL_placeBid_5 rfl rfl ?_
  refine r_iload_n (pc' := 7) h dL_placeBid_6 rfl rfl ?_
  refine r_callVH (st := [.int 0, .ref (ad G 124)]) (M := mX4_placeBid) (As := [.int x, .int y, .int z]) h hm dL_placeBid_7 lL_85 vX4_placeBid rfl hD.l0 hD.o0 rfl rfl (by show 1 + (1 + 0) ≤ 8; decide) ⟨by decide, by decide, by decide, by decide⟩ (kX4_placeBid hD hv (fun S1 hD1 hR1 => ?_))
  rcases hag with ⟨e, ek⟩ | ⟨i, E, hi, e, ek⟩
  · rw [e]
    show AW X G 6 N 10 _ _ S1 _ _
    refine r_i2l (pc' := 11) h dL_placeBid_10 rfl ?_
    refine r_last (pc' := 12) h dL_placeBid_11 rfl hN ((hR1 124 (by decide)).trans ho) (show vp_in (nI 0) 1 from nI_in (by decide) (by decide)) ?_
    refine r_goto (tgt := 27) h dL_placeBid_12 (by decide) ?_
    refine r_iconst (pc' := 28) (v := 0) h dL_placeBid_27 rfl (by decide) ?_
    refine r_ireturnH h hm dL_placeBid_28 (by decide) (by decide) ?_
    have key := hk _ (vp_updL f 0 v.toInt64) (hD1.world (S' := va_up S1 124 (.inl (gJ G, 1, .inr (.inl (vp_updL f 0 v.toInt64))))) (fun j hj => up_ne _ _ (by omega))) (fun j a1 a2 => (up_ne _ _ a2).trans (hR1 j a1)) (up_at _ _ _) (fun _ => upL_0 _ _)
    rw [ek] at key
    exact key
  · rw [e]
    have hi2 : i < 3 := (List.getElem?_eq_some_iff.mp hi).1
    have fin : ∀ n, kk = n → K (.inl (some (.int n))) S1 := fun n z => by
      rw [← z]
      exact hk S1 f hD1 (fun j a1 _ => hR1 j a1) ((hR1 124 (by decide)).trans ho) (fun z2 => absurd (ek.symm.trans z2) (nI_ne0 (by omega) (by omega)))
    rcases (by omega : i = 0 ∨ i = 1 ∨ i = 2) with rfl | rfl | rfl
    · cases hi
      refine ⟨[], _, _, eI, hm.2.2.1, fun z hz => absurd hz List.not_mem_nil, by decide, by decide, lL_13, ci_I, fun q => ?_⟩
      show AW X G 6 N 15 _ _ S1 _ _
      refine r_astore (pc' := 17) h dL_placeBid_15 rfl (by decide) rfl ?_
      refine r_iconst (pc' := 18) (v := 1) h dL_placeBid_17 rfl (by decide) ?_
      exact r_ireturnH h hm dL_placeBid_18 (by decide) (by decide) (fin _ ek)
    · cases hi
      refine ⟨[_], _, _, eA, hm.2.2.1, fun z hz => ?_, by decide, by decide, lL_15, ci_A, fun q => ?_⟩
      · cases List.mem_singleton.mp hz
        exact Or.inr ⟨by decide, eI, lL_13, by decide⟩
      · show AW X G 6 N 19 _ _ S1 _ _
        refine r_astore (pc' := 21) h dL_placeBid_19 rfl (by decide) rfl ?_
        refine r_iconst (pc' := 22) (v := 2) h dL_placeBid_21 rfl (by decide) ?_
        exact r_ireturnH h hm dL_placeBid_22 (by decide) (by decide) (fin _ ek)
    · cases hi
      refine ⟨[_, _], _, _, eU, hm.2.2.1, fun z hz => ?_, by decide, by decide, lL_17, ci_U, fun q => ?_⟩
      · rcases List.mem_cons.mp hz with rfl | hz
        · exact Or.inr ⟨by decide, eI, lL_13, by decide⟩
        · cases List.mem_singleton.mp hz
          exact Or.inr ⟨by decide, eA, lL_15, by decide⟩
      · show AW X G 6 N 23 _ _ S1 _ _
        refine r_astore (pc' := 25) h dL_placeBid_23 rfl (by decide) rfl ?_
        refine r_iconst (pc' := 26) (v := 3) h dL_placeBid_25 rfl (by decide) ?_
        exact r_ireturnH h hm dL_placeBid_26 (by decide) (by decide) (fin _ ek)
theorem kL_withdrawBid {l : Launch} {G : GX} {N : Nat} {S : Nat → va_E} {K : RK} {D : DM} {f : Nat → Int64} (hD : isD G N S D) (hN : 124 < N) (ho : S 124 = .inl (gJ G, 1, .inr (.inl f))) (hv : vD D) {x kk v : Int32} (hag : agr [eI, eU] (zCh D 113 x 0 0).1 kk v)
    (hk : ∀ S1 g, isD G N S1 (zCh D 113 x 0 0).2 → (∀ j, 118 < j → j ≠ 124 → S1 j = S j) → S1 124 = .inl (gJ G, 1, .inr (.inl g)) → (kk = 0 → g 0 = v.toInt64) → K (.inl (some (.int kk))) S1) : RetH l G N (yL_withdrawBid, cL_withdrawBid, 4, some .int) [(0, 9, 12, 13), (0, 9, 15, 17)] (9, 161, 3, 18) [.ref (ad G 0), .int x, .ref (ad G 124)] S K := by
  refine ret_enterH (by decide +kernel) (Nat.le_of_ble_eq_true rfl) (fun X hX h hm => ?_)
  subst hX
  replace h : OK X G N cL_withdrawBid RL 4 (9, 161, 3, 18) := h
  replace hm : OKmH X G N K (some .int) [(0, 9, 12, 13), (0, 9, 15, 17)] (9, 161, 3, 18) := hm
  show AW X G 4 N 0 [(0, _), (1, _), (2, _)] [] S 0 0
  refine r_aload_n (pc' := 1) h dL_withdrawBid_0 rfl rfl ?_
  refine r_iconst (pc' := 2) (v := 0) h dL_withdrawBid_1 rfl (by decide) ?_
  refine r_aload_n (pc' := 3) h dL_withdrawBid_2 rfl rfl ?_
  refine r_iload_n (pc' := 4) h dL_withdrawBid_3 rfl rfl ?_
  refine r_callVH (st := [.int 0, .ref (ad G 124)]) (M := mX4_withdrawBid) (As := [.int x]) h hm dL_withdrawBid_4 lL_88 vX4_withdrawBid rfl hD.l0 hD.o0 rfl rfl (by show 1 + (1 + 0) ≤ 8; decide) ⟨by decide, by decide, by decide, by decide⟩ (kX4_withdrawBid hD hv (fun S1 hD1 hR1 => ?_))
  rcases hag with ⟨e, ek⟩ | ⟨i, E, hi, e, ek⟩
  · rw [e]
    show AW X G 4 N 7 _ _ S1 _ _
    refine r_i2l (pc' := 8) h dL_withdrawBid_7 rfl ?_
    refine r_last (pc' := 9) h dL_withdrawBid_8 rfl hN ((hR1 124 (by decide)).trans ho) (show vp_in (nI 0) 1 from nI_in (by decide) (by decide)) ?_
    refine r_goto (tgt := 18) h dL_withdrawBid_9 (by decide) ?_
    refine r_iconst (pc' := 19) (v := 0) h dL_withdrawBid_18 rfl (by decide) ?_
    refine r_ireturnH h hm dL_withdrawBid_19 (by decide) (by decide) ?_
    have key := hk _ (vp_updL f 0 v.toInt64) (hD1.world (S' := va_up S1 124 (.inl (gJ G, 1, .inr (.inl (vp_updL f 0 v.toInt64))))) (fun j hj => up_ne _ _ (by omega))) (fun j a1 a2 => (up_ne _ _ a2).trans (hR1 j a1)) (up_at _ _ _) (fun _ => upL_0 _ _)
    rw [ek] at key
    exact key
  · rw [e]
    have hi2 : i < 2 := (List.getElem?_eq_some_iff.mp hi).1
    have fin : ∀ n, kk = n → K (.inl (some (.int n))) S1 := fun n z => by
      rw [← z]
      exact hk S1 f hD1 (fun j a1 _ => hR1 j a1) ((hR1 124 (by decide)).trans ho) (fun z2 => absurd (ek.symm.trans z2) (nI_ne0 (by omega) (by omega)))
    rcases (by omega : i = 0 ∨ i = 1) with rfl | rfl
    · cases hi
      refine ⟨[], _, _, eI, hm.2.2.1, fun z hz => absurd hz List.not_mem_nil, by decide, by decide, lL_13, ci_I, fun q => ?_⟩
      show AW X G 4 N 12 _ _ S1 _ _
      refine r_astore_n (pc' := 13) h dL_withdrawBid_12 rfl (by decide) rfl ?_
      refine r_iconst (pc' := 14) (v := 1) h dL_withdrawBid_13 rfl (by decide) ?_
      exact r_ireturnH h hm dL_withdrawBid_14 (by decide) (by decide) (fin _ ek)
    · cases hi
      refine ⟨[_], _, _, eU, hm.2.2.1, fun z hz => ?_, by decide, by decide, lL_17, ci_U, fun q => ?_⟩
      · cases List.mem_singleton.mp hz
        exact Or.inr ⟨by decide, eI, lL_13, by decide⟩
      · show AW X G 4 N 15 _ _ S1 _ _
        refine r_astore_n (pc' := 16) h dL_withdrawBid_15 rfl (by decide) rfl ?_
        refine r_iconst (pc' := 17) (v := 2) h dL_withdrawBid_16 rfl (by decide) ?_
        exact r_ireturnH h hm dL_withdrawBid_17 (by decide) (by decide) (fin _ ek)
theorem kL_setGridLimit {l : Launch} {G : GX} {N : Nat} {S : Nat → va_E} {K : RK} {D : DM} {f : Nat → Int64} (hD : isD G N S D) (hN : 124 < N) (ho : S 124 = .inl (gJ G, 1, .inr (.inl f))) (hv : vD D) {x kk v : Int32} (hag : agr [eA] (zCh D 103 x 0 0).1 kk v)
    (hk : ∀ S1 g, isD G N S1 (zCh D 103 x 0 0).2 → (∀ j, 118 < j → j ≠ 124 → S1 j = S j) → S1 124 = .inl (gJ G, 1, .inr (.inl g)) → (kk = 0 → g 0 = v.toInt64) → K (.inl (some (.int kk))) S1) : RetH l G N (yL_setGridLimit, cL_setGridLimit, 4, some .int) [(0, 9, 12, 15)] (9, 161, 3, 18) [.ref (ad G 0), .int x, .ref (ad G 124)] S K := by
  refine ret_enterH (by decide +kernel) (Nat.le_of_ble_eq_true rfl) (fun X hX h hm => ?_)
  subst hX
  replace h : OK X G N cL_setGridLimit RL 4 (9, 161, 3, 18) := h
  replace hm : OKmH X G N K (some .int) [(0, 9, 12, 15)] (9, 161, 3, 18) := hm
  show AW X G 4 N 0 [(0, _), (1, _), (2, _)] [] S 0 0
  refine r_aload_n (pc' := 1) h dL_setGridLimit_0 rfl rfl ?_
  refine r_iconst (pc' := 2) (v := 0) h dL_setGridLimit_1 rfl (by decide) ?_
  refine r_aload_n (pc' := 3) h dL_setGridLimit_2 rfl rfl ?_
  refine r_iload_n (pc' := 4) h dL_setGridLimit_3 rfl rfl ?_
  refine r_callVH (st := [.int 0, .ref (ad G 124)]) (M := mX4_setGridLimit) (As := [.int x]) h hm dL_setGridLimit_4 lL_82 vX4_setGridLimit rfl hD.l0 hD.o0 rfl rfl (by show 1 + (1 + 0) ≤ 8; decide) ⟨by decide, by decide, by decide, by decide⟩ (kX4_setGridLimit hD hv (fun S1 hD1 hR1 => ?_))
  rcases hag with ⟨e, ek⟩ | ⟨i, E, hi, e, ek⟩
  · rw [e]
    show AW X G 4 N 7 _ _ S1 _ _
    refine r_i2l (pc' := 8) h dL_setGridLimit_7 rfl ?_
    refine r_last (pc' := 9) h dL_setGridLimit_8 rfl hN ((hR1 124 (by decide)).trans ho) (show vp_in (nI 0) 1 from nI_in (by decide) (by decide)) ?_
    refine r_goto (tgt := 15) h dL_setGridLimit_9 (by decide) ?_
    refine r_iconst (pc' := 16) (v := 0) h dL_setGridLimit_15 rfl (by decide) ?_
    refine r_ireturnH h hm dL_setGridLimit_16 (by decide) (by decide) ?_
    have key := hk _ (vp_updL f 0 v.toInt64) (hD1.world (S' := va_up S1 124 (.inl (gJ G, 1, .inr (.inl (vp_updL f 0 v.toInt64))))) (fun j hj => up_ne _ _ (by omega))) (fun j a1 a2 => (up_ne _ _ a2).trans (hR1 j a1)) (up_at _ _ _) (fun _ => upL_0 _ _)
    rw [ek] at key
    exact key
  · rw [e]
    have hi2 : i < 1 := (List.getElem?_eq_some_iff.mp hi).1
    have fin : ∀ n, kk = n → K (.inl (some (.int n))) S1 := fun n z => by
      rw [← z]
      exact hk S1 f hD1 (fun j a1 _ => hR1 j a1) ((hR1 124 (by decide)).trans ho) (fun z2 => absurd (ek.symm.trans z2) (nI_ne0 (by omega) (by omega)))
    obtain rfl : i = 0 := by omega
    · cases hi
      refine ⟨[], _, _, eA, hm.2.2.1, fun z hz => absurd hz List.not_mem_nil, by decide, by decide, lL_15, ci_A, fun q => ?_⟩
      show AW X G 4 N 12 _ _ S1 _ _
      refine r_astore_n (pc' := 13) h dL_setGridLimit_12 rfl (by decide) rfl ?_
      refine r_iconst (pc' := 14) (v := 1) h dL_setGridLimit_13 rfl (by decide) ?_
      exact r_ireturnH h hm dL_setGridLimit_14 (by decide) (by decide) (fin _ ek)
