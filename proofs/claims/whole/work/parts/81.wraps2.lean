/-! THE LAW's other wrappers of int answers. -/
theorem kL_turbineAt {l : Launch} {G : GX} {N : Nat} {S : Nat → va_E} {K : RK} {D D2 : DM} {o : RO} {f : Nat → Int64} (hD : isD G N S D) (hN : 124 < N) (ho : S 124 = .inl (gJ G, 1, .inr (.inl f))) {x y kk v : Int32} (hc : ∀ K1 : RK, (∀ S1, isD G N S1 D2 → DR S S1 → K1 o S1) → RetK l G N mX4_turbineAt (7, 103, 2, 12) [.ref (ad G 0), .int x, .int y] S K1) (hag : agr [eI, eN] o kk v)
    (hk : ∀ S1 g, isD G N S1 D2 → (∀ j, 118 < j → j ≠ 124 → S1 j = S j) → S1 124 = .inl (gJ G, 1, .inr (.inl g)) → (kk = 0 → g 0 = v.toInt64) → K (.inl (some (.int kk))) S1) : RetH l G N (yL_turbineAt, cL_turbineAt, 5, some .int) [(0, 10, 13, 13), (0, 10, 17, 39)] (8, 126, 2, 12) [.ref (ad G 0), .int x, .int y, .ref (ad G 124)] S K := by
  refine ret_enterH (by decide +kernel) (Nat.le_of_ble_eq_true rfl) (fun X hX h hm => ?_)
  subst hX
  replace h : OK X G N cL_turbineAt RL 5 (8, 126, 2, 12) := h
  replace hm : OKmH X G N K (some .int) [(0, 10, 13, 13), (0, 10, 17, 39)] (8, 126, 2, 12) := hm
  show AW X G 5 N 0 [(0, _), (1, _), (2, _), (3, _)] [] S 0 0
  refine r_aload_n (pc' := 1) h dL_turbineAt_0 rfl rfl ?_
  refine r_iconst (pc' := 2) (v := 0) h dL_turbineAt_1 rfl (by decide) ?_
  refine r_aload_n (pc' := 3) h dL_turbineAt_2 rfl rfl ?_
  refine r_iload_n (pc' := 4) h dL_turbineAt_3 rfl rfl ?_
  refine r_iload_n (pc' := 5) h dL_turbineAt_4 rfl rfl ?_
  refine r_callVH (st := [.int 0, .ref (ad G 124)]) (M := mX4_turbineAt) (As := [.int x, .int y]) h hm dL_turbineAt_5 lL_36 vX4_turbineAt rfl hD.l0 hD.o0 rfl rfl (by show 1 + (1 + 0) ≤ 8; decide) ⟨by decide, by decide, by decide, by decide⟩ (hc _ (fun S1 hD1 hR1 => ?_))
  rcases hag with ⟨e, ek⟩ | ⟨i, E, hi, e, ek⟩
  · rw [e]
    show AW X G 5 N 8 _ _ S1 _ _
    refine r_i2l (pc' := 9) h dL_turbineAt_8 rfl ?_
    refine r_last (pc' := 10) h dL_turbineAt_9 rfl hN ((hR1 124 (by decide)).trans ho) (show vp_in (nI 0) 1 from nI_in (by decide) (by decide)) ?_
    refine r_goto (tgt := 21) h dL_turbineAt_10 (by decide) ?_
    refine r_iconst (pc' := 22) (v := 0) h dL_turbineAt_21 rfl (by decide) ?_
    refine r_ireturnH h hm dL_turbineAt_22 (by decide) (by decide) ?_
    have key := hk _ (vp_updL f 0 v.toInt64) (hD1.world (S' := va_up S1 124 (.inl (gJ G, 1, .inr (.inl (vp_updL f 0 v.toInt64))))) (fun j hj => up_ne _ _ (by omega))) (fun j a1 a2 => (up_ne _ _ a2).trans (hR1 j a1)) (up_at _ _ _) (fun _ => upL_0 _ _)
    rw [ek] at key
    exact key
  · rw [e]
    have hi2 : i < 2 := (List.getElem?_eq_some_iff.mp hi).1
    have fin : ∀ n, kk = n → K (.inl (some (.int n))) S1 := fun n z => by
      rw [← z]
      exact hk S1 f hD1 (fun j a1 _ => hR1 j a1) ((hR1 124 (by decide)).trans ho) (fun z2 => absurd (ek.symm.trans z2) (nI_ne0 (by omega) (by omega)))
    rcases (by omega : i = 0 ∨ i = 1) with rfl | rfl
    · cases hi
      refine ⟨[], _, _, eI, hm.2.2.1, fun z hz => absurd hz List.not_mem_nil, by decide, by decide, lL_13, ci_I, fun q => ?_⟩
      show AW X G 5 N 13 _ _ S1 _ _
      refine r_astore (pc' := 15) h dL_turbineAt_13 rfl (by decide) rfl ?_
      refine r_iconst (pc' := 16) (v := 1) h dL_turbineAt_15 rfl (by decide) ?_
      exact r_ireturnH h hm dL_turbineAt_16 (by decide) (by decide) (fin _ ek)
    · cases hi
      refine ⟨[_], _, _, eN, hm.2.2.1, fun z hz => ?_, by decide, by decide, lL_39, ci_N, fun q => ?_⟩
      · cases List.mem_singleton.mp hz
        exact Or.inr ⟨by decide, eI, lL_13, by decide⟩
      · show AW X G 5 N 17 _ _ S1 _ _
        refine r_astore (pc' := 19) h dL_turbineAt_17 rfl (by decide) rfl ?_
        refine r_iconst (pc' := 20) (v := 2) h dL_turbineAt_19 rfl (by decide) ?_
        exact r_ireturnH h hm dL_turbineAt_20 (by decide) (by decide) (fin _ ek)
theorem kL_rowOf {l : Launch} {G : GX} {N : Nat} {S : Nat → va_E} {K : RK} {D D2 : DM} {o : RO} {f : Nat → Int64} (hD : isD G N S D) (hN : 124 < N) (ho : S 124 = .inl (gJ G, 1, .inr (.inl f))) {x kk v : Int32} (hc : ∀ K1 : RK, (∀ S1, isD G N S1 D2 → DR S S1 → K1 o S1) → RetK l G N mX4_rowOf (8, 124, 1, 6) [.ref (ad G 0), .int x] S K1) (hag : agr [eI] o kk v)
    (hk : ∀ S1 g, isD G N S1 D2 → (∀ j, 118 < j → j ≠ 124 → S1 j = S j) → S1 124 = .inl (gJ G, 1, .inr (.inl g)) → (kk = 0 → g 0 = v.toInt64) → K (.inl (some (.int kk))) S1) : RetH l G N (yL_rowOf, cL_rowOf, 4, some .int) [(0, 9, 12, 13)] (9, 145, 1, 6) [.ref (ad G 0), .int x, .ref (ad G 124)] S K := by
  refine ret_enterH (by decide +kernel) (Nat.le_of_ble_eq_true rfl) (fun X hX h hm => ?_)
  subst hX
  replace h : OK X G N cL_rowOf RL 4 (9, 145, 1, 6) := h
  replace hm : OKmH X G N K (some .int) [(0, 9, 12, 13)] (9, 145, 1, 6) := hm
  show AW X G 4 N 0 [(0, _), (1, _), (2, _)] [] S 0 0
  refine r_aload_n (pc' := 1) h dL_rowOf_0 rfl rfl ?_
  refine r_iconst (pc' := 2) (v := 0) h dL_rowOf_1 rfl (by decide) ?_
  refine r_aload_n (pc' := 3) h dL_rowOf_2 rfl rfl ?_
  refine r_iload_n (pc' := 4) h dL_rowOf_3 rfl rfl ?_
  refine r_callVH (st := [.int 0, .ref (ad G 124)]) (M := mX4_rowOf) (As := [.int x]) h hm dL_rowOf_4 lL_41 vX4_rowOf rfl hD.l0 hD.o0 rfl rfl (by show 1 + (1 + 0) ≤ 8; decide) ⟨by decide, by decide, by decide, by decide⟩ (hc _ (fun S1 hD1 hR1 => ?_))
  rcases hag with ⟨e, ek⟩ | ⟨i, E, hi, e, ek⟩
  · rw [e]
    show AW X G 4 N 7 _ _ S1 _ _
    refine r_i2l (pc' := 8) h dL_rowOf_7 rfl ?_
    refine r_last (pc' := 9) h dL_rowOf_8 rfl hN ((hR1 124 (by decide)).trans ho) (show vp_in (nI 0) 1 from nI_in (by decide) (by decide)) ?_
    refine r_goto (tgt := 15) h dL_rowOf_9 (by decide) ?_
    refine r_iconst (pc' := 16) (v := 0) h dL_rowOf_15 rfl (by decide) ?_
    refine r_ireturnH h hm dL_rowOf_16 (by decide) (by decide) ?_
    have key := hk _ (vp_updL f 0 v.toInt64) (hD1.world (S' := va_up S1 124 (.inl (gJ G, 1, .inr (.inl (vp_updL f 0 v.toInt64))))) (fun j hj => up_ne _ _ (by omega))) (fun j a1 a2 => (up_ne _ _ a2).trans (hR1 j a1)) (up_at _ _ _) (fun _ => upL_0 _ _)
    rw [ek] at key
    exact key
  · rw [e]
    have hi2 : i < 1 := (List.getElem?_eq_some_iff.mp hi).1
    have fin : ∀ n, kk = n → K (.inl (some (.int n))) S1 := fun n z => by
      rw [← z]
      exact hk S1 f hD1 (fun j a1 _ => hR1 j a1) ((hR1 124 (by decide)).trans ho) (fun z2 => absurd (ek.symm.trans z2) (nI_ne0 (by omega) (by omega)))
    obtain rfl : i = 0 := by omega
    · cases hi
      refine ⟨[], _, _, eI, hm.2.2.1, fun z hz => absurd hz List.not_mem_nil, by decide, by decide, lL_13, ci_I, fun q => ?_⟩
      show AW X G 4 N 12 _ _ S1 _ _
      refine r_astore_n (pc' := 13) h dL_rowOf_12 rfl (by decide) rfl ?_
      refine r_iconst (pc' := 14) (v := 1) h dL_rowOf_13 rfl (by decide) ?_
      exact r_ireturnH h hm dL_rowOf_14 (by decide) (by decide) (fin _ ek)
theorem kL_columnOf {l : Launch} {G : GX} {N : Nat} {S : Nat → va_E} {K : RK} {D D2 : DM} {o : RO} {f : Nat → Int64} (hD : isD G N S D) (hN : 124 < N) (ho : S 124 = .inl (gJ G, 1, .inr (.inl f))) {x kk v : Int32} (hc : ∀ K1 : RK, (∀ S1, isD G N S1 D2 → DR S S1 → K1 o S1) → RetK l G N mX4_columnOf (8, 124, 1, 6) [.ref (ad G 0), .int x] S K1) (hag : agr [eI] o kk v)
    (hk : ∀ S1 g, isD G N S1 D2 → (∀ j, 118 < j → j ≠ 124 → S1 j = S j) → S1 124 = .inl (gJ G, 1, .inr (.inl g)) → (kk = 0 → g 0 = v.toInt64) → K (.inl (some (.int kk))) S1) : RetH l G N (yL_columnOf, cL_columnOf, 4, some .int) [(0, 9, 12, 13)] (9, 145, 1, 6) [.ref (ad G 0), .int x, .ref (ad G 124)] S K := by
  refine ret_enterH (by decide +kernel) (Nat.le_of_ble_eq_true rfl) (fun X hX h hm => ?_)
  subst hX
  replace h : OK X G N cL_columnOf RL 4 (9, 145, 1, 6) := h
  replace hm : OKmH X G N K (some .int) [(0, 9, 12, 13)] (9, 145, 1, 6) := hm
  show AW X G 4 N 0 [(0, _), (1, _), (2, _)] [] S 0 0
  refine r_aload_n (pc' := 1) h dL_columnOf_0 rfl rfl ?_
  refine r_iconst (pc' := 2) (v := 0) h dL_columnOf_1 rfl (by decide) ?_
  refine r_aload_n (pc' := 3) h dL_columnOf_2 rfl rfl ?_
  refine r_iload_n (pc' := 4) h dL_columnOf_3 rfl rfl ?_
  refine r_callVH (st := [.int 0, .ref (ad G 124)]) (M := mX4_columnOf) (As := [.int x]) h hm dL_columnOf_4 lL_44 vX4_columnOf rfl hD.l0 hD.o0 rfl rfl (by show 1 + (1 + 0) ≤ 8; decide) ⟨by decide, by decide, by decide, by decide⟩ (hc _ (fun S1 hD1 hR1 => ?_))
  rcases hag with ⟨e, ek⟩ | ⟨i, E, hi, e, ek⟩
  · rw [e]
    show AW X G 4 N 7 _ _ S1 _ _
    refine r_i2l (pc' := 8) h dL_columnOf_7 rfl ?_
    refine r_last (pc' := 9) h dL_columnOf_8 rfl hN ((hR1 124 (by decide)).trans ho) (show vp_in (nI 0) 1 from nI_in (by decide) (by decide)) ?_
    refine r_goto (tgt := 15) h dL_columnOf_9 (by decide) ?_
    refine r_iconst (pc' := 16) (v := 0) h dL_columnOf_15 rfl (by decide) ?_
    refine r_ireturnH h hm dL_columnOf_16 (by decide) (by decide) ?_
    have key := hk _ (vp_updL f 0 v.toInt64) (hD1.world (S' := va_up S1 124 (.inl (gJ G, 1, .inr (.inl (vp_updL f 0 v.toInt64))))) (fun j hj => up_ne _ _ (by omega))) (fun j a1 a2 => (up_ne _ _ a2).trans (hR1 j a1)) (up_at _ _ _) (fun _ => upL_0 _ _)
    rw [ek] at key
    exact key
  · rw [e]
    have hi2 : i < 1 := (List.getElem?_eq_some_iff.mp hi).1
    have fin : ∀ n, kk = n → K (.inl (some (.int n))) S1 := fun n z => by
      rw [← z]
      exact hk S1 f hD1 (fun j a1 _ => hR1 j a1) ((hR1 124 (by decide)).trans ho) (fun z2 => absurd (ek.symm.trans z2) (nI_ne0 (by omega) (by omega)))
    obtain rfl : i = 0 := by omega
    · cases hi
      refine ⟨[], _, _, eI, hm.2.2.1, fun z hz => absurd hz List.not_mem_nil, by decide, by decide, lL_13, ci_I, fun q => ?_⟩
      show AW X G 4 N 12 _ _ S1 _ _
      refine r_astore_n (pc' := 13) h dL_columnOf_12 rfl (by decide) rfl ?_
      refine r_iconst (pc' := 14) (v := 1) h dL_columnOf_13 rfl (by decide) ?_
      exact r_ireturnH h hm dL_columnOf_14 (by decide) (by decide) (fin _ ek)
theorem kL_ratedPower {l : Launch} {G : GX} {N : Nat} {S : Nat → va_E} {K : RK} {D D2 : DM} {o : RO} {f : Nat → Int64} (hD : isD G N S D) (hN : 124 < N) (ho : S 124 = .inl (gJ G, 1, .inr (.inl f))) {x kk v : Int32} (hc : ∀ K1 : RK, (∀ S1, isD G N S1 D2 → DR S S1 → K1 o S1) → RetK l G N mX4_ratedPower (8, 124, 1, 6) [.ref (ad G 0), .int x] S K1) (hag : agr [eI] o kk v)
    (hk : ∀ S1 g, isD G N S1 D2 → (∀ j, 118 < j → j ≠ 124 → S1 j = S j) → S1 124 = .inl (gJ G, 1, .inr (.inl g)) → (kk = 0 → g 0 = v.toInt64) → K (.inl (some (.int kk))) S1) : RetH l G N (yL_ratedPower, cL_ratedPower, 4, some .int) [(0, 9, 12, 13)] (9, 145, 1, 6) [.ref (ad G 0), .int x, .ref (ad G 124)] S K := by
  refine ret_enterH (by decide +kernel) (Nat.le_of_ble_eq_true rfl) (fun X hX h hm => ?_)
  subst hX
  replace h : OK X G N cL_ratedPower RL 4 (9, 145, 1, 6) := h
  replace hm : OKmH X G N K (some .int) [(0, 9, 12, 13)] (9, 145, 1, 6) := hm
  show AW X G 4 N 0 [(0, _), (1, _), (2, _)] [] S 0 0
  refine r_aload_n (pc' := 1) h dL_ratedPower_0 rfl rfl ?_
  refine r_iconst (pc' := 2) (v := 0) h dL_ratedPower_1 rfl (by decide) ?_
  refine r_aload_n (pc' := 3) h dL_ratedPower_2 rfl rfl ?_
  refine r_iload_n (pc' := 4) h dL_ratedPower_3 rfl rfl ?_
  refine r_callVH (st := [.int 0, .ref (ad G 124)]) (M := mX4_ratedPower) (As := [.int x]) h hm dL_ratedPower_4 lL_47 vX4_ratedPower rfl hD.l0 hD.o0 rfl rfl (by show 1 + (1 + 0) ≤ 8; decide) ⟨by decide, by decide, by decide, by decide⟩ (hc _ (fun S1 hD1 hR1 => ?_))
  rcases hag with ⟨e, ek⟩ | ⟨i, E, hi, e, ek⟩
  · rw [e]
    show AW X G 4 N 7 _ _ S1 _ _
    refine r_i2l (pc' := 8) h dL_ratedPower_7 rfl ?_
    refine r_last (pc' := 9) h dL_ratedPower_8 rfl hN ((hR1 124 (by decide)).trans ho) (show vp_in (nI 0) 1 from nI_in (by decide) (by decide)) ?_
    refine r_goto (tgt := 15) h dL_ratedPower_9 (by decide) ?_
    refine r_iconst (pc' := 16) (v := 0) h dL_ratedPower_15 rfl (by decide) ?_
    refine r_ireturnH h hm dL_ratedPower_16 (by decide) (by decide) ?_
    have key := hk _ (vp_updL f 0 v.toInt64) (hD1.world (S' := va_up S1 124 (.inl (gJ G, 1, .inr (.inl (vp_updL f 0 v.toInt64))))) (fun j hj => up_ne _ _ (by omega))) (fun j a1 a2 => (up_ne _ _ a2).trans (hR1 j a1)) (up_at _ _ _) (fun _ => upL_0 _ _)
    rw [ek] at key
    exact key
  · rw [e]
    have hi2 : i < 1 := (List.getElem?_eq_some_iff.mp hi).1
    have fin : ∀ n, kk = n → K (.inl (some (.int n))) S1 := fun n z => by
      rw [← z]
      exact hk S1 f hD1 (fun j a1 _ => hR1 j a1) ((hR1 124 (by decide)).trans ho) (fun z2 => absurd (ek.symm.trans z2) (nI_ne0 (by omega) (by omega)))
    obtain rfl : i = 0 := by omega
    · cases hi
      refine ⟨[], _, _, eI, hm.2.2.1, fun z hz => absurd hz List.not_mem_nil, by decide, by decide, lL_13, ci_I, fun q => ?_⟩
      show AW X G 4 N 12 _ _ S1 _ _
      refine r_astore_n (pc' := 13) h dL_ratedPower_12 rfl (by decide) rfl ?_
      refine r_iconst (pc' := 14) (v := 1) h dL_ratedPower_13 rfl (by decide) ?_
      exact r_ireturnH h hm dL_ratedPower_14 (by decide) (by decide) (fin _ ek)
theorem kL_limitOf {l : Launch} {G : GX} {N : Nat} {S : Nat → va_E} {K : RK} {D D2 : DM} {o : RO} {f : Nat → Int64} (hD : isD G N S D) (hN : 124 < N) (ho : S 124 = .inl (gJ G, 1, .inr (.inl f))) {x kk v : Int32} (hc : ∀ K1 : RK, (∀ S1, isD G N S1 D2 → DR S S1 → K1 o S1) → RetK l G N mX4_limitOf (8, 124, 2, 12) [.ref (ad G 0), .int x] S K1) (hag : agr [eI, eN] o kk v)
    (hk : ∀ S1 g, isD G N S1 D2 → (∀ j, 118 < j → j ≠ 124 → S1 j = S j) → S1 124 = .inl (gJ G, 1, .inr (.inl g)) → (kk = 0 → g 0 = v.toInt64) → K (.inl (some (.int kk))) S1) : RetH l G N (yL_limitOf, cL_limitOf, 4, some .int) [(0, 9, 12, 13), (0, 9, 15, 39)] (9, 145, 2, 12) [.ref (ad G 0), .int x, .ref (ad G 124)] S K := by
  refine ret_enterH (by decide +kernel) (Nat.le_of_ble_eq_true rfl) (fun X hX h hm => ?_)
  subst hX
  replace h : OK X G N cL_limitOf RL 4 (9, 145, 2, 12) := h
  replace hm : OKmH X G N K (some .int) [(0, 9, 12, 13), (0, 9, 15, 39)] (9, 145, 2, 12) := hm
  show AW X G 4 N 0 [(0, _), (1, _), (2, _)] [] S 0 0
  refine r_aload_n (pc' := 1) h dL_limitOf_0 rfl rfl ?_
  refine r_iconst (pc' := 2) (v := 0) h dL_limitOf_1 rfl (by decide) ?_
  refine r_aload_n (pc' := 3) h dL_limitOf_2 rfl rfl ?_
  refine r_iload_n (pc' := 4) h dL_limitOf_3 rfl rfl ?_
  refine r_callVH (st := [.int 0, .ref (ad G 124)]) (M := mX4_limitOf) (As := [.int x]) h hm dL_limitOf_4 lL_60 vX4_limitOf rfl hD.l0 hD.o0 rfl rfl (by show 1 + (1 + 0) ≤ 8; decide) ⟨by decide, by decide, by decide, by decide⟩ (hc _ (fun S1 hD1 hR1 => ?_))
  rcases hag with ⟨e, ek⟩ | ⟨i, E, hi, e, ek⟩
  · rw [e]
    show AW X G 4 N 7 _ _ S1 _ _
    refine r_i2l (pc' := 8) h dL_limitOf_7 rfl ?_
    refine r_last (pc' := 9) h dL_limitOf_8 rfl hN ((hR1 124 (by decide)).trans ho) (show vp_in (nI 0) 1 from nI_in (by decide) (by decide)) ?_
    refine r_goto (tgt := 18) h dL_limitOf_9 (by decide) ?_
    refine r_iconst (pc' := 19) (v := 0) h dL_limitOf_18 rfl (by decide) ?_
    refine r_ireturnH h hm dL_limitOf_19 (by decide) (by decide) ?_
    have key := hk _ (vp_updL f 0 v.toInt64) (hD1.world (S' := va_up S1 124 (.inl (gJ G, 1, .inr (.inl (vp_updL f 0 v.toInt64))))) (fun j hj => up_ne _ _ (by omega))) (fun j a1 a2 => (up_ne _ _ a2).trans (hR1 j a1)) (up_at _ _ _) (fun _ => upL_0 _ _)
    rw [ek] at key
    exact key
  · rw [e]
    have hi2 : i < 2 := (List.getElem?_eq_some_iff.mp hi).1
    have fin : ∀ n, kk = n → K (.inl (some (.int n))) S1 := fun n z => by
      rw [← z]
      exact hk S1 f hD1 (fun j a1 _ => hR1 j a1) ((hR1 124 (by decide)).trans ho) (fun z2 => absurd (ek.symm.trans z2) (nI_ne0 (by omega) (by omega)))
    rcases (by omega : i = 0 ∨ i = 1) with rfl | rfl
    · cases hi
      refine ⟨[], _, _, eI, hm.2.2.1, fun z hz => absurd hz List.not_mem_nil, by decide, by decide, lL_13, ci_I, fun q => ?_⟩
      show AW X G 4 N 12 _ _ S1 _ _
      refine r_astore_n (pc' := 13) h dL_limitOf_12 rfl (by decide) rfl ?_
      refine r_iconst (pc' := 14) (v := 1) h dL_limitOf_13 rfl (by decide) ?_
      exact r_ireturnH h hm dL_limitOf_14 (by decide) (by decide) (fin _ ek)
    · cases hi
      refine ⟨[_], _, _, eN, hm.2.2.1, fun z hz => ?_, by decide, by decide, lL_39, ci_N, fun q => ?_⟩
      · cases List.mem_singleton.mp hz
        exact Or.inr ⟨by decide, eI, lL_13, by decide⟩
      · show AW X G 4 N 15 _ _ S1 _ _
        refine r_astore_n (pc' := 16) h dL_limitOf_15 rfl (by decide) rfl ?_
        refine r_iconst (pc' := 17) (v := 2) h dL_limitOf_16 rfl (by decide) ?_
        exact r_ireturnH h hm dL_limitOf_17 (by decide) (by decide) (fin _ ek)
theorem kL_serviceHoursLeft {l : Launch} {G : GX} {N : Nat} {S : Nat → va_E} {K : RK} {D D2 : DM} {o : RO} {f : Nat → Int64} (hD : isD G N S D) (hN : 124 < N) (ho : S 124 = .inl (gJ G, 1, .inr (.inl f))) {x kk v : Int32} (hc : ∀ K1 : RK, (∀ S1, isD G N S1 D2 → DR S S1 → K1 o S1) → RetK l G N mX4_serviceHoursLeft (8, 124, 2, 12) [.ref (ad G 0), .int x] S K1) (hag : agr [eI, eN] o kk v)
    (hk : ∀ S1 g, isD G N S1 D2 → (∀ j, 118 < j → j ≠ 124 → S1 j = S j) → S1 124 = .inl (gJ G, 1, .inr (.inl g)) → (kk = 0 → g 0 = v.toInt64) → K (.inl (some (.int kk))) S1) : RetH l G N (yL_serviceHoursLeft, cL_serviceHoursLeft, 4, some .int) [(0, 9, 12, 13), (0, 9, 15, 39)] (9, 145, 2, 12) [.ref (ad G 0), .int x, .ref (ad G 124)] S K := by
  refine ret_enterH (by decide +kernel) (Nat.le_of_ble_eq_true rfl) (fun X hX h hm => ?_)
  subst hX
  replace h : OK X G N cL_serviceHoursLeft RL 4 (9, 145, 2, 12) := h
  replace hm : OKmH X G N K (some .int) [(0, 9, 12, 13), (0, 9, 15, 39)] (9, 145, 2, 12) := hm
  show AW X G 4 N 0 [(0, _), (1, _), (2, _)] [] S 0 0
  refine r_aload_n (pc' := 1) h dL_serviceHoursLeft_0 rfl rfl ?_
  refine r_iconst (pc' := 2) (v := 0) h dL_serviceHoursLeft_1 rfl (by decide) ?_
  refine r_aload_n (pc' := 3) h dL_serviceHoursLeft_2 rfl rfl ?_
  refine r_iload_n (pc' := 4) h dL_serviceHoursLeft_3 rfl rfl ?_
  refine r_callVH (st := [.int 0, .ref (ad G 124)]) (M := mX4_serviceHoursLeft) (As := [.int x]) h hm dL_serviceHoursLeft_4 lL_63 vX4_serviceHoursLeft rfl hD.l0 hD.o0 rfl rfl (by show 1 + (1 + 0) ≤ 8; decide) ⟨by decide, by decide, by decide, by decide⟩ (hc _ (fun S1 hD1 hR1 => ?_))
  rcases hag with ⟨e, ek⟩ | ⟨i, E, hi, e, ek⟩
  · rw [e]
    show AW X G 4 N 7 _ _ S1 _ _
    refine r_i2l (pc' := 8) h dL_serviceHoursLeft_7 rfl ?_
    refine r_last (pc' := 9) h dL_serviceHoursLeft_8 rfl hN ((hR1 124 (by decide)).trans ho) (show vp_in (nI 0) 1 from nI_in (by decide) (by decide)) ?_
    refine r_goto (tgt := 18) h dL_serviceHoursLeft_9 (by decide) ?_
    refine r_iconst (pc' := 19) (v := 0) h dL_serviceHoursLeft_18 rfl (by decide) ?_
    refine r_ireturnH h hm dL_serviceHoursLeft_19 (by decide) (by decide) ?_
    have key := hk _ (vp_updL f 0 v.toInt64) (hD1.world (S' := va_up S1 124 (.inl (gJ G, 1, .inr (.inl (vp_updL f 0 v.toInt64))))) (fun j hj => up_ne _ _ (by omega))) (fun j a1 a2 => (up_ne _ _ a2).trans (hR1 j a1)) (up_at _ _ _) (fun _ => upL_0 _ _)
    rw [ek] at key
    exact key
  · rw [e]
    have hi2 : i < 2 := (List.getElem?_eq_some_iff.mp hi).1
    have fin : ∀ n, kk = n → K (.inl (some (.int n))) S1 := fun n z => by
      rw [← z]
      exact hk S1 f hD1 (fun j a1 _ => hR1 j a1) ((hR1 124 (by decide)).trans ho) (fun z2 => absurd (ek.symm.trans z2) (nI_ne0 (by omega) (by omega)))
    rcases (by omega : i = 0 ∨ i = 1) with rfl | rfl
    · cases hi
      refine ⟨[], _, _, eI, hm.2.2.1, fun z hz => absurd hz List.not_mem_nil, by decide, by decide, lL_13, ci_I, fun q => ?_⟩
      show AW X G 4 N 12 _ _ S1 _ _
      refine r_astore_n (pc' := 13) h dL_serviceHoursLeft_12 rfl (by decide) rfl ?_
      refine r_iconst (pc' := 14) (v := 1) h dL_serviceHoursLeft_13 rfl (by decide) ?_
      exact r_ireturnH h hm dL_serviceHoursLeft_14 (by decide) (by decide) (fin _ ek)
    · cases hi
      refine ⟨[_], _, _, eN, hm.2.2.1, fun z hz => ?_, by decide, by decide, lL_39, ci_N, fun q => ?_⟩
      · cases List.mem_singleton.mp hz
        exact Or.inr ⟨by decide, eI, lL_13, by decide⟩
      · show AW X G 4 N 15 _ _ S1 _ _
        refine r_astore_n (pc' := 16) h dL_serviceHoursLeft_15 rfl (by decide) rfl ?_
        refine r_iconst (pc' := 17) (v := 2) h dL_serviceHoursLeft_16 rfl (by decide) ?_
        exact r_ireturnH h hm dL_serviceHoursLeft_17 (by decide) (by decide) (fin _ ek)
theorem kL_setWind {l : Launch} {G : GX} {N : Nat} {S : Nat → va_E} {K : RK} {D D2 : DM} {o : RO} {f : Nat → Int64} (hD : isD G N S D) (hN : 124 < N) (ho : S 124 = .inl (gJ G, 1, .inr (.inl f))) {x y kk v : Int32} (hc : ∀ K1 : RK, (∀ S1, isD G N S1 D2 → DR S S1 → K1 o S1) → RetK l G N mX4_setWind (8, 140, 3, 18) [.ref (ad G 0), .int x, .int y] S K1) (hag : agr [eA] o kk v)
    (hk : ∀ S1 g, isD G N S1 D2 → (∀ j, 118 < j → j ≠ 124 → S1 j = S j) → S1 124 = .inl (gJ G, 1, .inr (.inl g)) → (kk = 0 → g 0 = v.toInt64) → K (.inl (some (.int kk))) S1) : RetH l G N (yL_setWind, cL_setWind, 5, some .int) [(0, 10, 13, 15)] (9, 162, 3, 18) [.ref (ad G 0), .int x, .int y, .ref (ad G 124)] S K := by
  refine ret_enterH (by decide +kernel) (Nat.le_of_ble_eq_true rfl) (fun X hX h hm => ?_)
  subst hX
  replace h : OK X G N cL_setWind RL 5 (9, 162, 3, 18) := h
  replace hm : OKmH X G N K (some .int) [(0, 10, 13, 15)] (9, 162, 3, 18) := hm
  show AW X G 5 N 0 [(0, _), (1, _), (2, _), (3, _)] [] S 0 0
  refine r_aload_n (pc' := 1) h dL_setWind_0 rfl rfl ?_
  refine r_iconst (pc' := 2) (v := 0) h dL_setWind_1 rfl (by decide) ?_
  refine r_aload_n (pc' := 3) h dL_setWind_2 rfl rfl ?_
  refine r_iload_n (pc' := 4) h dL_setWind_3 rfl rfl ?_
  refine r_iload_n (pc' := 5) h dL_setWind_4 rfl rfl ?_
  refine r_callVH (st := [.int 0, .ref (ad G 124)]) (M := mX4_setWind) (As := [.int x, .int y]) h hm dL_setWind_5 lL_66 vX4_setWind rfl hD.l0 hD.o0 rfl rfl (by show 1 + (1 + 0) ≤ 8; decide) ⟨by decide, by decide, by decide, by decide⟩ (hc _ (fun S1 hD1 hR1 => ?_))
  rcases hag with ⟨e, ek⟩ | ⟨i, E, hi, e, ek⟩
  · rw [e]
    show AW X G 5 N 8 _ _ S1 _ _
    refine r_i2l (pc' := 9) h dL_setWind_8 rfl ?_
    refine r_last (pc' := 10) h dL_setWind_9 rfl hN ((hR1 124 (by decide)).trans ho) (show vp_in (nI 0) 1 from nI_in (by decide) (by decide)) ?_
    refine r_goto (tgt := 17) h dL_setWind_10 (by decide) ?_
    refine r_iconst (pc' := 18) (v := 0) h dL_setWind_17 rfl (by decide) ?_
    refine r_ireturnH h hm dL_setWind_18 (by decide) (by decide) ?_
    have key := hk _ (vp_updL f 0 v.toInt64) (hD1.world (S' := va_up S1 124 (.inl (gJ G, 1, .inr (.inl (vp_updL f 0 v.toInt64))))) (fun j hj => up_ne _ _ (by omega))) (fun j a1 a2 => (up_ne _ _ a2).trans (hR1 j a1)) (up_at _ _ _) (fun _ => upL_0 _ _)
    rw [ek] at key
    exact key
  · rw [e]
    have hi2 : i < 1 := (List.getElem?_eq_some_iff.mp hi).1
    have fin : ∀ n, kk = n → K (.inl (some (.int n))) S1 := fun n z => by
      rw [← z]
      exact hk S1 f hD1 (fun j a1 _ => hR1 j a1) ((hR1 124 (by decide)).trans ho) (fun z2 => absurd (ek.symm.trans z2) (nI_ne0 (by omega) (by omega)))
    obtain rfl : i = 0 := by omega
    · cases hi
      refine ⟨[], _, _, eA, hm.2.2.1, fun z hz => absurd hz List.not_mem_nil, by decide, by decide, lL_15, ci_A, fun q => ?_⟩
      show AW X G 5 N 13 _ _ S1 _ _
      refine r_astore (pc' := 15) h dL_setWind_13 rfl (by decide) rfl ?_
      refine r_iconst (pc' := 16) (v := 1) h dL_setWind_15 rfl (by decide) ?_
      exact r_ireturnH h hm dL_setWind_16 (by decide) (by decide) (fin _ ek)
theorem kL_wakeLoss {l : Launch} {G : GX} {N : Nat} {S : Nat → va_E} {K : RK} {D D2 : DM} {o : RO} {f : Nat → Int64} (hD : isD G N S D) (hN : 124 < N) (ho : S 124 = .inl (gJ G, 1, .inr (.inl f))) {x kk v : Int32} (hc : ∀ K1 : RK, (∀ S1, isD G N S1 D2 → DR S S1 → K1 o S1) → RetK l G N mX4_wakeLoss (8, 124, 1, 6) [.ref (ad G 0), .int x] S K1) (hag : agr [eI] o kk v)
    (hk : ∀ S1 g, isD G N S1 D2 → (∀ j, 118 < j → j ≠ 124 → S1 j = S j) → S1 124 = .inl (gJ G, 1, .inr (.inl g)) → (kk = 0 → g 0 = v.toInt64) → K (.inl (some (.int kk))) S1) : RetH l G N (yL_wakeLoss, cL_wakeLoss, 4, some .int) [(0, 9, 12, 13)] (9, 145, 1, 6) [.ref (ad G 0), .int x, .ref (ad G 124)] S K := by
  refine ret_enterH (by decide +kernel) (Nat.le_of_ble_eq_true rfl) (fun X hX h hm => ?_)
  subst hX
  replace h : OK X G N cL_wakeLoss RL 4 (9, 145, 1, 6) := h
  replace hm : OKmH X G N K (some .int) [(0, 9, 12, 13)] (9, 145, 1, 6) := hm
  show AW X G 4 N 0 [(0, _), (1, _), (2, _)] [] S 0 0
  refine r_aload_n (pc' := 1) h dL_wakeLoss_0 rfl rfl ?_
  refine r_iconst (pc' := 2) (v := 0) h dL_wakeLoss_1 rfl (by decide) ?_
  refine r_aload_n (pc' := 3) h dL_wakeLoss_2 rfl rfl ?_
  refine r_iload_n (pc' := 4) h dL_wakeLoss_3 rfl rfl ?_
  refine r_callVH (st := [.int 0, .ref (ad G 124)]) (M := mX4_wakeLoss) (As := [.int x]) h hm dL_wakeLoss_4 lL_70 vX4_wakeLoss rfl hD.l0 hD.o0 rfl rfl (by show 1 + (1 + 0) ≤ 8; decide) ⟨by decide, by decide, by decide, by decide⟩ (hc _ (fun S1 hD1 hR1 => ?_))
  rcases hag with ⟨e, ek⟩ | ⟨i, E, hi, e, ek⟩
  · rw [e]
    show AW X G 4 N 7 _ _ S1 _ _
    refine r_i2l (pc' := 8) h dL_wakeLoss_7 rfl ?_
    refine r_last (pc' := 9) h dL_wakeLoss_8 rfl hN ((hR1 124 (by decide)).trans ho) (show vp_in (nI 0) 1 from nI_in (by decide) (by decide)) ?_
    refine r_goto (tgt := 15) h dL_wakeLoss_9 (by decide) ?_
    refine r_iconst (pc' := 16) (v := 0) h dL_wakeLoss_15 rfl (by decide) ?_
    refine r_ireturnH h hm dL_wakeLoss_16 (by decide) (by decide) ?_
    have key := hk _ (vp_updL f 0 v.toInt64) (hD1.world (S' := va_up S1 124 (.inl (gJ G, 1, .inr (.inl (vp_updL f 0 v.toInt64))))) (fun j hj => up_ne _ _ (by omega))) (fun j a1 a2 => (up_ne _ _ a2).trans (hR1 j a1)) (up_at _ _ _) (fun _ => upL_0 _ _)
    rw [ek] at key
    exact key
  · rw [e]
    have hi2 : i < 1 := (List.getElem?_eq_some_iff.mp hi).1
    have fin : ∀ n, kk = n → K (.inl (some (.int n))) S1 := fun n z => by
      rw [← z]
      exact hk S1 f hD1 (fun j a1 _ => hR1 j a1) ((hR1 124 (by decide)).trans ho) (fun z2 => absurd (ek.symm.trans z2) (nI_ne0 (by omega) (by omega)))
    obtain rfl : i = 0 := by omega
    · cases hi
      refine ⟨[], _, _, eI, hm.2.2.1, fun z hz => absurd hz List.not_mem_nil, by decide, by decide, lL_13, ci_I, fun q => ?_⟩
      show AW X G 4 N 12 _ _ S1 _ _
      refine r_astore_n (pc' := 13) h dL_wakeLoss_12 rfl (by decide) rfl ?_
      refine r_iconst (pc' := 14) (v := 1) h dL_wakeLoss_13 rfl (by decide) ?_
      exact r_ireturnH h hm dL_wakeLoss_14 (by decide) (by decide) (fin _ ek)
theorem kL_availablePower {l : Launch} {G : GX} {N : Nat} {S : Nat → va_E} {K : RK} {D D2 : DM} {o : RO} {f : Nat → Int64} (hD : isD G N S D) (hN : 124 < N) (ho : S 124 = .inl (gJ G, 1, .inr (.inl f))) {x kk v : Int32} (hc : ∀ K1 : RK, (∀ S1, isD G N S1 D2 → DR S S1 → K1 o S1) → RetK l G N mX4_availablePower (8, 124, 1, 6) [.ref (ad G 0), .int x] S K1) (hag : agr [eI] o kk v)
    (hk : ∀ S1 g, isD G N S1 D2 → (∀ j, 118 < j → j ≠ 124 → S1 j = S j) → S1 124 = .inl (gJ G, 1, .inr (.inl g)) → (kk = 0 → g 0 = v.toInt64) → K (.inl (some (.int kk))) S1) : RetH l G N (yL_availablePower, cL_availablePower, 4, some .int) [(0, 9, 12, 13)] (9, 145, 1, 6) [.ref (ad G 0), .int x, .ref (ad G 124)] S K := by
  refine ret_enterH (by decide +kernel) (Nat.le_of_ble_eq_true rfl) (fun X hX h hm => ?_)
  subst hX
  replace h : OK X G N cL_availablePower RL 4 (9, 145, 1, 6) := h
  replace hm : OKmH X G N K (some .int) [(0, 9, 12, 13)] (9, 145, 1, 6) := hm
  show AW X G 4 N 0 [(0, _), (1, _), (2, _)] [] S 0 0
  refine r_aload_n (pc' := 1) h dL_availablePower_0 rfl rfl ?_
  refine r_iconst (pc' := 2) (v := 0) h dL_availablePower_1 rfl (by decide) ?_
  refine r_aload_n (pc' := 3) h dL_availablePower_2 rfl rfl ?_
  refine r_iload_n (pc' := 4) h dL_availablePower_3 rfl rfl ?_
  refine r_callVH (st := [.int 0, .ref (ad G 124)]) (M := mX4_availablePower) (As := [.int x]) h hm dL_availablePower_4 lL_73 vX4_availablePower rfl hD.l0 hD.o0 rfl rfl (by show 1 + (1 + 0) ≤ 8; decide) ⟨by decide, by decide, by decide, by decide⟩ (hc _ (fun S1 hD1 hR1 => ?_))
  rcases hag with ⟨e, ek⟩ | ⟨i, E, hi, e, ek⟩
  · rw [e]
    show AW X G 4 N 7 _ _ S1 _ _
    refine r_i2l (pc' := 8) h dL_availablePower_7 rfl ?_
    refine r_last (pc' := 9) h dL_availablePower_8 rfl hN ((hR1 124 (by decide)).trans ho) (show vp_in (nI 0) 1 from nI_in (by decide) (by decide)) ?_
    refine r_goto (tgt := 15) h dL_availablePower_9 (by decide) ?_
    refine r_iconst (pc' := 16) (v := 0) h dL_availablePower_15 rfl (by decide) ?_
    refine r_ireturnH h hm dL_availablePower_16 (by decide) (by decide) ?_
    have key := hk _ (vp_updL f 0 v.toInt64) (hD1.world (S' := va_up S1 124 (.inl (gJ G, 1, .inr (.inl (vp_updL f 0 v.toInt64))))) (fun j hj => up_ne _ _ (by omega))) (fun j a1 a2 => (up_ne _ _ a2).trans (hR1 j a1)) (up_at _ _ _) (fun _ => upL_0 _ _)
    rw [ek] at key
    exact key
  · rw [e]
    have hi2 : i < 1 := (List.getElem?_eq_some_iff.mp hi).1
    have fin : ∀ n, kk = n → K (.inl (some (.int n))) S1 := fun n z => by
      rw [← z]
      exact hk S1 f hD1 (fun j a1 _ => hR1 j a1) ((hR1 124 (by decide)).trans ho) (fun z2 => absurd (ek.symm.trans z2) (nI_ne0 (by omega) (by omega)))
    obtain rfl : i = 0 := by omega
    · cases hi
      refine ⟨[], _, _, eI, hm.2.2.1, fun z hz => absurd hz List.not_mem_nil, by decide, by decide, lL_13, ci_I, fun q => ?_⟩
      show AW X G 4 N 12 _ _ S1 _ _
      refine r_astore_n (pc' := 13) h dL_availablePower_12 rfl (by decide) rfl ?_
      refine r_iconst (pc' := 14) (v := 1) h dL_availablePower_13 rfl (by decide) ?_
      exact r_ireturnH h hm dL_availablePower_14 (by decide) (by decide) (fin _ ek)
theorem kL_outputOf {l : Launch} {G : GX} {N : Nat} {S : Nat → va_E} {K : RK} {D D2 : DM} {o : RO} {f : Nat → Int64} (hD : isD G N S D) (hN : 124 < N) (ho : S 124 = .inl (gJ G, 1, .inr (.inl f))) {x kk v : Int32} (hc : ∀ K1 : RK, (∀ S1, isD G N S1 D2 → DR S S1 → K1 o S1) → RetK l G N mX4_outputOf (8, 124, 1, 6) [.ref (ad G 0), .int x] S K1) (hag : agr [eI] o kk v)
    (hk : ∀ S1 g, isD G N S1 D2 → (∀ j, 118 < j → j ≠ 124 → S1 j = S j) → S1 124 = .inl (gJ G, 1, .inr (.inl g)) → (kk = 0 → g 0 = v.toInt64) → K (.inl (some (.int kk))) S1) : RetH l G N (yL_outputOf, cL_outputOf, 4, some .int) [(0, 9, 12, 13)] (9, 145, 1, 6) [.ref (ad G 0), .int x, .ref (ad G 124)] S K := by
  refine ret_enterH (by decide +kernel) (Nat.le_of_ble_eq_true rfl) (fun X hX h hm => ?_)
  subst hX
  replace h : OK X G N cL_outputOf RL 4 (9, 145, 1, 6) := h
  replace hm : OKmH X G N K (some .int) [(0, 9, 12, 13)] (9, 145, 1, 6) := hm
  show AW X G 4 N 0 [(0, _), (1, _), (2, _)] [] S 0 0
  refine r_aload_n (pc' := 1) h dL_outputOf_0 rfl rfl ?_
  refine r_iconst (pc' := 2) (v := 0) h dL_outputOf_1 rfl (by decide) ?_
  refine r_aload_n (pc' := 3) h dL_outputOf_2 rfl rfl ?_
  refine r_iload_n (pc' := 4) h dL_outputOf_3 rfl rfl ?_
  refine r_callVH (st := [.int 0, .ref (ad G 124)]) (M := mX4_outputOf) (As := [.int x]) h hm dL_outputOf_4 lL_76 vX4_outputOf rfl hD.l0 hD.o0 rfl rfl (by show 1 + (1 + 0) ≤ 8; decide) ⟨by decide, by decide, by decide, by decide⟩ (hc _ (fun S1 hD1 hR1 => ?_))
  rcases hag with ⟨e, ek⟩ | ⟨i, E, hi, e, ek⟩
  · rw [e]
    show AW X G 4 N 7 _ _ S1 _ _
    refine r_i2l (pc' := 8) h dL_outputOf_7 rfl ?_
    refine r_last (pc' := 9) h dL_outputOf_8 rfl hN ((hR1 124 (by decide)).trans ho) (show vp_in (nI 0) 1 from nI_in (by decide) (by decide)) ?_
    refine r_goto (tgt := 15) h dL_outputOf_9 (by decide) ?_
    refine r_iconst (pc' := 16) (v := 0) h dL_outputOf_15 rfl (by decide) ?_
    refine r_ireturnH h hm dL_outputOf_16 (by decide) (by decide) ?_
    have key := hk _ (vp_updL f 0 v.toInt64) (hD1.world (S' := va_up S1 124 (.inl (gJ G, 1, .inr (.inl (vp_updL f 0 v.toInt64))))) (fun j hj => up_ne _ _ (by omega))) (fun j a1 a2 => (up_ne _ _ a2).trans (hR1 j a1)) (up_at _ _ _) (fun _ => upL_0 _ _)
    rw [ek] at key
    exact key
  · rw [e]
    have hi2 : i < 1 := (List.getElem?_eq_some_iff.mp hi).1
    have fin : ∀ n, kk = n → K (.inl (some (.int n))) S1 := fun n z => by
      rw [← z]
      exact hk S1 f hD1 (fun j a1 _ => hR1 j a1) ((hR1 124 (by decide)).trans ho) (fun z2 => absurd (ek.symm.trans z2) (nI_ne0 (by omega) (by omega)))
    obtain rfl : i = 0 := by omega
    · cases hi
      refine ⟨[], _, _, eI, hm.2.2.1, fun z hz => absurd hz List.not_mem_nil, by decide, by decide, lL_13, ci_I, fun q => ?_⟩
      show AW X G 4 N 12 _ _ S1 _ _
      refine r_astore_n (pc' := 13) h dL_outputOf_12 rfl (by decide) rfl ?_
      refine r_iconst (pc' := 14) (v := 1) h dL_outputOf_13 rfl (by decide) ?_
      exact r_ireturnH h hm dL_outputOf_14 (by decide) (by decide) (fin _ ek)
theorem kL_outputWith {l : Launch} {G : GX} {N : Nat} {S : Nat → va_E} {K : RK} {D D2 : DM} {o : RO} {f : Nat → Int64} (hD : isD G N S D) (hN : 124 < N) (ho : S 124 = .inl (gJ G, 1, .inr (.inl f))) {x y kk v : Int32} (hc : ∀ K1 : RK, (∀ S1, isD G N S1 D2 → DR S S1 → K1 o S1) → RetK l G N mX4_outputWith (7, 103, 1, 6) [.ref (ad G 0), .int x, .int y] S K1) (hag : agr [eA] o kk v)
    (hk : ∀ S1 g, isD G N S1 D2 → (∀ j, 118 < j → j ≠ 124 → S1 j = S j) → S1 124 = .inl (gJ G, 1, .inr (.inl g)) → (kk = 0 → g 0 = v.toInt64) → K (.inl (some (.int kk))) S1) : RetH l G N (yL_outputWith, cL_outputWith, 5, some .int) [(0, 10, 13, 15)] (8, 125, 1, 6) [.ref (ad G 0), .int x, .int y, .ref (ad G 124)] S K := by
  refine ret_enterH (by decide +kernel) (Nat.le_of_ble_eq_true rfl) (fun X hX h hm => ?_)
  subst hX
  replace h : OK X G N cL_outputWith RL 5 (8, 125, 1, 6) := h
  replace hm : OKmH X G N K (some .int) [(0, 10, 13, 15)] (8, 125, 1, 6) := hm
  show AW X G 5 N 0 [(0, _), (1, _), (2, _), (3, _)] [] S 0 0
  refine r_aload_n (pc' := 1) h dL_outputWith_0 rfl rfl ?_
  refine r_iconst (pc' := 2) (v := 0) h dL_outputWith_1 rfl (by decide) ?_
  refine r_aload_n (pc' := 3) h dL_outputWith_2 rfl rfl ?_
  refine r_iload_n (pc' := 4) h dL_outputWith_3 rfl rfl ?_
  refine r_iload_n (pc' := 5) h dL_outputWith_4 rfl rfl ?_
  refine r_callVH (st := [.int 0, .ref (ad G 124)]) (M := mX4_outputWith) (As := [.int x, .int y]) h hm dL_outputWith_5 lL_79 vX4_outputWith rfl hD.l0 hD.o0 rfl rfl (by show 1 + (1 + 0) ≤ 8; decide) ⟨by decide, by decide, by decide, by decide⟩ (hc _ (fun S1 hD1 hR1 => ?_))
  rcases hag with ⟨e, ek⟩ | ⟨i, E, hi, e, ek⟩
  · rw [e]
    show AW X G 5 N 8 _ _ S1 _ _
    refine r_i2l (pc' := 9) h dL_outputWith_8 rfl ?_
    refine r_last (pc' := 10) h dL_outputWith_9 rfl hN ((hR1 124 (by decide)).trans ho) (show vp_in (nI 0) 1 from nI_in (by decide) (by decide)) ?_
    refine r_goto (tgt := 17) h dL_outputWith_10 (by decide) ?_
    refine r_iconst (pc' := 18) (v := 0) h dL_outputWith_17 rfl (by decide) ?_
    refine r_ireturnH h hm dL_outputWith_18 (by decide) (by decide) ?_
    have key := hk _ (vp_updL f 0 v.toInt64) (hD1.world (S' := va_up S1 124 (.inl (gJ G, 1, .inr (.inl (vp_updL f 0 v.toInt64))))) (fun j hj => up_ne _ _ (by omega))) (fun j a1 a2 => (up_ne _ _ a2).trans (hR1 j a1)) (up_at _ _ _) (fun _ => upL_0 _ _)
    rw [ek] at key
    exact key
  · rw [e]
    have hi2 : i < 1 := (List.getElem?_eq_some_iff.mp hi).1
    have fin : ∀ n, kk = n → K (.inl (some (.int n))) S1 := fun n z => by
      rw [← z]
      exact hk S1 f hD1 (fun j a1 _ => hR1 j a1) ((hR1 124 (by decide)).trans ho) (fun z2 => absurd (ek.symm.trans z2) (nI_ne0 (by omega) (by omega)))
    obtain rfl : i = 0 := by omega
    · cases hi
      refine ⟨[], _, _, eA, hm.2.2.1, fun z hz => absurd hz List.not_mem_nil, by decide, by decide, lL_15, ci_A, fun q => ?_⟩
      show AW X G 5 N 13 _ _ S1 _ _
      refine r_astore (pc' := 15) h dL_outputWith_13 rfl (by decide) rfl ?_
      refine r_iconst (pc' := 16) (v := 1) h dL_outputWith_15 rfl (by decide) ?_
      exact r_ireturnH h hm dL_outputWith_16 (by decide) (by decide) (fin _ ek)
theorem kL_bidPrice {l : Launch} {G : GX} {N : Nat} {S : Nat → va_E} {K : RK} {D D2 : DM} {o : RO} {f : Nat → Int64} (hD : isD G N S D) (hN : 124 < N) (ho : S 124 = .inl (gJ G, 1, .inr (.inl f))) {x kk v : Int32} (hc : ∀ K1 : RK, (∀ S1, isD G N S1 D2 → DR S S1 → K1 o S1) → RetK l G N mX4_bidPrice (9, 145, 2, 12) [.ref (ad G 0), .int x] S K1) (hag : agr [eI, eN] o kk v)
    (hk : ∀ S1 g, isD G N S1 D2 → (∀ j, 118 < j → j ≠ 124 → S1 j = S j) → S1 124 = .inl (gJ G, 1, .inr (.inl g)) → (kk = 0 → g 0 = v.toInt64) → K (.inl (some (.int kk))) S1) : RetH l G N (yL_bidPrice, cL_bidPrice, 4, some .int) [(0, 9, 12, 13), (0, 9, 15, 39)] (10, 166, 2, 12) [.ref (ad G 0), .int x, .ref (ad G 124)] S K := by
  refine ret_enterH (by decide +kernel) (Nat.le_of_ble_eq_true rfl) (fun X hX h hm => ?_)
  subst hX
  replace h : OK X G N cL_bidPrice RL 4 (10, 166, 2, 12) := h
  replace hm : OKmH X G N K (some .int) [(0, 9, 12, 13), (0, 9, 15, 39)] (10, 166, 2, 12) := hm
  show AW X G 4 N 0 [(0, _), (1, _), (2, _)] [] S 0 0
  refine r_aload_n (pc' := 1) h dL_bidPrice_0 rfl rfl ?_
  refine r_iconst (pc' := 2) (v := 0) h dL_bidPrice_1 rfl (by decide) ?_
  refine r_aload_n (pc' := 3) h dL_bidPrice_2 rfl rfl ?_
  refine r_iload_n (pc' := 4) h dL_bidPrice_3 rfl rfl ?_
  refine r_callVH (st := [.int 0, .ref (ad G 124)]) (M := mX4_bidPrice) (As := [.int x]) h hm dL_bidPrice_4 lL_94 vX4_bidPrice rfl hD.l0 hD.o0 rfl rfl (by show 1 + (1 + 0) ≤ 8; decide) ⟨by decide, by decide, by decide, by decide⟩ (hc _ (fun S1 hD1 hR1 => ?_))
  rcases hag with ⟨e, ek⟩ | ⟨i, E, hi, e, ek⟩
  · rw [e]
    show AW X G 4 N 7 _ _ S1 _ _
    refine r_i2l (pc' := 8) h dL_bidPrice_7 rfl ?_
    refine r_last (pc' := 9) h dL_bidPrice_8 rfl hN ((hR1 124 (by decide)).trans ho) (show vp_in (nI 0) 1 from nI_in (by decide) (by decide)) ?_
    refine r_goto (tgt := 18) h dL_bidPrice_9 (by decide) ?_
    refine r_iconst (pc' := 19) (v := 0) h dL_bidPrice_18 rfl (by decide) ?_
    refine r_ireturnH h hm dL_bidPrice_19 (by decide) (by decide) ?_
    have key := hk _ (vp_updL f 0 v.toInt64) (hD1.world (S' := va_up S1 124 (.inl (gJ G, 1, .inr (.inl (vp_updL f 0 v.toInt64))))) (fun j hj => up_ne _ _ (by omega))) (fun j a1 a2 => (up_ne _ _ a2).trans (hR1 j a1)) (up_at _ _ _) (fun _ => upL_0 _ _)
    rw [ek] at key
    exact key
  · rw [e]
    have hi2 : i < 2 := (List.getElem?_eq_some_iff.mp hi).1
    have fin : ∀ n, kk = n → K (.inl (some (.int n))) S1 := fun n z => by
      rw [← z]
      exact hk S1 f hD1 (fun j a1 _ => hR1 j a1) ((hR1 124 (by decide)).trans ho) (fun z2 => absurd (ek.symm.trans z2) (nI_ne0 (by omega) (by omega)))
    rcases (by omega : i = 0 ∨ i = 1) with rfl | rfl
    · cases hi
      refine ⟨[], _, _, eI, hm.2.2.1, fun z hz => absurd hz List.not_mem_nil, by decide, by decide, lL_13, ci_I, fun q => ?_⟩
      show AW X G 4 N 12 _ _ S1 _ _
      refine r_astore_n (pc' := 13) h dL_bidPrice_12 rfl (by decide) rfl ?_
      refine r_iconst (pc' := 14) (v := 1) h dL_bidPrice_13 rfl (by decide) ?_
      exact r_ireturnH h hm dL_bidPrice_14 (by decide) (by decide) (fin _ ek)
    · cases hi
      refine ⟨[_], _, _, eN, hm.2.2.1, fun z hz => ?_, by decide, by decide, lL_39, ci_N, fun q => ?_⟩
      · cases List.mem_singleton.mp hz
        exact Or.inr ⟨by decide, eI, lL_13, by decide⟩
      · show AW X G 4 N 15 _ _ S1 _ _
        refine r_astore_n (pc' := 16) h dL_bidPrice_15 rfl (by decide) rfl ?_
        refine r_iconst (pc' := 17) (v := 2) h dL_bidPrice_16 rfl (by decide) ?_
        exact r_ireturnH h hm dL_bidPrice_17 (by decide) (by decide) (fin _ ek)
theorem kL_bidQuantity {l : Launch} {G : GX} {N : Nat} {S : Nat → va_E} {K : RK} {D D2 : DM} {o : RO} {f : Nat → Int64} (hD : isD G N S D) (hN : 124 < N) (ho : S 124 = .inl (gJ G, 1, .inr (.inl f))) {x kk v : Int32} (hc : ∀ K1 : RK, (∀ S1, isD G N S1 D2 → DR S S1 → K1 o S1) → RetK l G N mX4_bidQuantity (9, 145, 2, 12) [.ref (ad G 0), .int x] S K1) (hag : agr [eI, eN] o kk v)
    (hk : ∀ S1 g, isD G N S1 D2 → (∀ j, 118 < j → j ≠ 124 → S1 j = S j) → S1 124 = .inl (gJ G, 1, .inr (.inl g)) → (kk = 0 → g 0 = v.toInt64) → K (.inl (some (.int kk))) S1) : RetH l G N (yL_bidQuantity, cL_bidQuantity, 4, some .int) [(0, 9, 12, 13), (0, 9, 15, 39)] (10, 166, 2, 12) [.ref (ad G 0), .int x, .ref (ad G 124)] S K := by
  refine ret_enterH (by decide +kernel) (Nat.le_of_ble_eq_true rfl) (fun X hX h hm => ?_)
  subst hX
  replace h : OK X G N cL_bidQuantity RL 4 (10, 166, 2, 12) := h
  replace hm : OKmH X G N K (some .int) [(0, 9, 12, 13), (0, 9, 15, 39)] (10, 166, 2, 12) := hm
  show AW X G 4 N 0 [(0, _), (1, _), (2, _)] [] S 0 0
  refine r_aload_n (pc' := 1) h dL_bidQuantity_0 rfl rfl ?_
  refine r_iconst (pc' := 2) (v := 0) h dL_bidQuantity_1 rfl (by decide) ?_
  refine r_aload_n (pc' := 3) h dL_bidQuantity_2 rfl rfl ?_
  refine r_iload_n (pc' := 4) h dL_bidQuantity_3 rfl rfl ?_
  refine r_callVH (st := [.int 0, .ref (ad G 124)]) (M := mX4_bidQuantity) (As := [.int x]) h hm dL_bidQuantity_4 lL_97 vX4_bidQuantity rfl hD.l0 hD.o0 rfl rfl (by show 1 + (1 + 0) ≤ 8; decide) ⟨by decide, by decide, by decide, by decide⟩ (hc _ (fun S1 hD1 hR1 => ?_))
  rcases hag with ⟨e, ek⟩ | ⟨i, E, hi, e, ek⟩
  · rw [e]
    show AW X G 4 N 7 _ _ S1 _ _
    refine r_i2l (pc' := 8) h dL_bidQuantity_7 rfl ?_
    refine r_last (pc' := 9) h dL_bidQuantity_8 rfl hN ((hR1 124 (by decide)).trans ho) (show vp_in (nI 0) 1 from nI_in (by decide) (by decide)) ?_
    refine r_goto (tgt := 18) h dL_bidQuantity_9 (by decide) ?_
    refine r_iconst (pc' := 19) (v := 0) h dL_bidQuantity_18 rfl (by decide) ?_
    refine r_ireturnH h hm dL_bidQuantity_19 (by decide) (by decide) ?_
    have key := hk _ (vp_updL f 0 v.toInt64) (hD1.world (S' := va_up S1 124 (.inl (gJ G, 1, .inr (.inl (vp_updL f 0 v.toInt64))))) (fun j hj => up_ne _ _ (by omega))) (fun j a1 a2 => (up_ne _ _ a2).trans (hR1 j a1)) (up_at _ _ _) (fun _ => upL_0 _ _)
    rw [ek] at key
    exact key
  · rw [e]
    have hi2 : i < 2 := (List.getElem?_eq_some_iff.mp hi).1
    have fin : ∀ n, kk = n → K (.inl (some (.int n))) S1 := fun n z => by
      rw [← z]
      exact hk S1 f hD1 (fun j a1 _ => hR1 j a1) ((hR1 124 (by decide)).trans ho) (fun z2 => absurd (ek.symm.trans z2) (nI_ne0 (by omega) (by omega)))
    rcases (by omega : i = 0 ∨ i = 1) with rfl | rfl
    · cases hi
      refine ⟨[], _, _, eI, hm.2.2.1, fun z hz => absurd hz List.not_mem_nil, by decide, by decide, lL_13, ci_I, fun q => ?_⟩
      show AW X G 4 N 12 _ _ S1 _ _
      refine r_astore_n (pc' := 13) h dL_bidQuantity_12 rfl (by decide) rfl ?_
      refine r_iconst (pc' := 14) (v := 1) h dL_bidQuantity_13 rfl (by decide) ?_
      exact r_ireturnH h hm dL_bidQuantity_14 (by decide) (by decide) (fin _ ek)
    · cases hi
      refine ⟨[_], _, _, eN, hm.2.2.1, fun z hz => ?_, by decide, by decide, lL_39, ci_N, fun q => ?_⟩
      · cases List.mem_singleton.mp hz
        exact Or.inr ⟨by decide, eI, lL_13, by decide⟩
      · show AW X G 4 N 15 _ _ S1 _ _
        refine r_astore_n (pc' := 16) h dL_bidQuantity_15 rfl (by decide) rfl ?_
        refine r_iconst (pc' := 17) (v := 2) h dL_bidQuantity_16 rfl (by decide) ?_
        exact r_ireturnH h hm dL_bidQuantity_17 (by decide) (by decide) (fin _ ek)
theorem kL_bidByPrice {l : Launch} {G : GX} {N : Nat} {S : Nat → va_E} {K : RK} {D D2 : DM} {o : RO} {f : Nat → Int64} (hD : isD G N S D) (hN : 124 < N) (ho : S 124 = .inl (gJ G, 1, .inr (.inl f))) {x kk v : Int32} (hc : ∀ K1 : RK, (∀ S1, isD G N S1 D2 → DR S S1 → K1 o S1) → RetK l G N mX4_bidByPrice (7, 103, 1, 6) [.ref (ad G 0), .int x] S K1) (hag : agr [eN] o kk v)
    (hk : ∀ S1 g, isD G N S1 D2 → (∀ j, 118 < j → j ≠ 124 → S1 j = S j) → S1 124 = .inl (gJ G, 1, .inr (.inl g)) → (kk = 0 → g 0 = v.toInt64) → K (.inl (some (.int kk))) S1) : RetH l G N (yL_bidByPrice, cL_bidByPrice, 4, some .int) [(0, 9, 12, 39)] (8, 125, 1, 6) [.ref (ad G 0), .int x, .ref (ad G 124)] S K := by
  refine ret_enterH (by decide +kernel) (Nat.le_of_ble_eq_true rfl) (fun X hX h hm => ?_)
  subst hX
  replace h : OK X G N cL_bidByPrice RL 4 (8, 125, 1, 6) := h
  replace hm : OKmH X G N K (some .int) [(0, 9, 12, 39)] (8, 125, 1, 6) := hm
  show AW X G 4 N 0 [(0, _), (1, _), (2, _)] [] S 0 0
  refine r_aload_n (pc' := 1) h dL_bidByPrice_0 rfl rfl ?_
  refine r_iconst (pc' := 2) (v := 0) h dL_bidByPrice_1 rfl (by decide) ?_
  refine r_aload_n (pc' := 3) h dL_bidByPrice_2 rfl rfl ?_
  refine r_iload_n (pc' := 4) h dL_bidByPrice_3 rfl rfl ?_
  refine r_callVH (st := [.int 0, .ref (ad G 124)]) (M := mX4_bidByPrice) (As := [.int x]) h hm dL_bidByPrice_4 lL_100 vX4_bidByPrice rfl hD.l0 hD.o0 rfl rfl (by show 1 + (1 + 0) ≤ 8; decide) ⟨by decide, by decide, by decide, by decide⟩ (hc _ (fun S1 hD1 hR1 => ?_))
  rcases hag with ⟨e, ek⟩ | ⟨i, E, hi, e, ek⟩
  · rw [e]
    show AW X G 4 N 7 _ _ S1 _ _
    refine r_i2l (pc' := 8) h dL_bidByPrice_7 rfl ?_
    refine r_last (pc' := 9) h dL_bidByPrice_8 rfl hN ((hR1 124 (by decide)).trans ho) (show vp_in (nI 0) 1 from nI_in (by decide) (by decide)) ?_
    refine r_goto (tgt := 15) h dL_bidByPrice_9 (by decide) ?_
    refine r_iconst (pc' := 16) (v := 0) h dL_bidByPrice_15 rfl (by decide) ?_
    refine r_ireturnH h hm dL_bidByPrice_16 (by decide) (by decide) ?_
    have key := hk _ (vp_updL f 0 v.toInt64) (hD1.world (S' := va_up S1 124 (.inl (gJ G, 1, .inr (.inl (vp_updL f 0 v.toInt64))))) (fun j hj => up_ne _ _ (by omega))) (fun j a1 a2 => (up_ne _ _ a2).trans (hR1 j a1)) (up_at _ _ _) (fun _ => upL_0 _ _)
    rw [ek] at key
    exact key
  · rw [e]
    have hi2 : i < 1 := (List.getElem?_eq_some_iff.mp hi).1
    have fin : ∀ n, kk = n → K (.inl (some (.int n))) S1 := fun n z => by
      rw [← z]
      exact hk S1 f hD1 (fun j a1 _ => hR1 j a1) ((hR1 124 (by decide)).trans ho) (fun z2 => absurd (ek.symm.trans z2) (nI_ne0 (by omega) (by omega)))
    obtain rfl : i = 0 := by omega
    · cases hi
      refine ⟨[], _, _, eN, hm.2.2.1, fun z hz => absurd hz List.not_mem_nil, by decide, by decide, lL_39, ci_N, fun q => ?_⟩
      show AW X G 4 N 12 _ _ S1 _ _
      refine r_astore_n (pc' := 13) h dL_bidByPrice_12 rfl (by decide) rfl ?_
      refine r_iconst (pc' := 14) (v := 1) h dL_bidByPrice_13 rfl (by decide) ?_
      exact r_ireturnH h hm dL_bidByPrice_14 (by decide) (by decide) (fin _ ek)
theorem kL_passHours {l : Launch} {G : GX} {N : Nat} {S : Nat → va_E} {K : RK} {D D2 : DM} {o : RO} {f : Nat → Int64} (hD : isD G N S D) (hN : 124 < N) (ho : S 124 = .inl (gJ G, 1, .inr (.inl f))) {x kk v : Int32} (hc : ∀ K1 : RK, (∀ S1, isD G N S1 D2 → DR S S1 → K1 o S1) → RetK l G N mX4_passHours (8, 140, 3, 18) [.ref (ad G 0), .int x] S K1) (hag : agr [eA] o kk v)
    (hk : ∀ S1 g, isD G N S1 D2 → (∀ j, 118 < j → j ≠ 124 → S1 j = S j) → S1 124 = .inl (gJ G, 1, .inr (.inl g)) → (kk = 0 → g 0 = v.toInt64) → K (.inl (some (.int kk))) S1) : RetH l G N (yL_passHours, cL_passHours, 4, some .int) [(0, 9, 12, 15)] (9, 161, 3, 18) [.ref (ad G 0), .int x, .ref (ad G 124)] S K := by
  refine ret_enterH (by decide +kernel) (Nat.le_of_ble_eq_true rfl) (fun X hX h hm => ?_)
  subst hX
  replace h : OK X G N cL_passHours RL 4 (9, 161, 3, 18) := h
  replace hm : OKmH X G N K (some .int) [(0, 9, 12, 15)] (9, 161, 3, 18) := hm
  show AW X G 4 N 0 [(0, _), (1, _), (2, _)] [] S 0 0
  refine r_aload_n (pc' := 1) h dL_passHours_0 rfl rfl ?_
  refine r_iconst (pc' := 2) (v := 0) h dL_passHours_1 rfl (by decide) ?_
  refine r_aload_n (pc' := 3) h dL_passHours_2 rfl rfl ?_
  refine r_iload_n (pc' := 4) h dL_passHours_3 rfl rfl ?_
  refine r_callVH (st := [.int 0, .ref (ad G 124)]) (M := mX4_passHours) (As := [.int x]) h hm dL_passHours_4 lL_103 vX4_passHours rfl hD.l0 hD.o0 rfl rfl (by show 1 + (1 + 0) ≤ 8; decide) ⟨by decide, by decide, by decide, by decide⟩ (hc _ (fun S1 hD1 hR1 => ?_))
  rcases hag with ⟨e, ek⟩ | ⟨i, E, hi, e, ek⟩
  · rw [e]
    show AW X G 4 N 7 _ _ S1 _ _
    refine r_i2l (pc' := 8) h dL_passHours_7 rfl ?_
    refine r_last (pc' := 9) h dL_passHours_8 rfl hN ((hR1 124 (by decide)).trans ho) (show vp_in (nI 0) 1 from nI_in (by decide) (by decide)) ?_
    refine r_goto (tgt := 15) h dL_passHours_9 (by decide) ?_
    refine r_iconst (pc' := 16) (v := 0) h dL_passHours_15 rfl (by decide) ?_
    refine r_ireturnH h hm dL_passHours_16 (by decide) (by decide) ?_
    have key := hk _ (vp_updL f 0 v.toInt64) (hD1.world (S' := va_up S1 124 (.inl (gJ G, 1, .inr (.inl (vp_updL f 0 v.toInt64))))) (fun j hj => up_ne _ _ (by omega))) (fun j a1 a2 => (up_ne _ _ a2).trans (hR1 j a1)) (up_at _ _ _) (fun _ => upL_0 _ _)
    rw [ek] at key
    exact key
  · rw [e]
    have hi2 : i < 1 := (List.getElem?_eq_some_iff.mp hi).1
    have fin : ∀ n, kk = n → K (.inl (some (.int n))) S1 := fun n z => by
      rw [← z]
      exact hk S1 f hD1 (fun j a1 _ => hR1 j a1) ((hR1 124 (by decide)).trans ho) (fun z2 => absurd (ek.symm.trans z2) (nI_ne0 (by omega) (by omega)))
    obtain rfl : i = 0 := by omega
    · cases hi
      refine ⟨[], _, _, eA, hm.2.2.1, fun z hz => absurd hz List.not_mem_nil, by decide, by decide, lL_15, ci_A, fun q => ?_⟩
      show AW X G 4 N 12 _ _ S1 _ _
      refine r_astore_n (pc' := 13) h dL_passHours_12 rfl (by decide) rfl ?_
      refine r_iconst (pc' := 14) (v := 1) h dL_passHours_13 rfl (by decide) ?_
      exact r_ireturnH h hm dL_passHours_14 (by decide) (by decide) (fin _ ek)
theorem kL_incomeWithin {l : Launch} {G : GX} {N : Nat} {S : Nat → va_E} {K : RK} {D D2 : DM} {o : RO} {f : Nat → Int64} (hD : isD G N S D) (hN : 124 < N) (ho : S 124 = .inl (gJ G, 1, .inr (.inl f))) {x kk v : Int32} (hc : ∀ K1 : RK, (∀ S1, isD G N S1 D2 → DR S S1 → K1 o S1) → RetK l G N mX4_incomeWithin (7, 119, 1, 6) [.ref (ad G 0), .int x] S K1) (hag : agr [eA] o kk v)
    (hk : ∀ S1 g, isD G N S1 D2 → (∀ j, 118 < j → j ≠ 124 → S1 j = S j) → S1 124 = .inl (gJ G, 1, .inr (.inl g)) → (kk = 0 → g 0 = v.toInt64) → K (.inl (some (.int kk))) S1) : RetH l G N (yL_incomeWithin, cL_incomeWithin, 4, some .int) [(0, 9, 12, 15)] (8, 140, 1, 6) [.ref (ad G 0), .int x, .ref (ad G 124)] S K := by
  refine ret_enterH (by decide +kernel) (Nat.le_of_ble_eq_true rfl) (fun X hX h hm => ?_)
  subst hX
  replace h : OK X G N cL_incomeWithin RL 4 (8, 140, 1, 6) := h
  replace hm : OKmH X G N K (some .int) [(0, 9, 12, 15)] (8, 140, 1, 6) := hm
  show AW X G 4 N 0 [(0, _), (1, _), (2, _)] [] S 0 0
  refine r_aload_n (pc' := 1) h dL_incomeWithin_0 rfl rfl ?_
  refine r_iconst (pc' := 2) (v := 0) h dL_incomeWithin_1 rfl (by decide) ?_
  refine r_aload_n (pc' := 3) h dL_incomeWithin_2 rfl rfl ?_
  refine r_iload_n (pc' := 4) h dL_incomeWithin_3 rfl rfl ?_
  refine r_callVH (st := [.int 0, .ref (ad G 124)]) (M := mX4_incomeWithin) (As := [.int x]) h hm dL_incomeWithin_4 lL_106 vX4_incomeWithin rfl hD.l0 hD.o0 rfl rfl (by show 1 + (1 + 0) ≤ 8; decide) ⟨by decide, by decide, by decide, by decide⟩ (hc _ (fun S1 hD1 hR1 => ?_))
  rcases hag with ⟨e, ek⟩ | ⟨i, E, hi, e, ek⟩
  · rw [e]
    show AW X G 4 N 7 _ _ S1 _ _
    refine r_i2l (pc' := 8) h dL_incomeWithin_7 rfl ?_
    refine r_last (pc' := 9) h dL_incomeWithin_8 rfl hN ((hR1 124 (by decide)).trans ho) (show vp_in (nI 0) 1 from nI_in (by decide) (by decide)) ?_
    refine r_goto (tgt := 15) h dL_incomeWithin_9 (by decide) ?_
    refine r_iconst (pc' := 16) (v := 0) h dL_incomeWithin_15 rfl (by decide) ?_
    refine r_ireturnH h hm dL_incomeWithin_16 (by decide) (by decide) ?_
    have key := hk _ (vp_updL f 0 v.toInt64) (hD1.world (S' := va_up S1 124 (.inl (gJ G, 1, .inr (.inl (vp_updL f 0 v.toInt64))))) (fun j hj => up_ne _ _ (by omega))) (fun j a1 a2 => (up_ne _ _ a2).trans (hR1 j a1)) (up_at _ _ _) (fun _ => upL_0 _ _)
    rw [ek] at key
    exact key
  · rw [e]
    have hi2 : i < 1 := (List.getElem?_eq_some_iff.mp hi).1
    have fin : ∀ n, kk = n → K (.inl (some (.int n))) S1 := fun n z => by
      rw [← z]
      exact hk S1 f hD1 (fun j a1 _ => hR1 j a1) ((hR1 124 (by decide)).trans ho) (fun z2 => absurd (ek.symm.trans z2) (nI_ne0 (by omega) (by omega)))
    obtain rfl : i = 0 := by omega
    · cases hi
      refine ⟨[], _, _, eA, hm.2.2.1, fun z hz => absurd hz List.not_mem_nil, by decide, by decide, lL_15, ci_A, fun q => ?_⟩
      show AW X G 4 N 12 _ _ S1 _ _
      refine r_astore_n (pc' := 13) h dL_incomeWithin_12 rfl (by decide) rfl ?_
      refine r_iconst (pc' := 14) (v := 1) h dL_incomeWithin_13 rfl (by decide) ?_
      exact r_ireturnH h hm dL_incomeWithin_14 (by decide) (by decide) (fin _ ek)
theorem kL_hoursToBid {l : Launch} {G : GX} {N : Nat} {S : Nat → va_E} {K : RK} {D D2 : DM} {o : RO} {f : Nat → Int64} (hD : isD G N S D) (hN : 124 < N) (ho : S 124 = .inl (gJ G, 1, .inr (.inl f))) {kk v : Int32} (hc : ∀ K1 : RK, (∀ S1, isD G N S1 D2 → DR S S1 → K1 o S1) → RetK l G N mX4_hoursToBid (7, 103, 1, 6) [.ref (ad G 0)] S K1) (hag : agr [eN] o kk v)
    (hk : ∀ S1 g, isD G N S1 D2 → (∀ j, 118 < j → j ≠ 124 → S1 j = S j) → S1 124 = .inl (gJ G, 1, .inr (.inl g)) → (kk = 0 → g 0 = v.toInt64) → K (.inl (some (.int kk))) S1) : RetH l G N (yL_hoursToBid, cL_hoursToBid, 3, some .int) [(0, 8, 11, 39)] (8, 124, 1, 6) [.ref (ad G 0), .ref (ad G 124)] S K := by
  refine ret_enterH (by decide +kernel) (Nat.le_of_ble_eq_true rfl) (fun X hX h hm => ?_)
  subst hX
  replace h : OK X G N cL_hoursToBid RL 3 (8, 124, 1, 6) := h
  replace hm : OKmH X G N K (some .int) [(0, 8, 11, 39)] (8, 124, 1, 6) := hm
  show AW X G 3 N 0 [(0, _), (1, _)] [] S 0 0
  refine r_aload_n (pc' := 1) h dL_hoursToBid_0 rfl rfl ?_
  refine r_iconst (pc' := 2) (v := 0) h dL_hoursToBid_1 rfl (by decide) ?_
  refine r_aload_n (pc' := 3) h dL_hoursToBid_2 rfl rfl ?_
  refine r_callVH (st := [.int 0, .ref (ad G 124)]) (M := mX4_hoursToBid) (As := []) h hm dL_hoursToBid_3 lL_109 vX4_hoursToBid rfl hD.l0 hD.o0 rfl rfl (by show 1 + (1 + 0) ≤ 8; decide) ⟨by decide, by decide, by decide, by decide⟩ (hc _ (fun S1 hD1 hR1 => ?_))
  rcases hag with ⟨e, ek⟩ | ⟨i, E, hi, e, ek⟩
  · rw [e]
    show AW X G 3 N 6 _ _ S1 _ _
    refine r_i2l (pc' := 7) h dL_hoursToBid_6 rfl ?_
    refine r_last (pc' := 8) h dL_hoursToBid_7 rfl hN ((hR1 124 (by decide)).trans ho) (show vp_in (nI 0) 1 from nI_in (by decide) (by decide)) ?_
    refine r_goto (tgt := 14) h dL_hoursToBid_8 (by decide) ?_
    refine r_iconst (pc' := 15) (v := 0) h dL_hoursToBid_14 rfl (by decide) ?_
    refine r_ireturnH h hm dL_hoursToBid_15 (by decide) (by decide) ?_
    have key := hk _ (vp_updL f 0 v.toInt64) (hD1.world (S' := va_up S1 124 (.inl (gJ G, 1, .inr (.inl (vp_updL f 0 v.toInt64))))) (fun j hj => up_ne _ _ (by omega))) (fun j a1 a2 => (up_ne _ _ a2).trans (hR1 j a1)) (up_at _ _ _) (fun _ => upL_0 _ _)
    rw [ek] at key
    exact key
  · rw [e]
    have hi2 : i < 1 := (List.getElem?_eq_some_iff.mp hi).1
    have fin : ∀ n, kk = n → K (.inl (some (.int n))) S1 := fun n z => by
      rw [← z]
      exact hk S1 f hD1 (fun j a1 _ => hR1 j a1) ((hR1 124 (by decide)).trans ho) (fun z2 => absurd (ek.symm.trans z2) (nI_ne0 (by omega) (by omega)))
    obtain rfl : i = 0 := by omega
    · cases hi
      refine ⟨[], _, _, eN, hm.2.2.1, fun z hz => absurd hz List.not_mem_nil, by decide, by decide, lL_39, ci_N, fun q => ?_⟩
      show AW X G 3 N 11 _ _ S1 _ _
      refine r_astore_n (pc' := 12) h dL_hoursToBid_11 rfl (by decide) rfl ?_
      refine r_iconst (pc' := 13) (v := 1) h dL_hoursToBid_12 rfl (by decide) ?_
      exact r_ireturnH h hm dL_hoursToBid_13 (by decide) (by decide) (fin _ ek)
theorem kL_turbineByOutput {l : Launch} {G : GX} {N : Nat} {S : Nat → va_E} {K : RK} {D D2 : DM} {o : RO} {f : Nat → Int64} (hD : isD G N S D) (hN : 124 < N) (ho : S 124 = .inl (gJ G, 1, .inr (.inl f))) {x kk v : Int32} (hc : ∀ K1 : RK, (∀ S1, isD G N S1 D2 → DR S S1 → K1 o S1) → RetK l G N mX4_turbineByOutput (7, 117, 1, 6) [.ref (ad G 0), .int x] S K1) (hag : agr [eN] o kk v)
    (hk : ∀ S1 g, isD G N S1 D2 → (∀ j, 118 < j → j ≠ 124 → S1 j = S j) → S1 124 = .inl (gJ G, 1, .inr (.inl g)) → (kk = 0 → g 0 = v.toInt64) → K (.inl (some (.int kk))) S1) : RetH l G N (yL_turbineByOutput, cL_turbineByOutput, 4, some .int) [(0, 9, 12, 39)] (8, 139, 1, 6) [.ref (ad G 0), .int x, .ref (ad G 124)] S K := by
  refine ret_enterH (by decide +kernel) (Nat.le_of_ble_eq_true rfl) (fun X hX h hm => ?_)
  subst hX
  replace h : OK X G N cL_turbineByOutput RL 4 (8, 139, 1, 6) := h
  replace hm : OKmH X G N K (some .int) [(0, 9, 12, 39)] (8, 139, 1, 6) := hm
  show AW X G 4 N 0 [(0, _), (1, _), (2, _)] [] S 0 0
  refine r_aload_n (pc' := 1) h dL_turbineByOutput_0 rfl rfl ?_
  refine r_iconst (pc' := 2) (v := 0) h dL_turbineByOutput_1 rfl (by decide) ?_
  refine r_aload_n (pc' := 3) h dL_turbineByOutput_2 rfl rfl ?_
  refine r_iload_n (pc' := 4) h dL_turbineByOutput_3 rfl rfl ?_
  refine r_callVH (st := [.int 0, .ref (ad G 124)]) (M := mX4_turbineByOutput) (As := [.int x]) h hm dL_turbineByOutput_4 lL_113 vX4_turbineByOutput rfl hD.l0 hD.o0 rfl rfl (by show 1 + (1 + 0) ≤ 8; decide) ⟨by decide, by decide, by decide, by decide⟩ (hc _ (fun S1 hD1 hR1 => ?_))
  rcases hag with ⟨e, ek⟩ | ⟨i, E, hi, e, ek⟩
  · rw [e]
    show AW X G 4 N 7 _ _ S1 _ _
    refine r_i2l (pc' := 8) h dL_turbineByOutput_7 rfl ?_
    refine r_last (pc' := 9) h dL_turbineByOutput_8 rfl hN ((hR1 124 (by decide)).trans ho) (show vp_in (nI 0) 1 from nI_in (by decide) (by decide)) ?_
    refine r_goto (tgt := 15) h dL_turbineByOutput_9 (by decide) ?_
    refine r_iconst (pc' := 16) (v := 0) h dL_turbineByOutput_15 rfl (by decide) ?_
    refine r_ireturnH h hm dL_turbineByOutput_16 (by decide) (by decide) ?_
    have key := hk _ (vp_updL f 0 v.toInt64) (hD1.world (S' := va_up S1 124 (.inl (gJ G, 1, .inr (.inl (vp_updL f 0 v.toInt64))))) (fun j hj => up_ne _ _ (by omega))) (fun j a1 a2 => (up_ne _ _ a2).trans (hR1 j a1)) (up_at _ _ _) (fun _ => upL_0 _ _)
    rw [ek] at key
    exact key
  · rw [e]
    have hi2 : i < 1 := (List.getElem?_eq_some_iff.mp hi).1
    have fin : ∀ n, kk = n → K (.inl (some (.int n))) S1 := fun n z => by
      rw [← z]
      exact hk S1 f hD1 (fun j a1 _ => hR1 j a1) ((hR1 124 (by decide)).trans ho) (fun z2 => absurd (ek.symm.trans z2) (nI_ne0 (by omega) (by omega)))
    obtain rfl : i = 0 := by omega
    · cases hi
      refine ⟨[], _, _, eN, hm.2.2.1, fun z hz => absurd hz List.not_mem_nil, by decide, by decide, lL_39, ci_N, fun q => ?_⟩
      show AW X G 4 N 12 _ _ S1 _ _
      refine r_astore_n (pc' := 13) h dL_turbineByOutput_12 rfl (by decide) rfl ?_
      refine r_iconst (pc' := 14) (v := 1) h dL_turbineByOutput_13 rfl (by decide) ?_
      exact r_ireturnH h hm dL_turbineByOutput_14 (by decide) (by decide) (fin _ ek)
theorem kL_writeTurbine {l : Launch} {G : GX} {N : Nat} {S : Nat → va_E} {K : RK} {D D2 : DM} {o : RO} {f : Nat → Int64} (hD : isD G N S D) (hN : 124 < N) (ho : S 124 = .inl (gJ G, 1, .inr (.inl f))) {x kk v : Int32} (hc : ∀ K1 : RK, (∀ S1, isD G N S1 D2 → DR S S1 → K1 o S1) → RetK l G N mX4_writeTurbine (8, 124, 1, 6) [.ref (ad G 0), .int x] S K1) (hag : agr [eI] o kk v)
    (hk : ∀ S1 g, isD G N S1 D2 → (∀ j, 118 < j → j ≠ 124 → S1 j = S j) → S1 124 = .inl (gJ G, 1, .inr (.inl g)) → (kk = 0 → g 0 = v.toInt64) → K (.inl (some (.int kk))) S1) : RetH l G N (yL_writeTurbine, cL_writeTurbine, 4, some .int) [(0, 9, 12, 13)] (9, 145, 1, 6) [.ref (ad G 0), .int x, .ref (ad G 124)] S K := by
  refine ret_enterH (by decide +kernel) (Nat.le_of_ble_eq_true rfl) (fun X hX h hm => ?_)
  subst hX
  replace h : OK X G N cL_writeTurbine RL 4 (9, 145, 1, 6) := h
  replace hm : OKmH X G N K (some .int) [(0, 9, 12, 13)] (9, 145, 1, 6) := hm
  show AW X G 4 N 0 [(0, _), (1, _), (2, _)] [] S 0 0
  refine r_aload_n (pc' := 1) h dL_writeTurbine_0 rfl rfl ?_
  refine r_iconst (pc' := 2) (v := 0) h dL_writeTurbine_1 rfl (by decide) ?_
  refine r_aload_n (pc' := 3) h dL_writeTurbine_2 rfl rfl ?_
  refine r_iload_n (pc' := 4) h dL_writeTurbine_3 rfl rfl ?_
  refine r_callVH (st := [.int 0, .ref (ad G 124)]) (M := mX4_writeTurbine) (As := [.int x]) h hm dL_writeTurbine_4 lL_126 vX4_writeTurbine rfl hD.l0 hD.o0 rfl rfl (by show 1 + (1 + 0) ≤ 8; decide) ⟨by decide, by decide, by decide, by decide⟩ (hc _ (fun S1 hD1 hR1 => ?_))
  rcases hag with ⟨e, ek⟩ | ⟨i, E, hi, e, ek⟩
  · rw [e]
    show AW X G 4 N 7 _ _ S1 _ _
    refine r_i2l (pc' := 8) h dL_writeTurbine_7 rfl ?_
    refine r_last (pc' := 9) h dL_writeTurbine_8 rfl hN ((hR1 124 (by decide)).trans ho) (show vp_in (nI 0) 1 from nI_in (by decide) (by decide)) ?_
    refine r_goto (tgt := 15) h dL_writeTurbine_9 (by decide) ?_
    refine r_iconst (pc' := 16) (v := 0) h dL_writeTurbine_15 rfl (by decide) ?_
    refine r_ireturnH h hm dL_writeTurbine_16 (by decide) (by decide) ?_
    have key := hk _ (vp_updL f 0 v.toInt64) (hD1.world (S' := va_up S1 124 (.inl (gJ G, 1, .inr (.inl (vp_updL f 0 v.toInt64))))) (fun j hj => up_ne _ _ (by omega))) (fun j a1 a2 => (up_ne _ _ a2).trans (hR1 j a1)) (up_at _ _ _) (fun _ => upL_0 _ _)
    rw [ek] at key
    exact key
  · rw [e]
    have hi2 : i < 1 := (List.getElem?_eq_some_iff.mp hi).1
    have fin : ∀ n, kk = n → K (.inl (some (.int n))) S1 := fun n z => by
      rw [← z]
      exact hk S1 f hD1 (fun j a1 _ => hR1 j a1) ((hR1 124 (by decide)).trans ho) (fun z2 => absurd (ek.symm.trans z2) (nI_ne0 (by omega) (by omega)))
    obtain rfl : i = 0 := by omega
    · cases hi
      refine ⟨[], _, _, eI, hm.2.2.1, fun z hz => absurd hz List.not_mem_nil, by decide, by decide, lL_13, ci_I, fun q => ?_⟩
      show AW X G 4 N 12 _ _ S1 _ _
      refine r_astore_n (pc' := 13) h dL_writeTurbine_12 rfl (by decide) rfl ?_
      refine r_iconst (pc' := 14) (v := 1) h dL_writeTurbine_13 rfl (by decide) ?_
      exact r_ireturnH h hm dL_writeTurbine_14 (by decide) (by decide) (fin _ ek)
theorem kL_outputAt {l : Launch} {G : GX} {N : Nat} {S : Nat → va_E} {K : RK} {D D2 : DM} {o : RO} {f : Nat → Int64} (hD : isD G N S D) (hN : 124 < N) (ho : S 124 = .inl (gJ G, 1, .inr (.inl f))) {x kk v : Int32} (hc : ∀ K1 : RK, (∀ S1, isD G N S1 D2 → DR S S1 → K1 o S1) → RetK l G N mX4_outputAt (7, 103, 1, 6) [.ref (ad G 0), .int x] S K1) (hag : agr [eI] o kk v)
    (hk : ∀ S1 g, isD G N S1 D2 → (∀ j, 118 < j → j ≠ 124 → S1 j = S j) → S1 124 = .inl (gJ G, 1, .inr (.inl g)) → (kk = 0 → g 0 = v.toInt64) → K (.inl (some (.int kk))) S1) : RetH l G N (yL_outputAt, cL_outputAt, 4, some .int) [(0, 9, 12, 13)] (8, 124, 1, 6) [.ref (ad G 0), .int x, .ref (ad G 124)] S K := by
  refine ret_enterH (by decide +kernel) (Nat.le_of_ble_eq_true rfl) (fun X hX h hm => ?_)
  subst hX
  replace h : OK X G N cL_outputAt RL 4 (8, 124, 1, 6) := h
  replace hm : OKmH X G N K (some .int) [(0, 9, 12, 13)] (8, 124, 1, 6) := hm
  show AW X G 4 N 0 [(0, _), (1, _), (2, _)] [] S 0 0
  refine r_aload_n (pc' := 1) h dL_outputAt_0 rfl rfl ?_
  refine r_iconst (pc' := 2) (v := 0) h dL_outputAt_1 rfl (by decide) ?_
  refine r_aload_n (pc' := 3) h dL_outputAt_2 rfl rfl ?_
  refine r_iload_n (pc' := 4) h dL_outputAt_3 rfl rfl ?_
  refine r_callVH (st := [.int 0, .ref (ad G 124)]) (M := mX4_outputAt) (As := [.int x]) h hm dL_outputAt_4 lL_129 vX4_outputAt rfl hD.l0 hD.o0 rfl rfl (by show 1 + (1 + 0) ≤ 8; decide) ⟨by decide, by decide, by decide, by decide⟩ (hc _ (fun S1 hD1 hR1 => ?_))
  rcases hag with ⟨e, ek⟩ | ⟨i, E, hi, e, ek⟩
  · rw [e]
    show AW X G 4 N 7 _ _ S1 _ _
    refine r_i2l (pc' := 8) h dL_outputAt_7 rfl ?_
    refine r_last (pc' := 9) h dL_outputAt_8 rfl hN ((hR1 124 (by decide)).trans ho) (show vp_in (nI 0) 1 from nI_in (by decide) (by decide)) ?_
    refine r_goto (tgt := 15) h dL_outputAt_9 (by decide) ?_
    refine r_iconst (pc' := 16) (v := 0) h dL_outputAt_15 rfl (by decide) ?_
    refine r_ireturnH h hm dL_outputAt_16 (by decide) (by decide) ?_
    have key := hk _ (vp_updL f 0 v.toInt64) (hD1.world (S' := va_up S1 124 (.inl (gJ G, 1, .inr (.inl (vp_updL f 0 v.toInt64))))) (fun j hj => up_ne _ _ (by omega))) (fun j a1 a2 => (up_ne _ _ a2).trans (hR1 j a1)) (up_at _ _ _) (fun _ => upL_0 _ _)
    rw [ek] at key
    exact key
  · rw [e]
    have hi2 : i < 1 := (List.getElem?_eq_some_iff.mp hi).1
    have fin : ∀ n, kk = n → K (.inl (some (.int n))) S1 := fun n z => by
      rw [← z]
      exact hk S1 f hD1 (fun j a1 _ => hR1 j a1) ((hR1 124 (by decide)).trans ho) (fun z2 => absurd (ek.symm.trans z2) (nI_ne0 (by omega) (by omega)))
    obtain rfl : i = 0 := by omega
    · cases hi
      refine ⟨[], _, _, eI, hm.2.2.1, fun z hz => absurd hz List.not_mem_nil, by decide, by decide, lL_13, ci_I, fun q => ?_⟩
      show AW X G 4 N 12 _ _ S1 _ _
      refine r_astore_n (pc' := 13) h dL_outputAt_12 rfl (by decide) rfl ?_
      refine r_iconst (pc' := 14) (v := 1) h dL_outputAt_13 rfl (by decide) ?_
      exact r_ireturnH h hm dL_outputAt_14 (by decide) (by decide) (fin _ ek)
theorem kL_appendInput {l : Launch} {G : GX} {N : Nat} {S : Nat → va_E} {K : RK} {D D2 : DM} {o : RO} {f : Nat → Int64} (hD : isD G N S D) (hN : 124 < N) (ho : S 124 = .inl (gJ G, 1, .inr (.inl f))) {x kk v : Int32} (hc : ∀ K1 : RK, (∀ S1, isD G N S1 D2 → DR S S1 → K1 o S1) → RetK l G N mX4_appendInput (7, 103, 2, 12) [.ref (ad G 0), .int x] S K1) (hag : agr [eA, eS] o kk v)
    (hk : ∀ S1 g, isD G N S1 D2 → (∀ j, 118 < j → j ≠ 124 → S1 j = S j) → S1 124 = .inl (gJ G, 1, .inr (.inl g)) → (kk = 0 → g 0 = v.toInt64) → K (.inl (some (.int kk))) S1) : RetH l G N (yL_appendInput, cL_appendInput, 4, some .int) [(0, 9, 12, 15), (0, 9, 15, 137)] (8, 124, 2, 12) [.ref (ad G 0), .int x, .ref (ad G 124)] S K := by
  refine ret_enterH (by decide +kernel) (Nat.le_of_ble_eq_true rfl) (fun X hX h hm => ?_)
  subst hX
  replace h : OK X G N cL_appendInput RL 4 (8, 124, 2, 12) := h
  replace hm : OKmH X G N K (some .int) [(0, 9, 12, 15), (0, 9, 15, 137)] (8, 124, 2, 12) := hm
  show AW X G 4 N 0 [(0, _), (1, _), (2, _)] [] S 0 0
  refine r_aload_n (pc' := 1) h dL_appendInput_0 rfl rfl ?_
  refine r_iconst (pc' := 2) (v := 0) h dL_appendInput_1 rfl (by decide) ?_
  refine r_aload_n (pc' := 3) h dL_appendInput_2 rfl rfl ?_
  refine r_iload_n (pc' := 4) h dL_appendInput_3 rfl rfl ?_
  refine r_callVH (st := [.int 0, .ref (ad G 124)]) (M := mX4_appendInput) (As := [.int x]) h hm dL_appendInput_4 lL_133 vX4_appendInput rfl hD.l0 hD.o0 rfl rfl (by show 1 + (1 + 0) ≤ 8; decide) ⟨by decide, by decide, by decide, by decide⟩ (hc _ (fun S1 hD1 hR1 => ?_))
  rcases hag with ⟨e, ek⟩ | ⟨i, E, hi, e, ek⟩
  · rw [e]
    show AW X G 4 N 7 _ _ S1 _ _
    refine r_i2l (pc' := 8) h dL_appendInput_7 rfl ?_
    refine r_last (pc' := 9) h dL_appendInput_8 rfl hN ((hR1 124 (by decide)).trans ho) (show vp_in (nI 0) 1 from nI_in (by decide) (by decide)) ?_
    refine r_goto (tgt := 18) h dL_appendInput_9 (by decide) ?_
    refine r_iconst (pc' := 19) (v := 0) h dL_appendInput_18 rfl (by decide) ?_
    refine r_ireturnH h hm dL_appendInput_19 (by decide) (by decide) ?_
    have key := hk _ (vp_updL f 0 v.toInt64) (hD1.world (S' := va_up S1 124 (.inl (gJ G, 1, .inr (.inl (vp_updL f 0 v.toInt64))))) (fun j hj => up_ne _ _ (by omega))) (fun j a1 a2 => (up_ne _ _ a2).trans (hR1 j a1)) (up_at _ _ _) (fun _ => upL_0 _ _)
    rw [ek] at key
    exact key
  · rw [e]
    have hi2 : i < 2 := (List.getElem?_eq_some_iff.mp hi).1
    have fin : ∀ n, kk = n → K (.inl (some (.int n))) S1 := fun n z => by
      rw [← z]
      exact hk S1 f hD1 (fun j a1 _ => hR1 j a1) ((hR1 124 (by decide)).trans ho) (fun z2 => absurd (ek.symm.trans z2) (nI_ne0 (by omega) (by omega)))
    rcases (by omega : i = 0 ∨ i = 1) with rfl | rfl
    · cases hi
      refine ⟨[], _, _, eA, hm.2.2.1, fun z hz => absurd hz List.not_mem_nil, by decide, by decide, lL_15, ci_A, fun q => ?_⟩
      show AW X G 4 N 12 _ _ S1 _ _
      refine r_astore_n (pc' := 13) h dL_appendInput_12 rfl (by decide) rfl ?_
      refine r_iconst (pc' := 14) (v := 1) h dL_appendInput_13 rfl (by decide) ?_
      exact r_ireturnH h hm dL_appendInput_14 (by decide) (by decide) (fin _ ek)
    · cases hi
      refine ⟨[_], _, _, eS, hm.2.2.1, fun z hz => ?_, by decide, by decide, lL_137, ci_S, fun q => ?_⟩
      · cases List.mem_singleton.mp hz
        exact Or.inr ⟨by decide, eA, lL_15, by decide⟩
      · show AW X G 4 N 15 _ _ S1 _ _
        refine r_astore_n (pc' := 16) h dL_appendInput_15 rfl (by decide) rfl ?_
        refine r_iconst (pc' := 17) (v := 2) h dL_appendInput_16 rfl (by decide) ?_
        exact r_ireturnH h hm dL_appendInput_17 (by decide) (by decide) (fin _ ek)
theorem kL_execute {l : Launch} {G : GX} {N : Nat} {S : Nat → va_E} {K : RK} {D D2 : DM} {o : RO} {f : Nat → Int64} (hD : isD G N S D) (hN : 124 < N) (ho : S 124 = .inl (gJ G, 1, .inr (.inl f))) {kk v : Int32} (hc : ∀ K1 : RK, (∀ S1, isD G N S1 D2 → DR S S1 → K1 o S1) → RetK l G N mX4_execute (8, 149, 3, 18) [.ref (ad G 0)] S K1) (hag : agr [eA, eS, eU] o kk v)
    (hk : ∀ S1 g, isD G N S1 D2 → (∀ j, 118 < j → j ≠ 124 → S1 j = S j) → S1 124 = .inl (gJ G, 1, .inr (.inl g)) → (kk = 0 → g 0 = v.toInt64) → K (.inl (some (.int kk))) S1) : RetH l G N (yL_execute, cL_execute, 3, some .int) [(0, 8, 11, 15), (0, 8, 14, 137), (0, 8, 17, 17)] (9, 175, 3, 18) [.ref (ad G 0), .ref (ad G 124)] S K := by
  refine ret_enterH (by decide +kernel) (Nat.le_of_ble_eq_true rfl) (fun X hX h hm => ?_)
  subst hX
  replace h : OK X G N cL_execute RL 3 (9, 175, 3, 18) := h
  replace hm : OKmH X G N K (some .int) [(0, 8, 11, 15), (0, 8, 14, 137), (0, 8, 17, 17)] (9, 175, 3, 18) := hm
  show AW X G 3 N 0 [(0, _), (1, _)] [] S 0 0
  refine r_aload_n (pc' := 1) h dL_execute_0 rfl rfl ?_
  refine r_iconst (pc' := 2) (v := 0) h dL_execute_1 rfl (by decide) ?_
  refine r_aload_n (pc' := 3) h dL_execute_2 rfl rfl ?_
  refine r_callVH (st := [.int 0, .ref (ad G 124)]) (M := mX4_execute) (As := []) h hm dL_execute_3 lL_139 vX4_execute rfl hD.l0 hD.o0 rfl rfl (by show 1 + (1 + 0) ≤ 8; decide) ⟨by decide, by decide, by decide, by decide⟩ (hc _ (fun S1 hD1 hR1 => ?_))
  rcases hag with ⟨e, ek⟩ | ⟨i, E, hi, e, ek⟩
  · rw [e]
    show AW X G 3 N 6 _ _ S1 _ _
    refine r_i2l (pc' := 7) h dL_execute_6 rfl ?_
    refine r_last (pc' := 8) h dL_execute_7 rfl hN ((hR1 124 (by decide)).trans ho) (show vp_in (nI 0) 1 from nI_in (by decide) (by decide)) ?_
    refine r_goto (tgt := 20) h dL_execute_8 (by decide) ?_
    refine r_iconst (pc' := 21) (v := 0) h dL_execute_20 rfl (by decide) ?_
    refine r_ireturnH h hm dL_execute_21 (by decide) (by decide) ?_
    have key := hk _ (vp_updL f 0 v.toInt64) (hD1.world (S' := va_up S1 124 (.inl (gJ G, 1, .inr (.inl (vp_updL f 0 v.toInt64))))) (fun j hj => up_ne _ _ (by omega))) (fun j a1 a2 => (up_ne _ _ a2).trans (hR1 j a1)) (up_at _ _ _) (fun _ => upL_0 _ _)
    rw [ek] at key
    exact key
  · rw [e]
    have hi2 : i < 3 := (List.getElem?_eq_some_iff.mp hi).1
    have fin : ∀ n, kk = n → K (.inl (some (.int n))) S1 := fun n z => by
      rw [← z]
      exact hk S1 f hD1 (fun j a1 _ => hR1 j a1) ((hR1 124 (by decide)).trans ho) (fun z2 => absurd (ek.symm.trans z2) (nI_ne0 (by omega) (by omega)))
    rcases (by omega : i = 0 ∨ i = 1 ∨ i = 2) with rfl | rfl | rfl
    · cases hi
      refine ⟨[], _, _, eA, hm.2.2.1, fun z hz => absurd hz List.not_mem_nil, by decide, by decide, lL_15, ci_A, fun q => ?_⟩
      show AW X G 3 N 11 _ _ S1 _ _
      refine r_astore_n (pc' := 12) h dL_execute_11 rfl (by decide) rfl ?_
      refine r_iconst (pc' := 13) (v := 1) h dL_execute_12 rfl (by decide) ?_
      exact r_ireturnH h hm dL_execute_13 (by decide) (by decide) (fin _ ek)
    · cases hi
      refine ⟨[_], _, _, eS, hm.2.2.1, fun z hz => ?_, by decide, by decide, lL_137, ci_S, fun q => ?_⟩
      · cases List.mem_singleton.mp hz
        exact Or.inr ⟨by decide, eA, lL_15, by decide⟩
      · show AW X G 3 N 14 _ _ S1 _ _
        refine r_astore_n (pc' := 15) h dL_execute_14 rfl (by decide) rfl ?_
        refine r_iconst (pc' := 16) (v := 2) h dL_execute_15 rfl (by decide) ?_
        exact r_ireturnH h hm dL_execute_16 (by decide) (by decide) (fin _ ek)
    · cases hi
      refine ⟨[_, _], _, _, eU, hm.2.2.1, fun z hz => ?_, by decide, by decide, lL_17, ci_U, fun q => ?_⟩
      · rcases List.mem_cons.mp hz with rfl | hz
        · exact Or.inr ⟨by decide, eA, lL_15, by decide⟩
        · cases List.mem_singleton.mp hz
          exact Or.inr ⟨by decide, eS, lL_137, by decide⟩
      · show AW X G 3 N 17 _ _ S1 _ _
        refine r_astore_n (pc' := 18) h dL_execute_17 rfl (by decide) rfl ?_
        refine r_iconst (pc' := 19) (v := 3) h dL_execute_18 rfl (by decide) ?_
        exact r_ireturnH h hm dL_execute_19 (by decide) (by decide) (fin _ ek)
theorem kL_syntaxErrorOffset {l : Launch} {G : GX} {N : Nat} {S : Nat → va_E} {K : RK} {D D2 : DM} {o : RO} {f : Nat → Int64} (hD : isD G N S D) (hN : 124 < N) (ho : S 124 = .inl (gJ G, 1, .inr (.inl f))) {kk v : Int32} (hc : ∀ K1 : RK, (∀ S1, isD G N S1 D2 → DR S S1 → K1 o S1) → RetK l G N mX4_syntaxErrorOffset (7, 103, 1, 6) [.ref (ad G 0)] S K1) (hag : agr [eN] o kk v)
    (hk : ∀ S1 g, isD G N S1 D2 → (∀ j, 118 < j → j ≠ 124 → S1 j = S j) → S1 124 = .inl (gJ G, 1, .inr (.inl g)) → (kk = 0 → g 0 = v.toInt64) → K (.inl (some (.int kk))) S1) : RetH l G N (yL_syntaxErrorOffset, cL_syntaxErrorOffset, 3, some .int) [(0, 8, 11, 39)] (8, 123, 1, 6) [.ref (ad G 0), .ref (ad G 124)] S K := by
  refine ret_enterH (by decide +kernel) (Nat.le_of_ble_eq_true rfl) (fun X hX h hm => ?_)
  subst hX
  replace h : OK X G N cL_syntaxErrorOffset RL 3 (8, 123, 1, 6) := h
  replace hm : OKmH X G N K (some .int) [(0, 8, 11, 39)] (8, 123, 1, 6) := hm
  show AW X G 3 N 0 [(0, _), (1, _)] [] S 0 0
  refine r_aload_n (pc' := 1) h dL_syntaxErrorOffset_0 rfl rfl ?_
  refine r_iconst (pc' := 2) (v := 0) h dL_syntaxErrorOffset_1 rfl (by decide) ?_
  refine r_aload_n (pc' := 3) h dL_syntaxErrorOffset_2 rfl rfl ?_
  refine r_callVH (st := [.int 0, .ref (ad G 124)]) (M := mX4_syntaxErrorOffset) (As := []) h hm dL_syntaxErrorOffset_3 lL_142 vX4_syntaxErrorOffset rfl hD.l0 hD.o0 rfl rfl (by show 1 + (1 + 0) ≤ 8; decide) ⟨by decide, by decide, by decide, by decide⟩ (hc _ (fun S1 hD1 hR1 => ?_))
  rcases hag with ⟨e, ek⟩ | ⟨i, E, hi, e, ek⟩
  · rw [e]
    show AW X G 3 N 6 _ _ S1 _ _
    refine r_i2l (pc' := 7) h dL_syntaxErrorOffset_6 rfl ?_
    refine r_last (pc' := 8) h dL_syntaxErrorOffset_7 rfl hN ((hR1 124 (by decide)).trans ho) (show vp_in (nI 0) 1 from nI_in (by decide) (by decide)) ?_
    refine r_goto (tgt := 14) h dL_syntaxErrorOffset_8 (by decide) ?_
    refine r_iconst (pc' := 15) (v := 0) h dL_syntaxErrorOffset_14 rfl (by decide) ?_
    refine r_ireturnH h hm dL_syntaxErrorOffset_15 (by decide) (by decide) ?_
    have key := hk _ (vp_updL f 0 v.toInt64) (hD1.world (S' := va_up S1 124 (.inl (gJ G, 1, .inr (.inl (vp_updL f 0 v.toInt64))))) (fun j hj => up_ne _ _ (by omega))) (fun j a1 a2 => (up_ne _ _ a2).trans (hR1 j a1)) (up_at _ _ _) (fun _ => upL_0 _ _)
    rw [ek] at key
    exact key
  · rw [e]
    have hi2 : i < 1 := (List.getElem?_eq_some_iff.mp hi).1
    have fin : ∀ n, kk = n → K (.inl (some (.int n))) S1 := fun n z => by
      rw [← z]
      exact hk S1 f hD1 (fun j a1 _ => hR1 j a1) ((hR1 124 (by decide)).trans ho) (fun z2 => absurd (ek.symm.trans z2) (nI_ne0 (by omega) (by omega)))
    obtain rfl : i = 0 := by omega
    · cases hi
      refine ⟨[], _, _, eN, hm.2.2.1, fun z hz => absurd hz List.not_mem_nil, by decide, by decide, lL_39, ci_N, fun q => ?_⟩
      show AW X G 3 N 11 _ _ S1 _ _
      refine r_astore_n (pc' := 12) h dL_syntaxErrorOffset_11 rfl (by decide) rfl ?_
      refine r_iconst (pc' := 13) (v := 1) h dL_syntaxErrorOffset_12 rfl (by decide) ?_
      exact r_ireturnH h hm dL_syntaxErrorOffset_13 (by decide) (by decide) (fin _ ek)
theorem kL_rejectionReason {l : Launch} {G : GX} {N : Nat} {S : Nat → va_E} {K : RK} {D D2 : DM} {o : RO} {f : Nat → Int64} (hD : isD G N S D) (hN : 124 < N) (ho : S 124 = .inl (gJ G, 1, .inr (.inl f))) {kk v : Int32} (hc : ∀ K1 : RK, (∀ S1, isD G N S1 D2 → DR S S1 → K1 o S1) → RetK l G N mX4_rejectionReason (8, 123, 1, 6) [.ref (ad G 0)] S K1) (hag : agr [eN] o kk v)
    (hk : ∀ S1 g, isD G N S1 D2 → (∀ j, 118 < j → j ≠ 124 → S1 j = S j) → S1 124 = .inl (gJ G, 1, .inr (.inl g)) → (kk = 0 → g 0 = v.toInt64) → K (.inl (some (.int kk))) S1) : RetH l G N (yL_rejectionReason, cL_rejectionReason, 3, some .int) [(0, 8, 11, 39)] (9, 143, 1, 6) [.ref (ad G 0), .ref (ad G 124)] S K := by
  refine ret_enterH (by decide +kernel) (Nat.le_of_ble_eq_true rfl) (fun X hX h hm => ?_)
  subst hX
  replace h : OK X G N cL_rejectionReason RL 3 (9, 143, 1, 6) := h
  replace hm : OKmH X G N K (some .int) [(0, 8, 11, 39)] (9, 143, 1, 6) := hm
  show AW X G 3 N 0 [(0, _), (1, _)] [] S 0 0
  refine r_aload_n (pc' := 1) h dL_rejectionReason_0 rfl rfl ?_
  refine r_iconst (pc' := 2) (v := 0) h dL_rejectionReason_1 rfl (by decide) ?_
  refine r_aload_n (pc' := 3) h dL_rejectionReason_2 rfl rfl ?_
  refine r_callVH (st := [.int 0, .ref (ad G 124)]) (M := mX4_rejectionReason) (As := []) h hm dL_rejectionReason_3 lL_145 vX4_rejectionReason rfl hD.l0 hD.o0 rfl rfl (by show 1 + (1 + 0) ≤ 8; decide) ⟨by decide, by decide, by decide, by decide⟩ (hc _ (fun S1 hD1 hR1 => ?_))
  rcases hag with ⟨e, ek⟩ | ⟨i, E, hi, e, ek⟩
  · rw [e]
    show AW X G 3 N 6 _ _ S1 _ _
    refine r_i2l (pc' := 7) h dL_rejectionReason_6 rfl ?_
    refine r_last (pc' := 8) h dL_rejectionReason_7 rfl hN ((hR1 124 (by decide)).trans ho) (show vp_in (nI 0) 1 from nI_in (by decide) (by decide)) ?_
    refine r_goto (tgt := 14) h dL_rejectionReason_8 (by decide) ?_
    refine r_iconst (pc' := 15) (v := 0) h dL_rejectionReason_14 rfl (by decide) ?_
    refine r_ireturnH h hm dL_rejectionReason_15 (by decide) (by decide) ?_
    have key := hk _ (vp_updL f 0 v.toInt64) (hD1.world (S' := va_up S1 124 (.inl (gJ G, 1, .inr (.inl (vp_updL f 0 v.toInt64))))) (fun j hj => up_ne _ _ (by omega))) (fun j a1 a2 => (up_ne _ _ a2).trans (hR1 j a1)) (up_at _ _ _) (fun _ => upL_0 _ _)
    rw [ek] at key
    exact key
  · rw [e]
    have hi2 : i < 1 := (List.getElem?_eq_some_iff.mp hi).1
    have fin : ∀ n, kk = n → K (.inl (some (.int n))) S1 := fun n z => by
      rw [← z]
      exact hk S1 f hD1 (fun j a1 _ => hR1 j a1) ((hR1 124 (by decide)).trans ho) (fun z2 => absurd (ek.symm.trans z2) (nI_ne0 (by omega) (by omega)))
    obtain rfl : i = 0 := by omega
    · cases hi
      refine ⟨[], _, _, eN, hm.2.2.1, fun z hz => absurd hz List.not_mem_nil, by decide, by decide, lL_39, ci_N, fun q => ?_⟩
      show AW X G 3 N 11 _ _ S1 _ _
      refine r_astore_n (pc' := 12) h dL_rejectionReason_11 rfl (by decide) rfl ?_
      refine r_iconst (pc' := 13) (v := 1) h dL_rejectionReason_12 rfl (by decide) ?_
      exact r_ireturnH h hm dL_rejectionReason_13 (by decide) (by decide) (fin _ ek)
theorem kL_rejectionDetail {l : Launch} {G : GX} {N : Nat} {S : Nat → va_E} {K : RK} {D D2 : DM} {o : RO} {f : Nat → Int64} (hD : isD G N S D) (hN : 124 < N) (ho : S 124 = .inl (gJ G, 1, .inr (.inl f))) {kk v : Int32} (hc : ∀ K1 : RK, (∀ S1, isD G N S1 D2 → DR S S1 → K1 o S1) → RetK l G N mX4_rejectionDetail (8, 123, 1, 6) [.ref (ad G 0)] S K1) (hag : agr [eN] o kk v)
    (hk : ∀ S1 g, isD G N S1 D2 → (∀ j, 118 < j → j ≠ 124 → S1 j = S j) → S1 124 = .inl (gJ G, 1, .inr (.inl g)) → (kk = 0 → g 0 = v.toInt64) → K (.inl (some (.int kk))) S1) : RetH l G N (yL_rejectionDetail, cL_rejectionDetail, 3, some .int) [(0, 8, 11, 39)] (9, 143, 1, 6) [.ref (ad G 0), .ref (ad G 124)] S K := by
  refine ret_enterH (by decide +kernel) (Nat.le_of_ble_eq_true rfl) (fun X hX h hm => ?_)
  subst hX
  replace h : OK X G N cL_rejectionDetail RL 3 (9, 143, 1, 6) := h
  replace hm : OKmH X G N K (some .int) [(0, 8, 11, 39)] (9, 143, 1, 6) := hm
  show AW X G 3 N 0 [(0, _), (1, _)] [] S 0 0
  refine r_aload_n (pc' := 1) h dL_rejectionDetail_0 rfl rfl ?_
  refine r_iconst (pc' := 2) (v := 0) h dL_rejectionDetail_1 rfl (by decide) ?_
  refine r_aload_n (pc' := 3) h dL_rejectionDetail_2 rfl rfl ?_
  refine r_callVH (st := [.int 0, .ref (ad G 124)]) (M := mX4_rejectionDetail) (As := []) h hm dL_rejectionDetail_3 lL_148 vX4_rejectionDetail rfl hD.l0 hD.o0 rfl rfl (by show 1 + (1 + 0) ≤ 8; decide) ⟨by decide, by decide, by decide, by decide⟩ (hc _ (fun S1 hD1 hR1 => ?_))
  rcases hag with ⟨e, ek⟩ | ⟨i, E, hi, e, ek⟩
  · rw [e]
    show AW X G 3 N 6 _ _ S1 _ _
    refine r_i2l (pc' := 7) h dL_rejectionDetail_6 rfl ?_
    refine r_last (pc' := 8) h dL_rejectionDetail_7 rfl hN ((hR1 124 (by decide)).trans ho) (show vp_in (nI 0) 1 from nI_in (by decide) (by decide)) ?_
    refine r_goto (tgt := 14) h dL_rejectionDetail_8 (by decide) ?_
    refine r_iconst (pc' := 15) (v := 0) h dL_rejectionDetail_14 rfl (by decide) ?_
    refine r_ireturnH h hm dL_rejectionDetail_15 (by decide) (by decide) ?_
    have key := hk _ (vp_updL f 0 v.toInt64) (hD1.world (S' := va_up S1 124 (.inl (gJ G, 1, .inr (.inl (vp_updL f 0 v.toInt64))))) (fun j hj => up_ne _ _ (by omega))) (fun j a1 a2 => (up_ne _ _ a2).trans (hR1 j a1)) (up_at _ _ _) (fun _ => upL_0 _ _)
    rw [ek] at key
    exact key
  · rw [e]
    have hi2 : i < 1 := (List.getElem?_eq_some_iff.mp hi).1
    have fin : ∀ n, kk = n → K (.inl (some (.int n))) S1 := fun n z => by
      rw [← z]
      exact hk S1 f hD1 (fun j a1 _ => hR1 j a1) ((hR1 124 (by decide)).trans ho) (fun z2 => absurd (ek.symm.trans z2) (nI_ne0 (by omega) (by omega)))
    obtain rfl : i = 0 := by omega
    · cases hi
      refine ⟨[], _, _, eN, hm.2.2.1, fun z hz => absurd hz List.not_mem_nil, by decide, by decide, lL_39, ci_N, fun q => ?_⟩
      show AW X G 3 N 11 _ _ S1 _ _
      refine r_astore_n (pc' := 12) h dL_rejectionDetail_11 rfl (by decide) rfl ?_
      refine r_iconst (pc' := 13) (v := 1) h dL_rejectionDetail_12 rfl (by decide) ?_
      exact r_ireturnH h hm dL_rejectionDetail_13 (by decide) (by decide) (fin _ ek)
theorem kL_causeReason {l : Launch} {G : GX} {N : Nat} {S : Nat → va_E} {K : RK} {D D2 : DM} {o : RO} {f : Nat → Int64} (hD : isD G N S D) (hN : 124 < N) (ho : S 124 = .inl (gJ G, 1, .inr (.inl f))) {kk v : Int32} (hc : ∀ K1 : RK, (∀ S1, isD G N S1 D2 → DR S S1 → K1 o S1) → RetK l G N mX4_causeReason (7, 103, 1, 6) [.ref (ad G 0)] S K1) (hag : agr [eN] o kk v)
    (hk : ∀ S1 g, isD G N S1 D2 → (∀ j, 118 < j → j ≠ 124 → S1 j = S j) → S1 124 = .inl (gJ G, 1, .inr (.inl g)) → (kk = 0 → g 0 = v.toInt64) → K (.inl (some (.int kk))) S1) : RetH l G N (yL_causeReason, cL_causeReason, 3, some .int) [(0, 8, 11, 39)] (8, 123, 1, 6) [.ref (ad G 0), .ref (ad G 124)] S K := by
  refine ret_enterH (by decide +kernel) (Nat.le_of_ble_eq_true rfl) (fun X hX h hm => ?_)
  subst hX
  replace h : OK X G N cL_causeReason RL 3 (8, 123, 1, 6) := h
  replace hm : OKmH X G N K (some .int) [(0, 8, 11, 39)] (8, 123, 1, 6) := hm
  show AW X G 3 N 0 [(0, _), (1, _)] [] S 0 0
  refine r_aload_n (pc' := 1) h dL_causeReason_0 rfl rfl ?_
  refine r_iconst (pc' := 2) (v := 0) h dL_causeReason_1 rfl (by decide) ?_
  refine r_aload_n (pc' := 3) h dL_causeReason_2 rfl rfl ?_
  refine r_callVH (st := [.int 0, .ref (ad G 124)]) (M := mX4_causeReason) (As := []) h hm dL_causeReason_3 lL_151 vX4_causeReason rfl hD.l0 hD.o0 rfl rfl (by show 1 + (1 + 0) ≤ 8; decide) ⟨by decide, by decide, by decide, by decide⟩ (hc _ (fun S1 hD1 hR1 => ?_))
  rcases hag with ⟨e, ek⟩ | ⟨i, E, hi, e, ek⟩
  · rw [e]
    show AW X G 3 N 6 _ _ S1 _ _
    refine r_i2l (pc' := 7) h dL_causeReason_6 rfl ?_
    refine r_last (pc' := 8) h dL_causeReason_7 rfl hN ((hR1 124 (by decide)).trans ho) (show vp_in (nI 0) 1 from nI_in (by decide) (by decide)) ?_
    refine r_goto (tgt := 14) h dL_causeReason_8 (by decide) ?_
    refine r_iconst (pc' := 15) (v := 0) h dL_causeReason_14 rfl (by decide) ?_
    refine r_ireturnH h hm dL_causeReason_15 (by decide) (by decide) ?_
    have key := hk _ (vp_updL f 0 v.toInt64) (hD1.world (S' := va_up S1 124 (.inl (gJ G, 1, .inr (.inl (vp_updL f 0 v.toInt64))))) (fun j hj => up_ne _ _ (by omega))) (fun j a1 a2 => (up_ne _ _ a2).trans (hR1 j a1)) (up_at _ _ _) (fun _ => upL_0 _ _)
    rw [ek] at key
    exact key
  · rw [e]
    have hi2 : i < 1 := (List.getElem?_eq_some_iff.mp hi).1
    have fin : ∀ n, kk = n → K (.inl (some (.int n))) S1 := fun n z => by
      rw [← z]
      exact hk S1 f hD1 (fun j a1 _ => hR1 j a1) ((hR1 124 (by decide)).trans ho) (fun z2 => absurd (ek.symm.trans z2) (nI_ne0 (by omega) (by omega)))
    obtain rfl : i = 0 := by omega
    · cases hi
      refine ⟨[], _, _, eN, hm.2.2.1, fun z hz => absurd hz List.not_mem_nil, by decide, by decide, lL_39, ci_N, fun q => ?_⟩
      show AW X G 3 N 11 _ _ S1 _ _
      refine r_astore_n (pc' := 12) h dL_causeReason_11 rfl (by decide) rfl ?_
      refine r_iconst (pc' := 13) (v := 1) h dL_causeReason_12 rfl (by decide) ?_
      exact r_ireturnH h hm dL_causeReason_13 (by decide) (by decide) (fin _ ek)
theorem kL_undo {l : Launch} {G : GX} {N : Nat} {S : Nat → va_E} {K : RK} {D D2 : DM} {o : RO} {f : Nat → Int64} (hD : isD G N S D) (hN : 124 < N) (ho : S 124 = .inl (gJ G, 1, .inr (.inl f))) {kk v : Int32} (hc : ∀ K1 : RK, (∀ S1, isD G N S1 D2 → DR S S1 → K1 o S1) → RetK l G N mX4_undo (7, 103, 1, 6) [.ref (ad G 0)] S K1) (hag : agr [eS] o kk v)
    (hk : ∀ S1 g, isD G N S1 D2 → (∀ j, 118 < j → j ≠ 124 → S1 j = S j) → S1 124 = .inl (gJ G, 1, .inr (.inl g)) → (kk = 0 → g 0 = v.toInt64) → K (.inl (some (.int kk))) S1) : RetH l G N (yL_undo, cL_undo, 3, some .int) [(0, 8, 11, 137)] (8, 123, 1, 6) [.ref (ad G 0), .ref (ad G 124)] S K := by
  refine ret_enterH (by decide +kernel) (Nat.le_of_ble_eq_true rfl) (fun X hX h hm => ?_)
  subst hX
  replace h : OK X G N cL_undo RL 3 (8, 123, 1, 6) := h
  replace hm : OKmH X G N K (some .int) [(0, 8, 11, 137)] (8, 123, 1, 6) := hm
  show AW X G 3 N 0 [(0, _), (1, _)] [] S 0 0
  refine r_aload_n (pc' := 1) h dL_undo_0 rfl rfl ?_
  refine r_iconst (pc' := 2) (v := 0) h dL_undo_1 rfl (by decide) ?_
  refine r_aload_n (pc' := 3) h dL_undo_2 rfl rfl ?_
  refine r_callVH (st := [.int 0, .ref (ad G 124)]) (M := mX4_undo) (As := []) h hm dL_undo_3 lL_154 vX4_undo rfl hD.l0 hD.o0 rfl rfl (by show 1 + (1 + 0) ≤ 8; decide) ⟨by decide, by decide, by decide, by decide⟩ (hc _ (fun S1 hD1 hR1 => ?_))
  rcases hag with ⟨e, ek⟩ | ⟨i, E, hi, e, ek⟩
  · rw [e]
    show AW X G 3 N 6 _ _ S1 _ _
    refine r_i2l (pc' := 7) h dL_undo_6 rfl ?_
    refine r_last (pc' := 8) h dL_undo_7 rfl hN ((hR1 124 (by decide)).trans ho) (show vp_in (nI 0) 1 from nI_in (by decide) (by decide)) ?_
    refine r_goto (tgt := 14) h dL_undo_8 (by decide) ?_
    refine r_iconst (pc' := 15) (v := 0) h dL_undo_14 rfl (by decide) ?_
    refine r_ireturnH h hm dL_undo_15 (by decide) (by decide) ?_
    have key := hk _ (vp_updL f 0 v.toInt64) (hD1.world (S' := va_up S1 124 (.inl (gJ G, 1, .inr (.inl (vp_updL f 0 v.toInt64))))) (fun j hj => up_ne _ _ (by omega))) (fun j a1 a2 => (up_ne _ _ a2).trans (hR1 j a1)) (up_at _ _ _) (fun _ => upL_0 _ _)
    rw [ek] at key
    exact key
  · rw [e]
    have hi2 : i < 1 := (List.getElem?_eq_some_iff.mp hi).1
    have fin : ∀ n, kk = n → K (.inl (some (.int n))) S1 := fun n z => by
      rw [← z]
      exact hk S1 f hD1 (fun j a1 _ => hR1 j a1) ((hR1 124 (by decide)).trans ho) (fun z2 => absurd (ek.symm.trans z2) (nI_ne0 (by omega) (by omega)))
    obtain rfl : i = 0 := by omega
    · cases hi
      refine ⟨[], _, _, eS, hm.2.2.1, fun z hz => absurd hz List.not_mem_nil, by decide, by decide, lL_137, ci_S, fun q => ?_⟩
      show AW X G 3 N 11 _ _ S1 _ _
      refine r_astore_n (pc' := 12) h dL_undo_11 rfl (by decide) rfl ?_
      refine r_iconst (pc' := 13) (v := 1) h dL_undo_12 rfl (by decide) ?_
      exact r_ireturnH h hm dL_undo_13 (by decide) (by decide) (fin _ ek)
theorem kL_restoreSnapshot {l : Launch} {G : GX} {N : Nat} {S : Nat → va_E} {K : RK} {D D2 : DM} {o : RO} {f : Nat → Int64} (hD : isD G N S D) (hN : 124 < N) (ho : S 124 = .inl (gJ G, 1, .inr (.inl f))) {kk v : Int32} (hc : ∀ K1 : RK, (∀ S1, isD G N S1 D2 → DR S S1 → K1 o S1) → RetK l G N mX4_restoreSnapshot (7, 103, 1, 6) [.ref (ad G 0)] S K1) (hag : agr [eS] o kk v)
    (hk : ∀ S1 g, isD G N S1 D2 → (∀ j, 118 < j → j ≠ 124 → S1 j = S j) → S1 124 = .inl (gJ G, 1, .inr (.inl g)) → (kk = 0 → g 0 = v.toInt64) → K (.inl (some (.int kk))) S1) : RetH l G N (yL_restoreSnapshot, cL_restoreSnapshot, 3, some .int) [(0, 8, 11, 137)] (8, 123, 1, 6) [.ref (ad G 0), .ref (ad G 124)] S K := by
  refine ret_enterH (by decide +kernel) (Nat.le_of_ble_eq_true rfl) (fun X hX h hm => ?_)
  subst hX
  replace h : OK X G N cL_restoreSnapshot RL 3 (8, 123, 1, 6) := h
  replace hm : OKmH X G N K (some .int) [(0, 8, 11, 137)] (8, 123, 1, 6) := hm
  show AW X G 3 N 0 [(0, _), (1, _)] [] S 0 0
  refine r_aload_n (pc' := 1) h dL_restoreSnapshot_0 rfl rfl ?_
  refine r_iconst (pc' := 2) (v := 0) h dL_restoreSnapshot_1 rfl (by decide) ?_
  refine r_aload_n (pc' := 3) h dL_restoreSnapshot_2 rfl rfl ?_
  refine r_callVH (st := [.int 0, .ref (ad G 124)]) (M := mX4_restoreSnapshot) (As := []) h hm dL_restoreSnapshot_3 lL_157 vX4_restoreSnapshot rfl hD.l0 hD.o0 rfl rfl (by show 1 + (1 + 0) ≤ 8; decide) ⟨by decide, by decide, by decide, by decide⟩ (hc _ (fun S1 hD1 hR1 => ?_))
  rcases hag with ⟨e, ek⟩ | ⟨i, E, hi, e, ek⟩
  · rw [e]
    show AW X G 3 N 6 _ _ S1 _ _
    refine r_i2l (pc' := 7) h dL_restoreSnapshot_6 rfl ?_
    refine r_last (pc' := 8) h dL_restoreSnapshot_7 rfl hN ((hR1 124 (by decide)).trans ho) (show vp_in (nI 0) 1 from nI_in (by decide) (by decide)) ?_
    refine r_goto (tgt := 14) h dL_restoreSnapshot_8 (by decide) ?_
    refine r_iconst (pc' := 15) (v := 0) h dL_restoreSnapshot_14 rfl (by decide) ?_
    refine r_ireturnH h hm dL_restoreSnapshot_15 (by decide) (by decide) ?_
    have key := hk _ (vp_updL f 0 v.toInt64) (hD1.world (S' := va_up S1 124 (.inl (gJ G, 1, .inr (.inl (vp_updL f 0 v.toInt64))))) (fun j hj => up_ne _ _ (by omega))) (fun j a1 a2 => (up_ne _ _ a2).trans (hR1 j a1)) (up_at _ _ _) (fun _ => upL_0 _ _)
    rw [ek] at key
    exact key
  · rw [e]
    have hi2 : i < 1 := (List.getElem?_eq_some_iff.mp hi).1
    have fin : ∀ n, kk = n → K (.inl (some (.int n))) S1 := fun n z => by
      rw [← z]
      exact hk S1 f hD1 (fun j a1 _ => hR1 j a1) ((hR1 124 (by decide)).trans ho) (fun z2 => absurd (ek.symm.trans z2) (nI_ne0 (by omega) (by omega)))
    obtain rfl : i = 0 := by omega
    · cases hi
      refine ⟨[], _, _, eS, hm.2.2.1, fun z hz => absurd hz List.not_mem_nil, by decide, by decide, lL_137, ci_S, fun q => ?_⟩
      show AW X G 3 N 11 _ _ S1 _ _
      refine r_astore_n (pc' := 12) h dL_restoreSnapshot_11 rfl (by decide) rfl ?_
      refine r_iconst (pc' := 13) (v := 1) h dL_restoreSnapshot_12 rfl (by decide) ?_
      exact r_ireturnH h hm dL_restoreSnapshot_13 (by decide) (by decide) (fin _ ek)
