/-! THE LAW's wrappers of answers that are true or false. -/
theorem kL_isRunning {l : Launch} {G : GX} {N : Nat} {S : Nat → va_E} {K : RK} {D D2 : DM} {o : RO} {f : Nat → Int64} (hD : isD G N S D) (hN : 124 < N) (ho : S 124 = .inl (gJ G, 1, .inr (.inl f))) {x kk v : Int32} (hc : ∀ K1 : RK, (∀ S1, isD G N S1 D2 → DR S S1 → K1 o S1) → RetK l G N mX4_isRunning (8, 124, 1, 6) [.ref (ad G 0), .int x] S K1) (hag : agr [eI] o kk v)
    (hk : ∀ S1 g, isD G N S1 D2 → (∀ j, 118 < j → j ≠ 124 → S1 j = S j) → S1 124 = .inl (gJ G, 1, .inr (.inl g)) → (kk = 0 → g 0 = if v = 0 then 0 else 1) → K (.inl (some (.int kk))) S1) : RetH l G N (yL_isRunning, cL_isRunning, 4, some .int) [(0, 16, 19, 13)] (9, 145, 1, 6) [.ref (ad G 0), .int x, .ref (ad G 124)] S K := by
  refine ret_enterH (by decide +kernel) (Nat.le_of_ble_eq_true rfl) (fun X hX h hm => ?_)
  subst hX
  replace h : OK X G N cL_isRunning RL 4 (9, 145, 1, 6) := h
  replace hm : OKmH X G N K (some .int) [(0, 16, 19, 13)] (9, 145, 1, 6) := hm
  show AW X G 4 N 0 [(0, _), (1, _), (2, _)] [] S 0 0
  refine r_aload_n (pc' := 1) h dL_isRunning_0 rfl rfl ?_
  refine r_iconst (pc' := 2) (v := 0) h dL_isRunning_1 rfl (by decide) ?_
  refine r_aload_n (pc' := 3) h dL_isRunning_2 rfl rfl ?_
  refine r_iload_n (pc' := 4) h dL_isRunning_3 rfl rfl ?_
  refine r_callVH (st := [.int 0, .ref (ad G 124)]) (M := mX4_isRunning) (As := [.int x]) h hm dL_isRunning_4 lL_50 vX4_isRunning rfl hD.l0 hD.o0 rfl rfl (by show 1 + (1 + 0) ≤ 8; decide) ⟨by decide, by decide, by decide, by decide⟩ (hc _ (fun S1 hD1 hR1 => ?_))
  rcases hag with ⟨e, ek⟩ | ⟨i, E, hi, e, ek⟩
  · rw [e]
    show AW X G 4 N 7 _ _ S1 _ _
    have fin : ∀ y : Int64, y = (if v = 0 then 0 else 1) → K (.inl (some (.int 0))) (va_up S1 124 (.inl (gJ G, 1, .inr (.inl (vp_updL f 0 y))))) := fun y hy => by
      have key := hk _ (vp_updL f 0 y) (hD1.world (S' := va_up S1 124 (.inl (gJ G, 1, .inr (.inl (vp_updL f 0 y))))) (fun j hj => up_ne _ _ (by omega))) (fun j a1 a2 => (up_ne _ _ a2).trans (hR1 j a1)) (up_at _ _ _) (fun _ => (upL_0 _ _).trans hy)
      rw [ek] at key
      exact key
    refine r_if_eq (tgt := 14) (pc' := 10) h dL_isRunning_7 (by decide) rfl (fun c0 => ?_) (fun c0 => ?_)
    · refine r_lconst (pc' := 15) (v := 0) h dL_isRunning_14 rfl (by decide) ?_
      refine r_last (pc' := 16) h dL_isRunning_15 rfl hN ((hR1 124 (by decide)).trans ho) (show vp_in (nI 0) 1 from nI_in (by decide) (by decide)) ?_
      refine r_goto (tgt := 22) h dL_isRunning_16 (by decide) ?_
      refine r_iconst (pc' := 23) (v := 0) h dL_isRunning_22 rfl (by decide) ?_
      exact r_ireturnH h hm dL_isRunning_23 (by decide) (by decide) (fin 0 (if_pos c0).symm)
    · refine r_lconst (pc' := 11) (v := 1) h dL_isRunning_10 rfl (by decide) ?_
      refine r_goto (tgt := 15) h dL_isRunning_11 (by decide) ?_
      refine r_last (pc' := 16) h dL_isRunning_15 rfl hN ((hR1 124 (by decide)).trans ho) (show vp_in (nI 0) 1 from nI_in (by decide) (by decide)) ?_
      refine r_goto (tgt := 22) h dL_isRunning_16 (by decide) ?_
      refine r_iconst (pc' := 23) (v := 0) h dL_isRunning_22 rfl (by decide) ?_
      exact r_ireturnH h hm dL_isRunning_23 (by decide) (by decide) (fin 1 (if_neg c0).symm)
  · rw [e]
    have hi2 : i < 1 := (List.getElem?_eq_some_iff.mp hi).1
    have fin : ∀ n, kk = n → K (.inl (some (.int n))) S1 := fun n z => by
      rw [← z]
      exact hk S1 f hD1 (fun j a1 _ => hR1 j a1) ((hR1 124 (by decide)).trans ho) (fun z2 => absurd (ek.symm.trans z2) (nI_ne0 (by omega) (by omega)))
    obtain rfl : i = 0 := by omega
    · cases hi
      refine ⟨[], _, _, eI, hm.2.2.1, fun z hz => absurd hz List.not_mem_nil, by decide, by decide, lL_13, ci_I, fun q => ?_⟩
      show AW X G 4 N 19 _ _ S1 _ _
      refine r_astore_n (pc' := 20) h dL_isRunning_19 rfl (by decide) rfl ?_
      refine r_iconst (pc' := 21) (v := 1) h dL_isRunning_20 rfl (by decide) ?_
      exact r_ireturnH h hm dL_isRunning_21 (by decide) (by decide) (fin _ ek)
theorem kL_isFailed {l : Launch} {G : GX} {N : Nat} {S : Nat → va_E} {K : RK} {D D2 : DM} {o : RO} {f : Nat → Int64} (hD : isD G N S D) (hN : 124 < N) (ho : S 124 = .inl (gJ G, 1, .inr (.inl f))) {x kk v : Int32} (hc : ∀ K1 : RK, (∀ S1, isD G N S1 D2 → DR S S1 → K1 o S1) → RetK l G N mX4_isFailed (8, 124, 1, 6) [.ref (ad G 0), .int x] S K1) (hag : agr [eI] o kk v)
    (hk : ∀ S1 g, isD G N S1 D2 → (∀ j, 118 < j → j ≠ 124 → S1 j = S j) → S1 124 = .inl (gJ G, 1, .inr (.inl g)) → (kk = 0 → g 0 = if v = 0 then 0 else 1) → K (.inl (some (.int kk))) S1) : RetH l G N (yL_isFailed, cL_isFailed, 4, some .int) [(0, 16, 19, 13)] (9, 145, 1, 6) [.ref (ad G 0), .int x, .ref (ad G 124)] S K := by
  refine ret_enterH (by decide +kernel) (Nat.le_of_ble_eq_true rfl) (fun X hX h hm => ?_)
  subst hX
  replace h : OK X G N cL_isFailed RL 4 (9, 145, 1, 6) := h
  replace hm : OKmH X G N K (some .int) [(0, 16, 19, 13)] (9, 145, 1, 6) := hm
  show AW X G 4 N 0 [(0, _), (1, _), (2, _)] [] S 0 0
  refine r_aload_n (pc' := 1) h dL_isFailed_0 rfl rfl ?_
  refine r_iconst (pc' := 2) (v := 0) h dL_isFailed_1 rfl (by decide) ?_
  refine r_aload_n (pc' := 3) h dL_isFailed_2 rfl rfl ?_
  refine r_iload_n (pc' := 4) h dL_isFailed_3 rfl rfl ?_
  refine r_callVH (st := [.int 0, .ref (ad G 124)]) (M := mX4_isFailed) (As := [.int x]) h hm dL_isFailed_4 lL_54 vX4_isFailed rfl hD.l0 hD.o0 rfl rfl (by show 1 + (1 + 0) ≤ 8; decide) ⟨by decide, by decide, by decide, by decide⟩ (hc _ (fun S1 hD1 hR1 => ?_))
  rcases hag with ⟨e, ek⟩ | ⟨i, E, hi, e, ek⟩
  · rw [e]
    show AW X G 4 N 7 _ _ S1 _ _
    have fin : ∀ y : Int64, y = (if v = 0 then 0 else 1) → K (.inl (some (.int 0))) (va_up S1 124 (.inl (gJ G, 1, .inr (.inl (vp_updL f 0 y))))) := fun y hy => by
      have key := hk _ (vp_updL f 0 y) (hD1.world (S' := va_up S1 124 (.inl (gJ G, 1, .inr (.inl (vp_updL f 0 y))))) (fun j hj => up_ne _ _ (by omega))) (fun j a1 a2 => (up_ne _ _ a2).trans (hR1 j a1)) (up_at _ _ _) (fun _ => (upL_0 _ _).trans hy)
      rw [ek] at key
      exact key
    refine r_if_eq (tgt := 14) (pc' := 10) h dL_isFailed_7 (by decide) rfl (fun c0 => ?_) (fun c0 => ?_)
    · refine r_lconst (pc' := 15) (v := 0) h dL_isFailed_14 rfl (by decide) ?_
      refine r_last (pc' := 16) h dL_isFailed_15 rfl hN ((hR1 124 (by decide)).trans ho) (show vp_in (nI 0) 1 from nI_in (by decide) (by decide)) ?_
      refine r_goto (tgt := 22) h dL_isFailed_16 (by decide) ?_
      refine r_iconst (pc' := 23) (v := 0) h dL_isFailed_22 rfl (by decide) ?_
      exact r_ireturnH h hm dL_isFailed_23 (by decide) (by decide) (fin 0 (if_pos c0).symm)
    · refine r_lconst (pc' := 11) (v := 1) h dL_isFailed_10 rfl (by decide) ?_
      refine r_goto (tgt := 15) h dL_isFailed_11 (by decide) ?_
      refine r_last (pc' := 16) h dL_isFailed_15 rfl hN ((hR1 124 (by decide)).trans ho) (show vp_in (nI 0) 1 from nI_in (by decide) (by decide)) ?_
      refine r_goto (tgt := 22) h dL_isFailed_16 (by decide) ?_
      refine r_iconst (pc' := 23) (v := 0) h dL_isFailed_22 rfl (by decide) ?_
      exact r_ireturnH h hm dL_isFailed_23 (by decide) (by decide) (fin 1 (if_neg c0).symm)
  · rw [e]
    have hi2 : i < 1 := (List.getElem?_eq_some_iff.mp hi).1
    have fin : ∀ n, kk = n → K (.inl (some (.int n))) S1 := fun n z => by
      rw [← z]
      exact hk S1 f hD1 (fun j a1 _ => hR1 j a1) ((hR1 124 (by decide)).trans ho) (fun z2 => absurd (ek.symm.trans z2) (nI_ne0 (by omega) (by omega)))
    obtain rfl : i = 0 := by omega
    · cases hi
      refine ⟨[], _, _, eI, hm.2.2.1, fun z hz => absurd hz List.not_mem_nil, by decide, by decide, lL_13, ci_I, fun q => ?_⟩
      show AW X G 4 N 19 _ _ S1 _ _
      refine r_astore_n (pc' := 20) h dL_isFailed_19 rfl (by decide) rfl ?_
      refine r_iconst (pc' := 21) (v := 1) h dL_isFailed_20 rfl (by decide) ?_
      exact r_ireturnH h hm dL_isFailed_21 (by decide) (by decide) (fin _ ek)
theorem kL_isInService {l : Launch} {G : GX} {N : Nat} {S : Nat → va_E} {K : RK} {D D2 : DM} {o : RO} {f : Nat → Int64} (hD : isD G N S D) (hN : 124 < N) (ho : S 124 = .inl (gJ G, 1, .inr (.inl f))) {x kk v : Int32} (hc : ∀ K1 : RK, (∀ S1, isD G N S1 D2 → DR S S1 → K1 o S1) → RetK l G N mX4_isInService (8, 124, 1, 6) [.ref (ad G 0), .int x] S K1) (hag : agr [eI] o kk v)
    (hk : ∀ S1 g, isD G N S1 D2 → (∀ j, 118 < j → j ≠ 124 → S1 j = S j) → S1 124 = .inl (gJ G, 1, .inr (.inl g)) → (kk = 0 → g 0 = if v = 0 then 0 else 1) → K (.inl (some (.int kk))) S1) : RetH l G N (yL_isInService, cL_isInService, 4, some .int) [(0, 16, 19, 13)] (9, 145, 1, 6) [.ref (ad G 0), .int x, .ref (ad G 124)] S K := by
  refine ret_enterH (by decide +kernel) (Nat.le_of_ble_eq_true rfl) (fun X hX h hm => ?_)
  subst hX
  replace h : OK X G N cL_isInService RL 4 (9, 145, 1, 6) := h
  replace hm : OKmH X G N K (some .int) [(0, 16, 19, 13)] (9, 145, 1, 6) := hm
  show AW X G 4 N 0 [(0, _), (1, _), (2, _)] [] S 0 0
  refine r_aload_n (pc' := 1) h dL_isInService_0 rfl rfl ?_
  refine r_iconst (pc' := 2) (v := 0) h dL_isInService_1 rfl (by decide) ?_
  refine r_aload_n (pc' := 3) h dL_isInService_2 rfl rfl ?_
  refine r_iload_n (pc' := 4) h dL_isInService_3 rfl rfl ?_
  refine r_callVH (st := [.int 0, .ref (ad G 124)]) (M := mX4_isInService) (As := [.int x]) h hm dL_isInService_4 lL_57 vX4_isInService rfl hD.l0 hD.o0 rfl rfl (by show 1 + (1 + 0) ≤ 8; decide) ⟨by decide, by decide, by decide, by decide⟩ (hc _ (fun S1 hD1 hR1 => ?_))
  rcases hag with ⟨e, ek⟩ | ⟨i, E, hi, e, ek⟩
  · rw [e]
    show AW X G 4 N 7 _ _ S1 _ _
    have fin : ∀ y : Int64, y = (if v = 0 then 0 else 1) → K (.inl (some (.int 0))) (va_up S1 124 (.inl (gJ G, 1, .inr (.inl (vp_updL f 0 y))))) := fun y hy => by
      have key := hk _ (vp_updL f 0 y) (hD1.world (S' := va_up S1 124 (.inl (gJ G, 1, .inr (.inl (vp_updL f 0 y))))) (fun j hj => up_ne _ _ (by omega))) (fun j a1 a2 => (up_ne _ _ a2).trans (hR1 j a1)) (up_at _ _ _) (fun _ => (upL_0 _ _).trans hy)
      rw [ek] at key
      exact key
    refine r_if_eq (tgt := 14) (pc' := 10) h dL_isInService_7 (by decide) rfl (fun c0 => ?_) (fun c0 => ?_)
    · refine r_lconst (pc' := 15) (v := 0) h dL_isInService_14 rfl (by decide) ?_
      refine r_last (pc' := 16) h dL_isInService_15 rfl hN ((hR1 124 (by decide)).trans ho) (show vp_in (nI 0) 1 from nI_in (by decide) (by decide)) ?_
      refine r_goto (tgt := 22) h dL_isInService_16 (by decide) ?_
      refine r_iconst (pc' := 23) (v := 0) h dL_isInService_22 rfl (by decide) ?_
      exact r_ireturnH h hm dL_isInService_23 (by decide) (by decide) (fin 0 (if_pos c0).symm)
    · refine r_lconst (pc' := 11) (v := 1) h dL_isInService_10 rfl (by decide) ?_
      refine r_goto (tgt := 15) h dL_isInService_11 (by decide) ?_
      refine r_last (pc' := 16) h dL_isInService_15 rfl hN ((hR1 124 (by decide)).trans ho) (show vp_in (nI 0) 1 from nI_in (by decide) (by decide)) ?_
      refine r_goto (tgt := 22) h dL_isInService_16 (by decide) ?_
      refine r_iconst (pc' := 23) (v := 0) h dL_isInService_22 rfl (by decide) ?_
      exact r_ireturnH h hm dL_isInService_23 (by decide) (by decide) (fin 1 (if_neg c0).symm)
  · rw [e]
    have hi2 : i < 1 := (List.getElem?_eq_some_iff.mp hi).1
    have fin : ∀ n, kk = n → K (.inl (some (.int n))) S1 := fun n z => by
      rw [← z]
      exact hk S1 f hD1 (fun j a1 _ => hR1 j a1) ((hR1 124 (by decide)).trans ho) (fun z2 => absurd (ek.symm.trans z2) (nI_ne0 (by omega) (by omega)))
    obtain rfl : i = 0 := by omega
    · cases hi
      refine ⟨[], _, _, eI, hm.2.2.1, fun z hz => absurd hz List.not_mem_nil, by decide, by decide, lL_13, ci_I, fun q => ?_⟩
      show AW X G 4 N 19 _ _ S1 _ _
      refine r_astore_n (pc' := 20) h dL_isInService_19 rfl (by decide) rfl ?_
      refine r_iconst (pc' := 21) (v := 1) h dL_isInService_20 rfl (by decide) ?_
      exact r_ireturnH h hm dL_isInService_21 (by decide) (by decide) (fin _ ek)
theorem kL_hasBid {l : Launch} {G : GX} {N : Nat} {S : Nat → va_E} {K : RK} {D D2 : DM} {o : RO} {f : Nat → Int64} (hD : isD G N S D) (hN : 124 < N) (ho : S 124 = .inl (gJ G, 1, .inr (.inl f))) {x kk v : Int32} (hc : ∀ K1 : RK, (∀ S1, isD G N S1 D2 → DR S S1 → K1 o S1) → RetK l G N mX4_hasBid (8, 124, 1, 6) [.ref (ad G 0), .int x] S K1) (hag : agr [eI] o kk v)
    (hk : ∀ S1 g, isD G N S1 D2 → (∀ j, 118 < j → j ≠ 124 → S1 j = S j) → S1 124 = .inl (gJ G, 1, .inr (.inl g)) → (kk = 0 → g 0 = if v = 0 then 0 else 1) → K (.inl (some (.int kk))) S1) : RetH l G N (yL_hasBid, cL_hasBid, 4, some .int) [(0, 16, 19, 13)] (9, 145, 1, 6) [.ref (ad G 0), .int x, .ref (ad G 124)] S K := by
  refine ret_enterH (by decide +kernel) (Nat.le_of_ble_eq_true rfl) (fun X hX h hm => ?_)
  subst hX
  replace h : OK X G N cL_hasBid RL 4 (9, 145, 1, 6) := h
  replace hm : OKmH X G N K (some .int) [(0, 16, 19, 13)] (9, 145, 1, 6) := hm
  show AW X G 4 N 0 [(0, _), (1, _), (2, _)] [] S 0 0
  refine r_aload_n (pc' := 1) h dL_hasBid_0 rfl rfl ?_
  refine r_iconst (pc' := 2) (v := 0) h dL_hasBid_1 rfl (by decide) ?_
  refine r_aload_n (pc' := 3) h dL_hasBid_2 rfl rfl ?_
  refine r_iload_n (pc' := 4) h dL_hasBid_3 rfl rfl ?_
  refine r_callVH (st := [.int 0, .ref (ad G 124)]) (M := mX4_hasBid) (As := [.int x]) h hm dL_hasBid_4 lL_91 vX4_hasBid rfl hD.l0 hD.o0 rfl rfl (by show 1 + (1 + 0) ≤ 8; decide) ⟨by decide, by decide, by decide, by decide⟩ (hc _ (fun S1 hD1 hR1 => ?_))
  rcases hag with ⟨e, ek⟩ | ⟨i, E, hi, e, ek⟩
  · rw [e]
    show AW X G 4 N 7 _ _ S1 _ _
    have fin : ∀ y : Int64, y = (if v = 0 then 0 else 1) → K (.inl (some (.int 0))) (va_up S1 124 (.inl (gJ G, 1, .inr (.inl (vp_updL f 0 y))))) := fun y hy => by
      have key := hk _ (vp_updL f 0 y) (hD1.world (S' := va_up S1 124 (.inl (gJ G, 1, .inr (.inl (vp_updL f 0 y))))) (fun j hj => up_ne _ _ (by omega))) (fun j a1 a2 => (up_ne _ _ a2).trans (hR1 j a1)) (up_at _ _ _) (fun _ => (upL_0 _ _).trans hy)
      rw [ek] at key
      exact key
    refine r_if_eq (tgt := 14) (pc' := 10) h dL_hasBid_7 (by decide) rfl (fun c0 => ?_) (fun c0 => ?_)
    · refine r_lconst (pc' := 15) (v := 0) h dL_hasBid_14 rfl (by decide) ?_
      refine r_last (pc' := 16) h dL_hasBid_15 rfl hN ((hR1 124 (by decide)).trans ho) (show vp_in (nI 0) 1 from nI_in (by decide) (by decide)) ?_
      refine r_goto (tgt := 22) h dL_hasBid_16 (by decide) ?_
      refine r_iconst (pc' := 23) (v := 0) h dL_hasBid_22 rfl (by decide) ?_
      exact r_ireturnH h hm dL_hasBid_23 (by decide) (by decide) (fin 0 (if_pos c0).symm)
    · refine r_lconst (pc' := 11) (v := 1) h dL_hasBid_10 rfl (by decide) ?_
      refine r_goto (tgt := 15) h dL_hasBid_11 (by decide) ?_
      refine r_last (pc' := 16) h dL_hasBid_15 rfl hN ((hR1 124 (by decide)).trans ho) (show vp_in (nI 0) 1 from nI_in (by decide) (by decide)) ?_
      refine r_goto (tgt := 22) h dL_hasBid_16 (by decide) ?_
      refine r_iconst (pc' := 23) (v := 0) h dL_hasBid_22 rfl (by decide) ?_
      exact r_ireturnH h hm dL_hasBid_23 (by decide) (by decide) (fin 1 (if_neg c0).symm)
  · rw [e]
    have hi2 : i < 1 := (List.getElem?_eq_some_iff.mp hi).1
    have fin : ∀ n, kk = n → K (.inl (some (.int n))) S1 := fun n z => by
      rw [← z]
      exact hk S1 f hD1 (fun j a1 _ => hR1 j a1) ((hR1 124 (by decide)).trans ho) (fun z2 => absurd (ek.symm.trans z2) (nI_ne0 (by omega) (by omega)))
    obtain rfl : i = 0 := by omega
    · cases hi
      refine ⟨[], _, _, eI, hm.2.2.1, fun z hz => absurd hz List.not_mem_nil, by decide, by decide, lL_13, ci_I, fun q => ?_⟩
      show AW X G 4 N 19 _ _ S1 _ _
      refine r_astore_n (pc' := 20) h dL_hasBid_19 rfl (by decide) rfl ?_
      refine r_iconst (pc' := 21) (v := 1) h dL_hasBid_20 rfl (by decide) ?_
      exact r_ireturnH h hm dL_hasBid_21 (by decide) (by decide) (fin _ ek)
