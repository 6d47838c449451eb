/-! THE LAW's wrappers of means and shares. -/
theorem ci_X : Cond.castable eX eX ∈ nw := nw_in (tb_5 30 (by decide +kernel)) (by decide +kernel)
theorem upE_0 (f : Nat → UInt64) (x : UInt64) : vf_upd f 0 x 0 = x := if_pos rfl
theorem kL_meanOutput {l : Launch} {G : GX} {N : Nat} {S : Nat → va_E} {K : RK} {D : DM} {o : RO} {f : Nat → UInt64} (hD : isD G N S D) (hN : 125 < N) (ho : S 125 = .inl (gE G, 1, .inr (.inr (.inr (.inl f))))) {v : UInt64} {kk : Int32} (hc : ∀ K1 : RK, K1 o S → RetK l G N mX4_meanOutput (7, 103, 1, 6) [.ref (ad G 0)] S K1) (hag : (o = .inl (some (.double v)) ∧ kk = 0) ∨ (o = .inr eX ∧ kk = 1))
    (hk : ∀ S1 g, isD G N S1 D → (∀ j, 118 < j → j ≠ 125 → S1 j = S j) → S1 125 = .inl (gE G, 1, .inr (.inr (.inr (.inl g)))) → (kk = 0 → g 0 = v) → K (.inl (some (.int kk))) S1) : RetH l G N (yL_meanOutput, cL_meanOutput, 3, some .int) [(0, 7, 10, 120)] (8, 124, 1, 6) [.ref (ad G 0), .ref (ad G 125)] S K := by
  refine ret_enterH (by decide +kernel) (Nat.le_of_ble_eq_true rfl) (fun X hX h hm => ?_)
  subst hX
  replace h : OK X G N cL_meanOutput RL 3 (8, 124, 1, 6) := h
  replace hm : OKmH X G N K (some .int) [(0, 7, 10, 120)] (8, 124, 1, 6) := hm
  show AW X G 3 N 0 [(0, _), (1, _)] [] S 0 0
  refine r_aload_n (pc' := 1) h dL_meanOutput_0 rfl rfl ?_
  refine r_iconst (pc' := 2) (v := 0) h dL_meanOutput_1 rfl (by decide) ?_
  refine r_aload_n (pc' := 3) h dL_meanOutput_2 rfl rfl ?_
  refine r_callVH (st := [.int 0, .ref (ad G 125)]) (M := mX4_meanOutput) (As := []) h hm dL_meanOutput_3 lL_116 vX4_meanOutput rfl hD.l0 hD.o0 rfl rfl (by show 1 + (1 + 0) ≤ 8; decide) ⟨by decide, by decide, by decide, by decide⟩ (hc _ ?_)
  rcases hag with ⟨e, ek⟩ | ⟨e, ek⟩
  · rw [e]
    show AW X G 3 N 6 _ _ S _ _
    refine r_dast (pc' := 7) h dL_meanOutput_6 rfl hN ho (show vp_in (nI 0) 1 from nI_in (by decide) (by decide)) ?_
    refine r_goto (tgt := 13) h dL_meanOutput_7 (by decide) ?_
    refine r_iconst (pc' := 14) (v := 0) h dL_meanOutput_13 rfl (by decide) ?_
    refine r_ireturnH h hm dL_meanOutput_14 (by decide) (by decide) ?_
    have key := hk _ (vf_upd f 0 v) (hD.world (S' := va_up S 125 (.inl (gE G, 1, .inr (.inr (.inr (.inl (vf_upd f 0 v))))))) (fun j hj => up_ne _ _ (by omega))) (fun j a1 a2 => up_ne _ _ a2) (up_at _ _ _) (fun _ => upE_0 _ _)
    rw [ek] at key
    exact key
  · rw [e]
    have fin : K (.inl (some (.int 1))) S := by
      have key := hk S f hD (fun j a1 _ => rfl) ho (fun z2 => absurd (ek.symm.trans z2) (by decide))
      rw [ek] at key
      exact key
    refine ⟨[], _, _, eX, hm.2.2.1, fun z hz => absurd hz List.not_mem_nil, by decide, by decide, lL_120, ci_X, fun q => ?_⟩
    show AW X G 3 N 10 _ _ S _ _
    refine r_astore_n (pc' := 11) h dL_meanOutput_10 rfl (by decide) rfl ?_
    refine r_iconst (pc' := 12) (v := 1) h dL_meanOutput_11 rfl (by decide) ?_
    exact r_ireturnH h hm dL_meanOutput_12 (by decide) (by decide) fin
theorem kL_runningShare {l : Launch} {G : GX} {N : Nat} {S : Nat → va_E} {K : RK} {D : DM} {o : RO} {f : Nat → UInt64} (hD : isD G N S D) (hN : 125 < N) (ho : S 125 = .inl (gE G, 1, .inr (.inr (.inr (.inl f))))) {v : UInt32} {kk : Int32} (hc : ∀ K1 : RK, K1 o S → RetK l G N mX4_runningShare (7, 103, 1, 6) [.ref (ad G 0)] S K1) (hag : (o = .inl (some (.float v)) ∧ kk = 0 ∧ vf_n64 (FP.f2d v)) ∨ (o = .inr eX ∧ kk = 1))
    (hk : ∀ S1 g, isD G N S1 D → (∀ j, 118 < j → j ≠ 125 → S1 j = S j) → S1 125 = .inl (gE G, 1, .inr (.inr (.inr (.inl g)))) → (kk = 0 → g 0 = FP.f2d v) → K (.inl (some (.int kk))) S1) : RetH l G N (yL_runningShare, cL_runningShare, 3, some .int) [(0, 8, 11, 120)] (8, 124, 1, 6) [.ref (ad G 0), .ref (ad G 125)] S K := by
  refine ret_enterH (by decide +kernel) (Nat.le_of_ble_eq_true rfl) (fun X hX h hm => ?_)
  subst hX
  replace h : OK X G N cL_runningShare RL 3 (8, 124, 1, 6) := h
  replace hm : OKmH X G N K (some .int) [(0, 8, 11, 120)] (8, 124, 1, 6) := hm
  show AW X G 3 N 0 [(0, _), (1, _)] [] S 0 0
  refine r_aload_n (pc' := 1) h dL_runningShare_0 rfl rfl ?_
  refine r_iconst (pc' := 2) (v := 0) h dL_runningShare_1 rfl (by decide) ?_
  refine r_aload_n (pc' := 3) h dL_runningShare_2 rfl rfl ?_
  refine r_callVH (st := [.int 0, .ref (ad G 125)]) (M := mX4_runningShare) (As := []) h hm dL_runningShare_3 lL_122 vX4_runningShare rfl hD.l0 hD.o0 rfl rfl (by show 1 + (1 + 0) ≤ 8; decide) ⟨by decide, by decide, by decide, by decide⟩ (hc _ ?_)
  rcases hag with ⟨e, ek, hn⟩ | ⟨e, ek⟩
  · rw [e]
    show AW X G 3 N 6 _ _ S _ _
    refine r_f2d (pc' := 7) h dL_runningShare_6 rfl hn ?_
    refine r_dast (pc' := 8) h dL_runningShare_7 rfl hN ho (show vp_in (nI 0) 1 from nI_in (by decide) (by decide)) ?_
    refine r_goto (tgt := 14) h dL_runningShare_8 (by decide) ?_
    refine r_iconst (pc' := 15) (v := 0) h dL_runningShare_14 rfl (by decide) ?_
    refine r_ireturnH h hm dL_runningShare_15 (by decide) (by decide) ?_
    have key := hk _ (vf_upd f 0 (FP.f2d v)) (hD.world (S' := va_up S 125 (.inl (gE G, 1, .inr (.inr (.inr (.inl (vf_upd f 0 (FP.f2d v)))))))) (fun j hj => up_ne _ _ (by omega))) (fun j a1 a2 => up_ne _ _ a2) (up_at _ _ _) (fun _ => upE_0 _ _)
    rw [ek] at key
    exact key
  · rw [e]
    have fin : K (.inl (some (.int 1))) S := by
      have key := hk S f hD (fun j a1 _ => rfl) ho (fun z2 => absurd (ek.symm.trans z2) (by decide))
      rw [ek] at key
      exact key
    refine ⟨[], _, _, eX, hm.2.2.1, fun z hz => absurd hz List.not_mem_nil, by decide, by decide, lL_120, ci_X, fun q => ?_⟩
    show AW X G 3 N 11 _ _ S _ _
    refine r_astore_n (pc' := 12) h dL_runningShare_11 rfl (by decide) rfl ?_
    refine r_iconst (pc' := 13) (v := 1) h dL_runningShare_12 rfl (by decide) ?_
    exact r_ireturnH h hm dL_runningShare_13 (by decide) (by decide) fin
