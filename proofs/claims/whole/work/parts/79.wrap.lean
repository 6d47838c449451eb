/-! A WRAPPER of the law: the form of all. -/
theorem ci_I : Cond.castable eI eI ∈ nw := nw_in (tb_2 184 (by decide +kernel)) (by decide +kernel)
theorem ci_A : Cond.castable eA eA ∈ nw := nw_in (tb_3 15 (by decide +kernel)) (by decide +kernel)
theorem ci_U : Cond.castable eU eU ∈ nw := nw_in (tb_3 47 (by decide +kernel)) (by decide +kernel)
theorem ci_N : Cond.castable eN eN ∈ nw := nw_in (tb_3 237 (by decide +kernel)) (by decide +kernel)
theorem ci_S : Cond.castable eS eS ∈ nw := nw_in (tb_5 94 (by decide +kernel)) (by decide +kernel)
theorem upL_0 (f : Nat → Int64) (x : Int64) : vp_updL f 0 x 0 = x := if_pos rfl
theorem kL_fail {l : Launch} {G : GX} {N : Nat} {S : Nat → va_E} {K : RK} {D : DM} {f : Nat → Int64} (hD : isD G N S D) (hN : 124 < N) (ho : S 124 = .inl (gJ G, 1, .inr (.inl f))) (hv : vD D) {x kk v : Int32} (hag : agr [eI, eU] (zCh D 102 x 0 0).1 kk v)
    (hk : ∀ S1 g, isD G N S1 (zCh D 102 x 0 0).2 → (∀ j, 118 < j → j ≠ 124 → S1 j = S j) → S1 124 = .inl (gJ G, 1, .inr (.inl g)) → (kk = 0 → g 0 = v.toInt64) → K (.inl (some (.int kk))) S1) : RetH l G N (yL_fail, cL_fail, 4, some .int) [(0, 9, 12, 13), (0, 9, 15, 17)] (9, 163, 3, 18) [.ref (ad G 0), .int x, .ref (ad G 124)] S K := by
  refine ret_enterH (by decide +kernel) (Nat.le_of_ble_eq_true rfl) (fun X hX h hm => ?_)
  subst hX
  replace h : OK X G N cL_fail RL 4 (9, 163, 3, 18) := h
  replace hm : OKmH X G N K (some .int) [(0, 9, 12, 13), (0, 9, 15, 17)] (9, 163, 3, 18) := hm
  show AW X G 4 N 0 [(0, _), (1, _), (2, _)] [] S 0 0
  refine r_aload_n (pc' := 1) h dL_fail_0 rfl rfl ?_
  refine r_iconst (pc' := 2) (v := 0) h dL_fail_1 rfl (by decide) ?_
  refine r_aload_n (pc' := 3) h dL_fail_2 rfl rfl ?_
  refine r_iload_n (pc' := 4) h dL_fail_3 rfl rfl ?_
  refine r_callVH (st := [.int 0, .ref (ad G 124)]) (M := mX4_fail) (As := [.int x]) h hm dL_fail_4 lL_19 vX4_fail rfl hD.l0 hD.o0 rfl rfl (by show 1 + (1 + 0) ≤ 8; decide) ⟨by decide, by decide, by decide, by decide⟩ (kX4_fail hD hv (fun S1 hD1 hR1 => ?_))
  rcases hag with ⟨e, ek⟩ | ⟨i, E, hi, e, ek⟩
  · rw [e]
    show AW X G 4 N 7 _ _ S1 _ _
    refine r_i2l (pc' := 8) h dL_fail_7 rfl ?_
    refine r_last (pc' := 9) h dL_fail_8 rfl hN ((hR1 124 (by decide)).trans ho) (show vp_in (nI 0) 1 from nI_in (by decide) (by decide)) ?_
    refine r_goto (tgt := 18) h dL_fail_9 (by decide) ?_
    refine r_iconst (pc' := 19) (v := 0) h dL_fail_18 rfl (by decide) ?_
    refine r_ireturnH h hm dL_fail_19 (by decide) (by decide) ?_
    have key := hk _ (vp_updL f 0 v.toInt64) (hD1.world (S' := va_up S1 124 (.inl (gJ G, 1, .inr (.inl (vp_updL f 0 v.toInt64))))) (fun j hj => up_ne _ _ (by omega))) (fun j a1 a2 => (up_ne _ _ a2).trans (hR1 j a1)) (up_at _ _ _) (fun _ => upL_0 _ _)
    rw [ek] at key
    exact key
  · rw [e]
    have fin : ∀ n, kk = n → K (.inl (some (.int n))) S1 := fun n z => by
      rw [← z]
      exact hk S1 f hD1 (fun j a1 _ => hR1 j a1) ((hR1 124 (by decide)).trans ho) (fun z2 => absurd (ek.symm.trans z2) (nI_ne0 (by omega) (by
        rcases (by
          have : i < 2 := (List.getElem?_eq_some_iff.mp hi).1
          omega : i = 0 ∨ i = 1) with rfl | rfl <;> decide)))
    rcases (by
      have : i < 2 := (List.getElem?_eq_some_iff.mp hi).1
      omega : i = 0 ∨ i = 1) with rfl | rfl
    · cases hi
      refine ⟨[], _, _, eI, hm.2.2.1, fun z hz => absurd hz List.not_mem_nil, by decide, by decide, lL_13, ci_I, fun q => ?_⟩
      show AW X G 4 N 12 _ _ S1 _ _
      refine r_astore_n (pc' := 13) h dL_fail_12 rfl (by decide) rfl ?_
      refine r_iconst (pc' := 14) (v := 1) h dL_fail_13 rfl (by decide) ?_
      exact r_ireturnH h hm dL_fail_14 (by decide) (by decide) (fin _ ek)
    · cases hi
      refine ⟨[_], _, _, eU, hm.2.2.1, fun z hz => ?_, by decide, by decide, lL_17, ci_U, fun q => ?_⟩
      · cases List.mem_singleton.mp hz
        exact Or.inr ⟨by decide, eI, lL_13, by decide⟩
      · show AW X G 4 N 15 _ _ S1 _ _
        refine r_astore_n (pc' := 16) h dL_fail_15 rfl (by decide) rfl ?_
        refine r_iconst (pc' := 17) (v := 2) h dL_fail_16 rfl (by decide) ?_
        exact r_ireturnH h hm dL_fail_17 (by decide) (by decide) (fin _ ek)
