/-! THE WALKS: dispatch, release of all, hours; the public changes. -/
theorem kX5_dispatches {l : Launch} {G : GX} {N : Nat} {S : Nat → va_E} {K : RK} {Q : MM} (hQ : isM G N S Q) (hw : wM (mM Q)) {d : Nat} (hend : qEx (mM (qDr d (sMI Q 4 0))) ≤ 0) (hk : ∀ S1, isM G N S1 (((qDr d (sMI Q 4 0), (0 : Int32)) : MM × Int32)).1 → GR S S1 → K (.inl (some (.int (((qDr d (sMI Q 4 0), (0 : Int32)) : MM × Int32)).2))) S1) : RetK l G N mX5_dispatches (7, 158, 0, 0) [.ref (ad G 119)] S K := by
  refine ret_enter (by decide +kernel) (Nat.le_of_ble_eq_true rfl) (fun X hX h hm => ?_)
  subst hX
  replace h : OK X G N cX5_dispatches RX5 4 (7, 158, 0, 0) := h
  replace hm : OKm X G N K (some .int) (7, 158, 0, 0) := hm
  show AW X G 4 N 0 [(0, _)] [] S 0 0
  refine r_aload_n (pc' := 1) h dX5_dispatches_0 rfl rfl ?_
  refine r_iconst (pc' := 2) (v := 0) h dX5_dispatches_1 rfl (by decide) ?_
  refine pX5_37 (pc' := 5) h dX5_dispatches_2 rfl hQ.l0 hQ.o (Nat.le_of_ble_eq_true rfl) ?_
  refine wM4 hQ (fun S1 hQ1 hR1 => ?_)
  refine r_aload_n (pc' := 6) h dX5_dispatches_5 rfl rfl ?_
  refine r_callV0 (pc' := 9) (M := mX5_total) h hm dX5_dispatches_6 rfl lX5_129 vX5_total rfl hQ1.l0 hQ1.o (Nat.le_of_ble_eq_true rfl) (rrb rfl) (kX5_total hQ1 hw ?_)
  show AW X G _ _ _ _ _ _ _ _
  refine r_aload_n (pc' := 10) h dX5_dispatches_9 rfl rfl ?_
  refine gX5_9 (pc' := 13) h dX5_dispatches_10 rfl hQ1.l0 hQ1.o rfl ?_
  refine r_iconst (pc' := 14) (v := 3) h dX5_dispatches_13 rfl (by decide) ?_
  refine r_ialdk (k0 := 3) (pc' := 15) h dX5_dispatches_14 rfl hQ1.l1 hQ1.r1 (by unfold vp_in; decide) rfl ?_
  refine r_isub (pc' := 16) h dX5_dispatches_15 rfl ?_
  refine r_istoren (j := 1) (pc' := 17) h rfl dX5_dispatches_16 rfl (by decide) rfl ?_
  have loop : ∀ (m n : Nat), n < m → ∀ (Sj : Nat → va_E) (Q1 : MM), isM G N Sj Q1 → GR S Sj → wM (mM Q1) → qEx (mM (qDr n Q1)) ≤ 0 → qDr n Q1 = qDr d (sMI Q 4 0) → AW X G 4 N 17 [(0, .ref (ad G 119)), (1, .int (qEx (mM Q1)))] [] Sj 0 0 := by
    intro m
    induction m with
    | zero => intro n h1; exact absurd h1 (by omega)
    | succ m ih =>
      intro n h1 Sj Q1 hj1 hr1 hw1 hE hv
      have hn12 := hw1.2
      refine r_iload_n (pc' := 18) h dX5_dispatches_17 rfl rfl ?_
      refine r_if_le (tgt := 110) (pc' := 21) h dX5_dispatches_18 (by decide) rfl (fun c0 => ?_) (fun c0 => ?_)
      · refine r_iconst (pc' := 111) (v := 0) h dX5_dispatches_110 rfl (by decide) ?_
        refine r_ireturn h hm dX5_dispatches_111 (Nat.le_of_ble_eq_true rfl) (Nat.le_of_ble_eq_true rfl) ?_
        exact kM hk hj1 hr1 (by rw [← hv, qDr_stop n c0])
      · have hp : ¬ qEx (mM Q1) ≤ 0 := c0
        obtain ⟨n, rfl⟩ : ∃ n', n = n' + 1 := by cases n with | zero => exact absurd hE hp | succ n' => exact ⟨n', rfl⟩
        refine r_iconst (pc' := 22) (v := 0) h dX5_dispatches_21 rfl (by decide) ?_
        refine r_istoren (j := 2) (pc' := 23) h rfl dX5_dispatches_22 rfl (by decide) rfl ?_
        refine r_iconst (pc' := 24) (v := 1) h dX5_dispatches_23 rfl (by decide) ?_
        refine r_istoren (j := 3) (pc' := 25) h rfl dX5_dispatches_24 rfl (by decide) rfl ?_
        have best : ∀ (n2 j : Nat), j ≤ qN (mM Q1) - 1 → qN (mM Q1) - 1 - j < n2 → AW X G 4 N 25 [(0, .ref (ad G 119)), (1, .int (qEx (mM Q1))), (2, .int (qBs (mM Q1) j)), (3, .int (nI (j + 1)))] [] Sj 0 0 := by
          intro n2
          induction n2 with
          | zero => intro j h2 h3; exact absurd h3 (by omega)
          | succ n2 ih2 =>
            intro j h2 h3
            have hb : vp_in (qBs (mM Q1) j) 12 := qBs_in (by omega)
            refine r_iload_n (pc' := 26) h dX5_dispatches_25 rfl rfl ?_
            refine r_aload_n (pc' := 27) h dX5_dispatches_26 rfl rfl ?_
            refine gX5_9 (pc' := 30) h dX5_dispatches_27 rfl hj1.l0 hj1.o rfl ?_
            refine r_iconst (pc' := 31) (v := 0) h dX5_dispatches_30 rfl (by decide) ?_
            refine r_ialdk (k0 := 0) (pc' := 32) h dX5_dispatches_31 rfl hj1.l1 hj1.r1 (by unfold vp_in; decide) rfl ?_
            refine r_icmp_ge (tgt := 60) (pc' := 35) h dX5_dispatches_32 (by decide) rfl (fun c1 => ?_) (fun c1 => ?_)
            · have ej : j = qN (mM Q1) - 1 := by rcases Nat.lt_or_ge (j + 1) (qN (mM Q1)) with q | q; exact absurd (by have e9 := c1; rw [hw1.1] at e9; exact e9) (nI_ge q (by omega)); omega
              subst ej
              have hb2 : vp_in (qBst (mM Q1)) 12 := hb
              refine r_aload_n (pc' := 61) h dX5_dispatches_60 rfl rfl ?_
              refine r_iload_n (pc' := 62) h dX5_dispatches_61 rfl rfl ?_
              refine r_callV1 (pc' := 65) (M := mX5_output) h hm dX5_dispatches_62 rfl lX5_77 vX5_output rfl hj1.l0 hj1.o (Nat.le_of_ble_eq_true rfl) (rrb rfl) (kX5_output hj1 hw1 (hb2) ?_)
              show AW X G _ _ _ _ _ _ _ _
              refine r_iload_n (pc' := 66) h dX5_dispatches_65 rfl rfl ?_
              refine r_isub (pc' := 67) h dX5_dispatches_66 rfl ?_
              refine r_istoren (j := 3) (pc' := 68) h rfl dX5_dispatches_67 rfl (by decide) rfl ?_
              refine r_aload_n (pc' := 69) h dX5_dispatches_68 rfl rfl ?_
              refine r_iload_n (pc' := 70) h dX5_dispatches_69 rfl rfl ?_
              refine r_iconst (pc' := 71) (v := 5) h dX5_dispatches_70 rfl (by decide) ?_
              refine r_iload_n (pc' := 72) h dX5_dispatches_71 rfl rfl ?_
              refine r_if_ge (tgt := 79) (pc' := 75) h dX5_dispatches_72 (by decide) rfl (fun c2 => ?_) (fun c2 => ?_)
              · have hlv : 0 ≤ qOu (mM Q1) (qBst (mM Q1)) - qEx (mM Q1) := c2
                refine r_iload_n (pc' := 80) h dX5_dispatches_79 rfl rfl ?_
                refine r_iconst (pc' := 81) (v := 1) h dX5_dispatches_80 rfl (by decide) ?_
                refine r_iadd (pc' := 82) h dX5_dispatches_81 rfl ?_
                refine r_callV3 (pc' := 85) (M := mX5_set) h hm dX5_dispatches_82 rfl lX5_88 vX5_set rfl hj1.l0 hj1.o (Nat.le_of_ble_eq_true rfl) (rrb rfl) (kX5_set hj1 (ix_T (w := 5) (hb2) (by decide)) (fun S2 hQ2 hR2 => ?_))
                show AW X G _ _ _ _ _ _ _ _
                have hw2 := wM_isS hQ2 hw1 hb2 (k := 5) rfl (by decide)
                refine r_aload_n (pc' := 86) h dX5_dispatches_85 rfl rfl ?_
                refine r_dup (pc' := 87) h dX5_dispatches_86 rfl rfl ?_
                refine gX5_37 (pc' := 90) h dX5_dispatches_87 rfl hQ2.l0 hQ2.o rfl ?_
                refine r_iconst (pc' := 91) (v := 1) h dX5_dispatches_90 rfl (by decide) ?_
                refine r_iadd (pc' := 92) h dX5_dispatches_91 rfl ?_
                refine pX5_37 (pc' := 95) h dX5_dispatches_92 rfl hQ2.l0 hQ2.o (Nat.le_of_ble_eq_true rfl) ?_
                refine wM4 hQ2 (fun S3 hQ3 hR3 => ?_)
                refine r_aload_n (pc' := 96) h dX5_dispatches_95 rfl rfl ?_
                refine r_callV0 (pc' := 99) (M := mX5_total) h hm dX5_dispatches_96 rfl lX5_129 vX5_total rfl hQ3.l0 hQ3.o (Nat.le_of_ble_eq_true rfl) (rrb rfl) (kX5_total hQ3 hw2 ?_)
                show AW X G _ _ _ _ _ _ _ _
                refine r_aload_n (pc' := 100) h dX5_dispatches_99 rfl rfl ?_
                refine gX5_9 (pc' := 103) h dX5_dispatches_100 rfl hQ3.l0 hQ3.o rfl ?_
                refine r_iconst (pc' := 104) (v := 3) h dX5_dispatches_103 rfl (by decide) ?_
                refine r_ialdk (k0 := 3) (pc' := 105) h dX5_dispatches_104 rfl hQ3.l1 hQ3.r1 (by unfold vp_in; decide) rfl ?_
                refine r_isub (pc' := 106) h dX5_dispatches_105 rfl ?_
                refine r_istoren (j := 1) (pc' := 107) h rfl dX5_dispatches_106 rfl (by decide) rfl ?_
                refine r_goto (tgt := 17) h dX5_dispatches_107 (by decide) ?_
                refine r_sub (lo' := [(0, _), (1, _)]) [0, 1] rfl ?_
                have hz : isM G N S3 (sMI (sMM Q1 (qDs (mM Q1))) 4 (mI Q1 4 + 1)) := by rw [qDs, if_pos hlv]; exact hQ3
                refine aw_cast ?_ (ih n (by omega) _ _ hz ((((hr1).trans hR2).trans hR3)) (wM_of hw1 (by rw [mM_sI, mM_sM]; exact qDs_lo hw1 (by decide))) (by rw [qDr, if_neg hp] at hE; exact hE) (by rw [qDr, if_neg hp] at hv; exact hv))
                rw [qEx, mM_sI, mM_sM, qDs, if_pos hlv]
                rfl
              · have hlv : ¬ 0 ≤ qOu (mM Q1) (qBst (mM Q1)) - qEx (mM Q1) := c2
                refine r_iconst (pc' := 76) (v := 1) h dX5_dispatches_75 rfl (by decide) ?_
                refine r_goto (tgt := 82) h dX5_dispatches_76 (by decide) ?_
                refine r_callV3 (pc' := 85) (M := mX5_set) h hm dX5_dispatches_82 rfl lX5_88 vX5_set rfl hj1.l0 hj1.o (Nat.le_of_ble_eq_true rfl) (rrb rfl) (kX5_set hj1 (ix_T (w := 5) (hb2) (by decide)) (fun S4 hQ4 hR4 => ?_))
                show AW X G _ _ _ _ _ _ _ _
                have hw4 := wM_isS hQ4 hw1 hb2 (k := 5) rfl (by decide)
                refine r_aload_n (pc' := 86) h dX5_dispatches_85 rfl rfl ?_
                refine r_dup (pc' := 87) h dX5_dispatches_86 rfl rfl ?_
                refine gX5_37 (pc' := 90) h dX5_dispatches_87 rfl hQ4.l0 hQ4.o rfl ?_
                refine r_iconst (pc' := 91) (v := 1) h dX5_dispatches_90 rfl (by decide) ?_
                refine r_iadd (pc' := 92) h dX5_dispatches_91 rfl ?_
                refine pX5_37 (pc' := 95) h dX5_dispatches_92 rfl hQ4.l0 hQ4.o (Nat.le_of_ble_eq_true rfl) ?_
                refine wM4 hQ4 (fun S5 hQ5 hR5 => ?_)
                refine r_aload_n (pc' := 96) h dX5_dispatches_95 rfl rfl ?_
                refine r_callV0 (pc' := 99) (M := mX5_total) h hm dX5_dispatches_96 rfl lX5_129 vX5_total rfl hQ5.l0 hQ5.o (Nat.le_of_ble_eq_true rfl) (rrb rfl) (kX5_total hQ5 hw4 ?_)
                show AW X G _ _ _ _ _ _ _ _
                refine r_aload_n (pc' := 100) h dX5_dispatches_99 rfl rfl ?_
                refine gX5_9 (pc' := 103) h dX5_dispatches_100 rfl hQ5.l0 hQ5.o rfl ?_
                refine r_iconst (pc' := 104) (v := 3) h dX5_dispatches_103 rfl (by decide) ?_
                refine r_ialdk (k0 := 3) (pc' := 105) h dX5_dispatches_104 rfl hQ5.l1 hQ5.r1 (by unfold vp_in; decide) rfl ?_
                refine r_isub (pc' := 106) h dX5_dispatches_105 rfl ?_
                refine r_istoren (j := 1) (pc' := 107) h rfl dX5_dispatches_106 rfl (by decide) rfl ?_
                refine r_goto (tgt := 17) h dX5_dispatches_107 (by decide) ?_
                refine r_sub (lo' := [(0, _), (1, _)]) [0, 1] rfl ?_
                have hz : isM G N S5 (sMI (sMM Q1 (qDs (mM Q1))) 4 (mI Q1 4 + 1)) := by rw [qDs, if_neg hlv]; exact hQ5
                refine aw_cast ?_ (ih n (by omega) _ _ hz ((((hr1).trans hR4).trans hR5)) (wM_of hw1 (by rw [mM_sI, mM_sM]; exact qDs_lo hw1 (by decide))) (by rw [qDr, if_neg hp] at hE; exact hE) (by rw [qDr, if_neg hp] at hv; exact hv))
                rw [qEx, mM_sI, mM_sM, qDs, if_neg hlv]
                rfl
            · have hj : j + 1 < qN (mM Q1) := by rcases Nat.lt_or_ge (j + 1) (qN (mM Q1)) with q | q; exact q; exact absurd (by rw [hw1.1]; exact nI_le q (by omega)) c1
              have ht : vp_in (nI (j + 1)) 12 := nJ_in (by omega) (by decide)
              refine r_aload_n (pc' := 36) h dX5_dispatches_35 rfl rfl ?_
              refine r_iload_n (pc' := 37) h dX5_dispatches_36 rfl rfl ?_
              refine r_callV1 (pc' := 40) (M := mX5_output) h hm dX5_dispatches_37 rfl lX5_77 vX5_output rfl hj1.l0 hj1.o (Nat.le_of_ble_eq_true rfl) (rrb rfl) (kX5_output hj1 hw1 (ht) ?_)
              show AW X G _ _ _ _ _ _ _ _
              refine r_aload_n (pc' := 41) h dX5_dispatches_40 rfl rfl ?_
              refine r_iload_n (pc' := 42) h dX5_dispatches_41 rfl rfl ?_
              refine r_callV1 (pc' := 45) (M := mX5_output) h hm dX5_dispatches_42 rfl lX5_77 vX5_output rfl hj1.l0 hj1.o (Nat.le_of_ble_eq_true rfl) (rrb rfl) (kX5_output hj1 hw1 (hb) ?_)
              show AW X G _ _ _ _ _ _ _ _
              refine r_icmp_le (tgt := 52) (pc' := 48) h dX5_dispatches_45 (by decide) rfl (fun c3 => ?_) (fun c3 => ?_)
              · refine r_iload_n (pc' := 53) h dX5_dispatches_52 rfl rfl ?_
                refine r_istoren (j := 2) (pc' := 54) h rfl dX5_dispatches_53 rfl (by decide) rfl ?_
                refine r_iinc (pc' := 57) (v := 1) h dX5_dispatches_54 rfl (by decide) (by decide) rfl rfl ?_
                refine r_goto (tgt := 25) h dX5_dispatches_57 (by decide) ?_
                exact aw_cast (by simp [qBs, nI_1, c1, c3]) (ih2 (j + 1) (by omega) (by omega))
              · refine r_iload_n (pc' := 49) h dX5_dispatches_48 rfl rfl ?_
                refine r_goto (tgt := 53) h dX5_dispatches_49 (by decide) ?_
                refine r_istoren (j := 2) (pc' := 54) h rfl dX5_dispatches_53 rfl (by decide) rfl ?_
                refine r_iinc (pc' := 57) (v := 1) h dX5_dispatches_54 rfl (by decide) (by decide) rfl rfl ?_
                refine r_goto (tgt := 25) h dX5_dispatches_57 (by decide) ?_
                exact aw_cast (by simp [qBs, nI_1, c1, c3]) (ih2 (j + 1) (by omega) (by omega))
        exact best (qN (mM Q1) + 1) 0 (Nat.zero_le _) (by omega)
  exact loop (d + 1) d (by omega) _ _ hQ1 hR1 hw hend rfl
theorem kX5_releasesAll {l : Launch} {G : GX} {N : Nat} {S : Nat → va_E} {K : RK} {Q : MM} (hQ : isM G N S Q) (hw : wM (mM Q)) (hk : ∀ S1, isM G N S1 (((qRa Q (qN (mM Q)), (0 : Int32)) : MM × Int32)).1 → GR S S1 → K (.inl (some (.int (((qRa Q (qN (mM Q)), (0 : Int32)) : MM × Int32)).2))) S1) : RetK l G N mX5_releasesAll (1, 23, 0, 0) [.ref (ad G 119)] S K := by
  refine ret_enter (by decide +kernel) (Nat.le_of_ble_eq_true rfl) (fun X hX h hm => ?_)
  subst hX
  replace h : OK X G N cX5_releasesAll RX5 2 (1, 23, 0, 0) := h
  replace hm : OKm X G N K (some .int) (1, 23, 0, 0) := hm
  show AW X G 2 N 0 [(0, _)] [] S 0 0
  refine r_aload_n (pc' := 1) h dX5_releasesAll_0 rfl rfl ?_
  refine r_iconst (pc' := 2) (v := 0) h dX5_releasesAll_1 rfl (by decide) ?_
  refine pX5_37 (pc' := 5) h dX5_releasesAll_2 rfl hQ.l0 hQ.o (Nat.le_of_ble_eq_true rfl) ?_
  refine wM4 hQ (fun S1 hQ1 hR1 => ?_)
  refine r_iconst (pc' := 6) (v := 0) h dX5_releasesAll_5 rfl (by decide) ?_
  refine r_istoren (j := 1) (pc' := 7) h rfl dX5_releasesAll_6 rfl (by decide) rfl ?_
  have loop : ∀ (n j : Nat), j ≤ qN (mM Q) → qN (mM Q) - j < n → ∀ Sj, isM G N Sj (qRa Q j) → GR S Sj → AW X G 2 N 7 [(0, .ref (ad G 119)), (1, .int (nI j))] [] Sj 0 0 := by
    intro n
    induction n with
    | zero => intro j h1 h2; exact absurd h2 (by omega)
    | succ n ih =>
      intro j h1 h2 Sj hj1 hr1
      have hn12 := hw.2
      have e0 : mM (qRa Q j) 0 = mM Q 0 := qRa_lo (by decide) j (by omega)
      have hwj : wM (mM (qRa Q j)) := wM_of hw e0
      refine r_iload_n (pc' := 8) h dX5_releasesAll_7 rfl rfl ?_
      refine r_aload_n (pc' := 9) h dX5_releasesAll_8 rfl rfl ?_
      refine gX5_9 (pc' := 12) h dX5_releasesAll_9 rfl hj1.l0 hj1.o rfl ?_
      refine r_iconst (pc' := 13) (v := 0) h dX5_releasesAll_12 rfl (by decide) ?_
      refine r_ialdk (k0 := 0) (pc' := 14) h dX5_releasesAll_13 rfl hj1.l1 hj1.r1 (by unfold vp_in; decide) rfl ?_
      refine r_icmp_ge (tgt := 53) (pc' := 17) h dX5_releasesAll_14 (by decide) rfl (fun c0 => ?_) (fun c0 => ?_)
      · have ej := lp_ge (c := qN (mM Q)) (by rw [e0]; exact hw.1) (by omega) h1 c0
        subst ej
        refine r_iconst (pc' := 54) (v := 0) h dX5_releasesAll_53 rfl (by decide) ?_
        refine r_ireturn h hm dX5_releasesAll_54 (Nat.le_of_ble_eq_true rfl) (Nat.le_of_ble_eq_true rfl) ?_
        exact kM hk hj1 hr1 rfl
      · have hj := lp_lt (c := qN (mM Q)) (by rw [e0]; exact hw.1) (by omega) h1 c0
        have ht : vp_in (nI j) 12 := nJ_in (by omega) (by decide)
        refine r_aload_n (pc' := 18) h dX5_releasesAll_17 rfl rfl ?_
        refine r_dup (pc' := 19) h dX5_releasesAll_18 rfl rfl ?_
        refine gX5_37 (pc' := 22) h dX5_releasesAll_19 rfl hj1.l0 hj1.o rfl ?_
        refine r_aload_n (pc' := 23) h dX5_releasesAll_22 rfl rfl ?_
        refine r_iload_n (pc' := 24) h dX5_releasesAll_23 rfl rfl ?_
        refine r_iconst (pc' := 25) (v := 5) h dX5_releasesAll_24 rfl (by decide) ?_
        refine r_callV2 (pc' := 28) (M := mX5_t) h hm dX5_releasesAll_25 rfl lX5_57 vX5_t rfl hj1.l0 hj1.o (Nat.le_of_ble_eq_true rfl) (rrb rfl) (kX5_t hj1 (ix_T (w := 5) (ht) (by decide)) ?_)
        show AW X G _ _ _ _ _ _ _ _
        refine r_if_le (tgt := 35) (pc' := 31) h dX5_releasesAll_28 (by decide) rfl (fun c1 => ?_) (fun c1 => ?_)
        · have hif : qT (mM (qRa Q j)) (nI j) 5 ≤ 0 := c1
          refine r_iconst (pc' := 36) (v := 0) h dX5_releasesAll_35 rfl (by decide) ?_
          refine r_iadd (pc' := 37) h dX5_releasesAll_36 rfl ?_
          refine pX5_37 (pc' := 40) h dX5_releasesAll_37 rfl hj1.l0 hj1.o (Nat.le_of_ble_eq_true rfl) ?_
          refine wM4 hj1 (fun S2 hQ2 hR2 => ?_)
          refine r_aload_n (pc' := 41) h dX5_releasesAll_40 rfl rfl ?_
          refine r_iload_n (pc' := 42) h dX5_releasesAll_41 rfl rfl ?_
          refine r_iconst (pc' := 43) (v := 5) h dX5_releasesAll_42 rfl (by decide) ?_
          refine r_iconst (pc' := 44) (v := 0) h dX5_releasesAll_43 rfl (by decide) ?_
          refine r_callV3 (pc' := 47) (M := mX5_set) h hm dX5_releasesAll_44 rfl lX5_88 vX5_set rfl hQ2.l0 hQ2.o (Nat.le_of_ble_eq_true rfl) (rrb rfl) (kX5_set hQ2 (ix_T (w := 5) ht (by decide)) (fun S3 hQ3 hR3 => ?_))
          show AW X G _ _ _ _ _ _ _ _
          refine r_iinc (pc' := 50) (v := 1) h dX5_releasesAll_47 rfl (by decide) (by decide) rfl rfl ?_
          refine r_goto (tgt := 7) h dX5_releasesAll_50 (by decide) ?_
          have hz : isM G N S3 (qRa Q (j + 1)) := by rw [qRa, if_pos hif]; exact hQ3
          exact aw_cast (by simp [nI_1]) (ih (j + 1) (by omega) (by omega) _ hz (((hr1).trans hR2).trans hR3))
        · have hif : ¬ qT (mM (qRa Q j)) (nI j) 5 ≤ 0 := c1
          refine r_iconst (pc' := 32) (v := 1) h dX5_releasesAll_31 rfl (by decide) ?_
          refine r_goto (tgt := 36) h dX5_releasesAll_32 (by decide) ?_
          refine r_iadd (pc' := 37) h dX5_releasesAll_36 rfl ?_
          refine pX5_37 (pc' := 40) h dX5_releasesAll_37 rfl hj1.l0 hj1.o (Nat.le_of_ble_eq_true rfl) ?_
          refine wM4 hj1 (fun S4 hQ4 hR4 => ?_)
          refine r_aload_n (pc' := 41) h dX5_releasesAll_40 rfl rfl ?_
          refine r_iload_n (pc' := 42) h dX5_releasesAll_41 rfl rfl ?_
          refine r_iconst (pc' := 43) (v := 5) h dX5_releasesAll_42 rfl (by decide) ?_
          refine r_iconst (pc' := 44) (v := 0) h dX5_releasesAll_43 rfl (by decide) ?_
          refine r_callV3 (pc' := 47) (M := mX5_set) h hm dX5_releasesAll_44 rfl lX5_88 vX5_set rfl hQ4.l0 hQ4.o (Nat.le_of_ble_eq_true rfl) (rrb rfl) (kX5_set hQ4 (ix_T (w := 5) ht (by decide)) (fun S5 hQ5 hR5 => ?_))
          show AW X G _ _ _ _ _ _ _ _
          refine r_iinc (pc' := 50) (v := 1) h dX5_releasesAll_47 rfl (by decide) (by decide) rfl rfl ?_
          refine r_goto (tgt := 7) h dX5_releasesAll_50 (by decide) ?_
          have hz : isM G N S5 (qRa Q (j + 1)) := by rw [qRa, if_neg hif]; exact hQ5
          exact aw_cast (by simp [nI_1]) (ih (j + 1) (by omega) (by omega) _ hz (((hr1).trans hR4).trans hR5))
  exact loop (qN (mM Q) + 1) 0 (Nat.zero_le _) (by omega) _ hQ1 hR1
theorem kX5_passes {l : Launch} {G : GX} {N : Nat} {S : Nat → va_E} {K : RK} {Q : MM} (hQ : isM G N S Q) (hw : wM (mM Q)) (hh : vp_in (qHr (mM Q)) 24) (hk : ∀ S1, isM G N S1 (sMM Q (qPs (mM Q))) → GR S S1 → K (.inl none) S1) : RetK l G N mX5_passes (7, 158, 0, 0) [.ref (ad G 119)] S K := by
  refine ret_enter (by decide +kernel) (Nat.le_of_ble_eq_true rfl) (fun X hX h hm => ?_)
  subst hX
  replace h : OK X G N cX5_passes RX5 8 (7, 158, 0, 0) := h
  replace hm : OKm X G N K none (7, 158, 0, 0) := hm
  show AW X G 8 N 0 [(0, _)] [] S 0 0
  refine r_aload_n (pc' := 1) h dX5_passes_0 rfl rfl ?_
  refine gX5_9 (pc' := 4) h dX5_passes_1 rfl hQ.l0 hQ.o rfl ?_
  refine r_iconst (pc' := 5) (v := 4) h dX5_passes_4 rfl (by decide) ?_
  refine r_ialdk (k0 := 4) (pc' := 6) h dX5_passes_5 rfl hQ.l1 hQ.r1 (by unfold vp_in; decide) rfl ?_
  refine r_bipush (pc' := 8) (v := 24) h dX5_passes_6 rfl (by decide) ?_
  refine r_irem (pc' := 9) h dX5_passes_8 rfl (by decide) ?_
  refine r_istoren (j := 1) (pc' := 10) h rfl dX5_passes_9 rfl (by decide) rfl ?_
  refine r_aload_n (pc' := 11) h dX5_passes_10 rfl rfl ?_
  refine r_callV0 (pc' := 14) (M := mX5_total) h hm dX5_passes_11 rfl lX5_129 vX5_total rfl hQ.l0 hQ.o (Nat.le_of_ble_eq_true rfl) (rrb rfl) (kX5_total hQ hw ?_)
  show AW X G _ _ _ _ _ _ _ _
  refine r_istoren (j := 2) (pc' := 15) h rfl dX5_passes_14 rfl (by decide) rfl ?_
  refine r_iload_n (pc' := 16) h dX5_passes_15 rfl rfl ?_
  refine r_bipush (pc' := 18) (v := 20) h dX5_passes_16 rfl (by decide) ?_
  refine r_idiv (pc' := 19) h dX5_passes_18 rfl (by decide) ?_
  refine r_istoren (j := 3) (pc' := 20) h rfl dX5_passes_19 rfl (by decide) rfl ?_
  refine r_iload_n (pc' := 21) h dX5_passes_20 rfl rfl ?_
  refine r_iload_n (pc' := 22) h dX5_passes_21 rfl rfl ?_
  refine r_isub (pc' := 23) h dX5_passes_22 rfl ?_
  refine r_istore (pc' := 25) h dX5_passes_23 rfl (by decide) rfl ?_
  refine r_aload_n (pc' := 26) h dX5_passes_25 rfl rfl ?_
  refine r_iload_n (pc' := 27) h dX5_passes_26 rfl rfl ?_
  refine r_callV1 (pc' := 30) (M := mX5_quantity) h hm dX5_passes_27 rfl lX5_159 vX5_quantity rfl hQ.l0 hQ.o (Nat.le_of_ble_eq_true rfl) (rrb rfl) (kX5_quantity hQ (hh) ?_)
  show AW X G _ _ _ _ _ _ _ _
  refine r_istore (pc' := 32) h dX5_passes_30 rfl (by decide) rfl ?_
  refine r_iload (pc' := 34) h dX5_passes_32 rfl rfl ?_
  refine r_iload (pc' := 36) h dX5_passes_34 rfl rfl ?_
  refine r_icmp_ge (tgt := 44) (pc' := 39) h dX5_passes_36 (by decide) rfl (fun c0 => ?_) (fun c0 => ?_)
  · have hif : qQu (mM Q) (qHr (mM Q)) ≤ qTo (mM Q) (qN (mM Q)) - qTo (mM Q) (qN (mM Q)) / 20 := c0
    refine r_iload (pc' := 46) h dX5_passes_44 rfl rfl ?_
    refine r_istore (pc' := 48) h dX5_passes_46 rfl (by decide) rfl ?_
    refine r_aload_n (pc' := 49) h dX5_passes_48 rfl rfl ?_
    refine gX5_9 (pc' := 52) h dX5_passes_49 rfl hQ.l0 hQ.o rfl ?_
    refine r_iconst (pc' := 53) (v := 5) h dX5_passes_52 rfl (by decide) ?_
    refine r_dup2 (pc' := 54) h dX5_passes_53 rfl rfl rfl ?_
    refine r_ialdk (k0 := 5) (pc' := 55) h dX5_passes_54 rfl hQ.l1 hQ.r1 (by unfold vp_in; decide) rfl ?_
    refine r_iload_n (pc' := 56) h dX5_passes_55 rfl rfl ?_
    refine r_iadd (pc' := 57) h dX5_passes_56 rfl ?_
    refine r_iastk (k0 := 5) (pc' := 58) h dX5_passes_57 rfl hQ.l1 hQ.r1 (by unfold vp_in; decide) rfl ?_
    refine wU0 hQ (fun S1 hQ1 hR1 => ?_)
    refine r_aload_n (pc' := 59) h dX5_passes_58 rfl rfl ?_
    refine gX5_9 (pc' := 62) h dX5_passes_59 rfl hQ1.l0 hQ1.o rfl ?_
    refine r_bipush (pc' := 64) (v := 6) h dX5_passes_62 rfl (by decide) ?_
    refine r_dup2 (pc' := 65) h dX5_passes_64 rfl rfl rfl ?_
    refine r_ialdk (k0 := 6) (pc' := 66) h dX5_passes_65 rfl hQ1.l1 hQ1.r1 (by unfold vp_in; decide) rfl ?_
    refine r_iload_n (pc' := 67) h dX5_passes_66 rfl rfl ?_
    refine r_iadd (pc' := 68) h dX5_passes_67 rfl ?_
    refine r_iastk (k0 := 6) (pc' := 69) h dX5_passes_68 rfl hQ1.l1 hQ1.r1 (by unfold vp_in; decide) rfl ?_
    refine wU0 hQ1 (fun S2 hQ2 hR2 => ?_)
    refine r_aload_n (pc' := 70) h dX5_passes_69 rfl rfl ?_
    refine gX5_9 (pc' := 73) h dX5_passes_70 rfl hQ2.l0 hQ2.o rfl ?_
    refine r_bipush (pc' := 75) (v := 7) h dX5_passes_73 rfl (by decide) ?_
    refine r_dup2 (pc' := 76) h dX5_passes_75 rfl rfl rfl ?_
    refine r_ialdk (k0 := 7) (pc' := 77) h dX5_passes_76 rfl hQ2.l1 hQ2.r1 (by unfold vp_in; decide) rfl ?_
    refine r_iload (pc' := 79) h dX5_passes_77 rfl rfl ?_
    refine r_iadd (pc' := 80) h dX5_passes_79 rfl ?_
    refine r_iastk (k0 := 7) (pc' := 81) h dX5_passes_80 rfl hQ2.l1 hQ2.r1 (by unfold vp_in; decide) rfl ?_
    refine wU0 hQ2 (fun S3 hQ3 hR3 => ?_)
    refine r_aload_n (pc' := 82) h dX5_passes_81 rfl rfl ?_
    refine gX5_9 (pc' := 85) h dX5_passes_82 rfl hQ3.l0 hQ3.o rfl ?_
    refine r_bipush (pc' := 87) (v := 8) h dX5_passes_85 rfl (by decide) ?_
    refine r_dup2 (pc' := 88) h dX5_passes_87 rfl rfl rfl ?_
    refine r_ialdk (k0 := 8) (pc' := 89) h dX5_passes_88 rfl hQ3.l1 hQ3.r1 (by unfold vp_in; decide) rfl ?_
    refine r_iload (pc' := 91) h dX5_passes_89 rfl rfl ?_
    refine r_aload_n (pc' := 92) h dX5_passes_91 rfl rfl ?_
    refine r_iload_n (pc' := 93) h dX5_passes_92 rfl rfl ?_
    refine r_callV1 (pc' := 96) (M := mX5_price) h hm dX5_passes_93 rfl lX5_147 vX5_price rfl hQ3.l0 hQ3.o (Nat.le_of_ble_eq_true rfl) (rrb rfl) (kX5_price hQ3 (hh) ?_)
    show AW X G _ _ _ _ _ _ _ _
    refine r_imul (pc' := 97) h dX5_passes_96 rfl ?_
    refine r_iload (pc' := 99) h dX5_passes_97 rfl rfl ?_
    refine r_iload (pc' := 101) h dX5_passes_99 rfl rfl ?_
    refine r_isub (pc' := 102) h dX5_passes_101 rfl ?_
    refine r_aload_n (pc' := 103) h dX5_passes_102 rfl rfl ?_
    refine r_iload_n (pc' := 104) h dX5_passes_103 rfl rfl ?_
    refine r_callV1 (pc' := 107) (M := mX5_price) h hm dX5_passes_104 rfl lX5_147 vX5_price rfl hQ3.l0 hQ3.o (Nat.le_of_ble_eq_true rfl) (rrb rfl) (kX5_price hQ3 (hh) ?_)
    show AW X G _ _ _ _ _ _ _ _
    refine r_imul (pc' := 108) h dX5_passes_107 rfl ?_
    refine r_isub (pc' := 109) h dX5_passes_108 rfl ?_
    refine r_iadd (pc' := 110) h dX5_passes_109 rfl ?_
    refine r_iastk (k0 := 8) (pc' := 111) h dX5_passes_110 rfl hQ3.l1 hQ3.r1 (by unfold vp_in; decide) rfl ?_
    refine wU0 hQ3 (fun S4 hQ4 hR4 => ?_)
    refine r_iconst (pc' := 112) (v := 0) h dX5_passes_111 rfl (by decide) ?_
    refine r_istore (pc' := 114) h dX5_passes_112 rfl (by decide) rfl ?_
    have loop : ∀ (n j : Nat), j ≤ qN (mM Q) → qN (mM Q) - j < n → ∀ Sj, isM G N Sj (sMM Q (qWs (qAc (mM Q) (qTo (mM Q) (qN (mM Q)))) j)) → GR S Sj → AW X G 8 N 114 [(0, .ref (ad G 119)), (7, .int (nI j))] [] Sj 0 0 := by
      intro n
      induction n with
      | zero => intro j h1 h2; exact absurd h2 (by omega)
      | succ n ih =>
        intro j h1 h2 Sj hj1 hr1
        have hn12 := hw.2
        have e0 : qWs (qAc (mM Q) (qTo (mM Q) (qN (mM Q)))) j 0 = mM Q 0 := by rw [qWs_lo (by decide) j (by omega)]; rfl
        refine r_iload (pc' := 116) h dX5_passes_114 rfl rfl ?_
        refine r_aload_n (pc' := 117) h dX5_passes_116 rfl rfl ?_
        refine gX5_9 (pc' := 120) h dX5_passes_117 rfl hj1.l0 hj1.o rfl ?_
        refine r_iconst (pc' := 121) (v := 0) h dX5_passes_120 rfl (by decide) ?_
        refine r_ialdk (k0 := 0) (pc' := 122) h dX5_passes_121 rfl hj1.l1 hj1.r1 (by unfold vp_in; decide) rfl ?_
        refine r_icmp_ge (tgt := 183) (pc' := 125) h dX5_passes_122 (by decide) rfl (fun c1 => ?_) (fun c1 => ?_)
        · have ej := lp_ge (c := qN (mM Q)) (by rw [mM_sM, e0]; exact hw.1) (by omega) h1 c1
          subst ej
          refine r_aload_n (pc' := 184) h dX5_passes_183 rfl rfl ?_
          refine gX5_9 (pc' := 187) h dX5_passes_184 rfl hj1.l0 hj1.o rfl ?_
          refine r_iconst (pc' := 188) (v := 4) h dX5_passes_187 rfl (by decide) ?_
          refine r_dup2 (pc' := 189) h dX5_passes_188 rfl rfl rfl ?_
          refine r_ialdk (k0 := 4) (pc' := 190) h dX5_passes_189 rfl hj1.l1 hj1.r1 (by unfold vp_in; decide) rfl ?_
          refine r_iconst (pc' := 191) (v := 1) h dX5_passes_190 rfl (by decide) ?_
          refine r_iadd (pc' := 192) h dX5_passes_191 rfl ?_
          refine r_iastk (k0 := 4) (pc' := 193) h dX5_passes_192 rfl hj1.l1 hj1.r1 (by unfold vp_in; decide) rfl ?_
          refine wU0 hj1 (fun S5 hQ5 hR5 => ?_)
          refine r_return h hm dX5_passes_193 (Nat.le_of_ble_eq_true rfl) (Nat.le_of_ble_eq_true rfl) ?_
          refine hk _ ?_ ((hr1).trans hR5)
          have e9 := hQ5
          have e4 : qWs (qAc (mM Q) (qTo (mM Q) (qN (mM Q)))) (qN (mM Q)) 4 = mM Q 4 := by rw [qWs_lo (by decide) _ (by omega)]; rfl
          rw [mM_sM, e4] at e9
          exact e9
        · have hj := lp_lt (c := qN (mM Q)) (by rw [mM_sM, e0]; exact hw.1) (by omega) h1 c1
          have ht : vp_in (nI j) 12 := nJ_in (by omega) (by decide)
          refine r_aload_n (pc' := 126) h dX5_passes_125 rfl rfl ?_
          refine r_iload (pc' := 128) h dX5_passes_126 rfl rfl ?_
          refine r_iconst (pc' := 129) (v := 3) h dX5_passes_128 rfl (by decide) ?_
          refine r_callV2 (pc' := 132) (M := mX5_t) h hm dX5_passes_129 rfl lX5_57 vX5_t rfl hj1.l0 hj1.o (Nat.le_of_ble_eq_true rfl) (rrb rfl) (kX5_t hj1 (ix_T (w := 3) (ht) (by decide)) ?_)
          show AW X G _ _ _ _ _ _ _ _
          refine r_iconst (pc' := 133) (v := 2) h dX5_passes_132 rfl (by decide) ?_
          refine r_icmp_eq (tgt := 139) (pc' := 136) h dX5_passes_133 (by decide) rfl (fun c2 => ?_) (fun c2 => ?_)
          · have h3 : qT (qWs (qAc (mM Q) (qTo (mM Q) (qN (mM Q)))) j) (nI j) 3 = 2 := c2
            refine r_aload_n (pc' := 140) h dX5_passes_139 rfl rfl ?_
            refine r_iload (pc' := 142) h dX5_passes_140 rfl rfl ?_
            refine r_iconst (pc' := 143) (v := 4) h dX5_passes_142 rfl (by decide) ?_
            refine r_aload_n (pc' := 144) h dX5_passes_143 rfl rfl ?_
            refine r_iload (pc' := 146) h dX5_passes_144 rfl rfl ?_
            refine r_iconst (pc' := 147) (v := 4) h dX5_passes_146 rfl (by decide) ?_
            refine r_callV2 (pc' := 150) (M := mX5_t) h hm dX5_passes_147 rfl lX5_57 vX5_t rfl hj1.l0 hj1.o (Nat.le_of_ble_eq_true rfl) (rrb rfl) (kX5_t hj1 (ix_T (w := 4) (ht) (by decide)) ?_)
            show AW X G _ _ _ _ _ _ _ _
            refine r_iconst (pc' := 151) (v := 1) h dX5_passes_150 rfl (by decide) ?_
            refine r_isub (pc' := 152) h dX5_passes_151 rfl ?_
            refine r_callV3 (pc' := 155) (M := mX5_set) h hm dX5_passes_152 rfl lX5_88 vX5_set rfl hj1.l0 hj1.o (Nat.le_of_ble_eq_true rfl) (rrb rfl) (kX5_set hj1 (ix_T (w := 4) ht (by decide)) (fun S6 hQ6 hR6 => ?_))
            show AW X G _ _ _ _ _ _ _ _
            refine r_aload_n (pc' := 156) h dX5_passes_155 rfl rfl ?_
            refine r_iload (pc' := 158) h dX5_passes_156 rfl rfl ?_
            refine r_iconst (pc' := 159) (v := 3) h dX5_passes_158 rfl (by decide) ?_
            refine r_aload_n (pc' := 160) h dX5_passes_159 rfl rfl ?_
            refine r_iload (pc' := 162) h dX5_passes_160 rfl rfl ?_
            refine r_iconst (pc' := 163) (v := 4) h dX5_passes_162 rfl (by decide) ?_
            refine r_callV2 (pc' := 166) (M := mX5_t) h hm dX5_passes_163 rfl lX5_57 vX5_t rfl hQ6.l0 hQ6.o (Nat.le_of_ble_eq_true rfl) (rrb rfl) (kX5_t hQ6 (ix_T (w := 4) (ht) (by decide)) ?_)
            show AW X G _ _ _ _ _ _ _ _
            refine r_if_ne (tgt := 173) (pc' := 169) h dX5_passes_166 (by decide) rfl (fun c3 => ?_) (fun c3 => ?_)
            · have h6 : ¬ qT (qSet (qWs (qAc (mM Q) (qTo (mM Q) (qN (mM Q)))) j) (nI j) 4 (qT (qWs (qAc (mM Q) (qTo (mM Q) (qN (mM Q)))) j) (nI j) 4 - 1)) (nI j) 4 = 0 := c3
              refine r_iconst (pc' := 174) (v := 2) h dX5_passes_173 rfl (by decide) ?_
              refine r_callV3 (pc' := 177) (M := mX5_set) h hm dX5_passes_174 rfl lX5_88 vX5_set rfl hQ6.l0 hQ6.o (Nat.le_of_ble_eq_true rfl) (rrb rfl) (kX5_set hQ6 (ix_T (w := 3) ht (by decide)) (fun S7 hQ7 hR7 => ?_))
              show AW X G _ _ _ _ _ _ _ _
              refine r_iinc (pc' := 180) (v := 1) h dX5_passes_177 rfl (by decide) (by decide) rfl rfl ?_
              refine r_goto (tgt := 114) h dX5_passes_180 (by decide) ?_
              have hz : isM G N S7 (sMM Q (qWs (qAc (mM Q) (qTo (mM Q) (qN (mM Q)))) (j + 1))) := by rw [qWs, qW1]; rw [if_pos h3]; rw [if_neg h6]; exact hQ7
              exact aw_cast (by simp [nI_1]) (ih (j + 1) (by omega) (by omega) _ hz (((hr1).trans hR6).trans hR7))
            · have h6 : qT (qSet (qWs (qAc (mM Q) (qTo (mM Q) (qN (mM Q)))) j) (nI j) 4 (qT (qWs (qAc (mM Q) (qTo (mM Q) (qN (mM Q)))) j) (nI j) 4 - 1)) (nI j) 4 = 0 := c3
              refine r_iconst (pc' := 170) (v := 0) h dX5_passes_169 rfl (by decide) ?_
              refine r_goto (tgt := 174) h dX5_passes_170 (by decide) ?_
              refine r_callV3 (pc' := 177) (M := mX5_set) h hm dX5_passes_174 rfl lX5_88 vX5_set rfl hQ6.l0 hQ6.o (Nat.le_of_ble_eq_true rfl) (rrb rfl) (kX5_set hQ6 (ix_T (w := 3) ht (by decide)) (fun S8 hQ8 hR8 => ?_))
              show AW X G _ _ _ _ _ _ _ _
              refine r_iinc (pc' := 180) (v := 1) h dX5_passes_177 rfl (by decide) (by decide) rfl rfl ?_
              refine r_goto (tgt := 114) h dX5_passes_180 (by decide) ?_
              have hz : isM G N S8 (sMM Q (qWs (qAc (mM Q) (qTo (mM Q) (qN (mM Q)))) (j + 1))) := by rw [qWs, qW1]; rw [if_pos h3]; rw [if_pos h6]; exact hQ8
              exact aw_cast (by simp [nI_1]) (ih (j + 1) (by omega) (by omega) _ hz (((hr1).trans hR6).trans hR8))
          · have h3 : ¬ qT (qWs (qAc (mM Q) (qTo (mM Q) (qN (mM Q)))) j) (nI j) 3 = 2 := c2
            refine r_goto (tgt := 177) h dX5_passes_136 (by decide) ?_
            refine r_iinc (pc' := 180) (v := 1) h dX5_passes_177 rfl (by decide) (by decide) rfl rfl ?_
            refine r_goto (tgt := 114) h dX5_passes_180 (by decide) ?_
            have hz : isM G N Sj (sMM Q (qWs (qAc (mM Q) (qTo (mM Q) (qN (mM Q)))) (j + 1))) := by rw [qWs, qW1]; rw [if_neg h3]; exact hj1
            exact aw_cast (by simp [nI_1]) (ih (j + 1) (by omega) (by omega) _ hz hr1)
    refine r_sub (lo' := [(0, _), (7, _)]) [0, 7] rfl ?_
    refine loop (qN (mM Q) + 1) 0 (Nat.zero_le _) (by omega) _ ?_ ((((hR1).trans hR2).trans hR3).trans hR4)
    have e9 := hQ4
    show isM G N _ (sMM Q (qAc (mM Q) (qTo (mM Q) (qN (mM Q)))))
    have e8 : qSo (mM Q) (qTo (mM Q) (qN (mM Q))) = qQu (mM Q) (qHr (mM Q)) := by rw [qSo]; exact if_pos hif
    have hh' : vp_in (mM Q 4 - mM Q 4 / 24 * 24) 24 := hh
    rw [qAc, e8]
    simp only [mM_sM, qPr_u (k := 5) hh' (by decide), qPr_u (k := 6) hh' (by decide), qPr_u (k := 7) hh' (by decide)] at e9
    exact e9
  · have hif : ¬ qQu (mM Q) (qHr (mM Q)) ≤ qTo (mM Q) (qN (mM Q)) - qTo (mM Q) (qN (mM Q)) / 20 := c0
    refine r_iload (pc' := 41) h dX5_passes_39 rfl rfl ?_
    refine r_goto (tgt := 46) h dX5_passes_41 (by decide) ?_
    refine r_istore (pc' := 48) h dX5_passes_46 rfl (by decide) rfl ?_
    refine r_aload_n (pc' := 49) h dX5_passes_48 rfl rfl ?_
    refine gX5_9 (pc' := 52) h dX5_passes_49 rfl hQ.l0 hQ.o rfl ?_
    refine r_iconst (pc' := 53) (v := 5) h dX5_passes_52 rfl (by decide) ?_
    refine r_dup2 (pc' := 54) h dX5_passes_53 rfl rfl rfl ?_
    refine r_ialdk (k0 := 5) (pc' := 55) h dX5_passes_54 rfl hQ.l1 hQ.r1 (by unfold vp_in; decide) rfl ?_
    refine r_iload_n (pc' := 56) h dX5_passes_55 rfl rfl ?_
    refine r_iadd (pc' := 57) h dX5_passes_56 rfl ?_
    refine r_iastk (k0 := 5) (pc' := 58) h dX5_passes_57 rfl hQ.l1 hQ.r1 (by unfold vp_in; decide) rfl ?_
    refine wU0 hQ (fun S9 hQ9 hR9 => ?_)
    refine r_aload_n (pc' := 59) h dX5_passes_58 rfl rfl ?_
    refine gX5_9 (pc' := 62) h dX5_passes_59 rfl hQ9.l0 hQ9.o rfl ?_
    refine r_bipush (pc' := 64) (v := 6) h dX5_passes_62 rfl (by decide) ?_
    refine r_dup2 (pc' := 65) h dX5_passes_64 rfl rfl rfl ?_
    refine r_ialdk (k0 := 6) (pc' := 66) h dX5_passes_65 rfl hQ9.l1 hQ9.r1 (by unfold vp_in; decide) rfl ?_
    refine r_iload_n (pc' := 67) h dX5_passes_66 rfl rfl ?_
    refine r_iadd (pc' := 68) h dX5_passes_67 rfl ?_
    refine r_iastk (k0 := 6) (pc' := 69) h dX5_passes_68 rfl hQ9.l1 hQ9.r1 (by unfold vp_in; decide) rfl ?_
    refine wU0 hQ9 (fun S10 hQ10 hR10 => ?_)
    refine r_aload_n (pc' := 70) h dX5_passes_69 rfl rfl ?_
    refine gX5_9 (pc' := 73) h dX5_passes_70 rfl hQ10.l0 hQ10.o rfl ?_
    refine r_bipush (pc' := 75) (v := 7) h dX5_passes_73 rfl (by decide) ?_
    refine r_dup2 (pc' := 76) h dX5_passes_75 rfl rfl rfl ?_
    refine r_ialdk (k0 := 7) (pc' := 77) h dX5_passes_76 rfl hQ10.l1 hQ10.r1 (by unfold vp_in; decide) rfl ?_
    refine r_iload (pc' := 79) h dX5_passes_77 rfl rfl ?_
    refine r_iadd (pc' := 80) h dX5_passes_79 rfl ?_
    refine r_iastk (k0 := 7) (pc' := 81) h dX5_passes_80 rfl hQ10.l1 hQ10.r1 (by unfold vp_in; decide) rfl ?_
    refine wU0 hQ10 (fun S11 hQ11 hR11 => ?_)
    refine r_aload_n (pc' := 82) h dX5_passes_81 rfl rfl ?_
    refine gX5_9 (pc' := 85) h dX5_passes_82 rfl hQ11.l0 hQ11.o rfl ?_
    refine r_bipush (pc' := 87) (v := 8) h dX5_passes_85 rfl (by decide) ?_
    refine r_dup2 (pc' := 88) h dX5_passes_87 rfl rfl rfl ?_
    refine r_ialdk (k0 := 8) (pc' := 89) h dX5_passes_88 rfl hQ11.l1 hQ11.r1 (by unfold vp_in; decide) rfl ?_
    refine r_iload (pc' := 91) h dX5_passes_89 rfl rfl ?_
    refine r_aload_n (pc' := 92) h dX5_passes_91 rfl rfl ?_
    refine r_iload_n (pc' := 93) h dX5_passes_92 rfl rfl ?_
    refine r_callV1 (pc' := 96) (M := mX5_price) h hm dX5_passes_93 rfl lX5_147 vX5_price rfl hQ11.l0 hQ11.o (Nat.le_of_ble_eq_true rfl) (rrb rfl) (kX5_price hQ11 (hh) ?_)
    show AW X G _ _ _ _ _ _ _ _
    refine r_imul (pc' := 97) h dX5_passes_96 rfl ?_
    refine r_iload (pc' := 99) h dX5_passes_97 rfl rfl ?_
    refine r_iload (pc' := 101) h dX5_passes_99 rfl rfl ?_
    refine r_isub (pc' := 102) h dX5_passes_101 rfl ?_
    refine r_aload_n (pc' := 103) h dX5_passes_102 rfl rfl ?_
    refine r_iload_n (pc' := 104) h dX5_passes_103 rfl rfl ?_
    refine r_callV1 (pc' := 107) (M := mX5_price) h hm dX5_passes_104 rfl lX5_147 vX5_price rfl hQ11.l0 hQ11.o (Nat.le_of_ble_eq_true rfl) (rrb rfl) (kX5_price hQ11 (hh) ?_)
    show AW X G _ _ _ _ _ _ _ _
    refine r_imul (pc' := 108) h dX5_passes_107 rfl ?_
    refine r_isub (pc' := 109) h dX5_passes_108 rfl ?_
    refine r_iadd (pc' := 110) h dX5_passes_109 rfl ?_
    refine r_iastk (k0 := 8) (pc' := 111) h dX5_passes_110 rfl hQ11.l1 hQ11.r1 (by unfold vp_in; decide) rfl ?_
    refine wU0 hQ11 (fun S12 hQ12 hR12 => ?_)
    refine r_iconst (pc' := 112) (v := 0) h dX5_passes_111 rfl (by decide) ?_
    refine r_istore (pc' := 114) h dX5_passes_112 rfl (by decide) rfl ?_
    have loop : ∀ (n j : Nat), j ≤ qN (mM Q) → qN (mM Q) - j < n → ∀ Sj, isM G N Sj (sMM Q (qWs (qAc (mM Q) (qTo (mM Q) (qN (mM Q)))) j)) → GR S Sj → AW X G 8 N 114 [(0, .ref (ad G 119)), (7, .int (nI j))] [] Sj 0 0 := by
      intro n
      induction n with
      | zero => intro j h1 h2; exact absurd h2 (by omega)
      | succ n ih =>
        intro j h1 h2 Sj hj1 hr1
        have hn12 := hw.2
        have e0 : qWs (qAc (mM Q) (qTo (mM Q) (qN (mM Q)))) j 0 = mM Q 0 := by rw [qWs_lo (by decide) j (by omega)]; rfl
        refine r_iload (pc' := 116) h dX5_passes_114 rfl rfl ?_
        refine r_aload_n (pc' := 117) h dX5_passes_116 rfl rfl ?_
        refine gX5_9 (pc' := 120) h dX5_passes_117 rfl hj1.l0 hj1.o rfl ?_
        refine r_iconst (pc' := 121) (v := 0) h dX5_passes_120 rfl (by decide) ?_
        refine r_ialdk (k0 := 0) (pc' := 122) h dX5_passes_121 rfl hj1.l1 hj1.r1 (by unfold vp_in; decide) rfl ?_
        refine r_icmp_ge (tgt := 183) (pc' := 125) h dX5_passes_122 (by decide) rfl (fun c4 => ?_) (fun c4 => ?_)
        · have ej := lp_ge (c := qN (mM Q)) (by rw [mM_sM, e0]; exact hw.1) (by omega) h1 c4
          subst ej
          refine r_aload_n (pc' := 184) h dX5_passes_183 rfl rfl ?_
          refine gX5_9 (pc' := 187) h dX5_passes_184 rfl hj1.l0 hj1.o rfl ?_
          refine r_iconst (pc' := 188) (v := 4) h dX5_passes_187 rfl (by decide) ?_
          refine r_dup2 (pc' := 189) h dX5_passes_188 rfl rfl rfl ?_
          refine r_ialdk (k0 := 4) (pc' := 190) h dX5_passes_189 rfl hj1.l1 hj1.r1 (by unfold vp_in; decide) rfl ?_
          refine r_iconst (pc' := 191) (v := 1) h dX5_passes_190 rfl (by decide) ?_
          refine r_iadd (pc' := 192) h dX5_passes_191 rfl ?_
          refine r_iastk (k0 := 4) (pc' := 193) h dX5_passes_192 rfl hj1.l1 hj1.r1 (by unfold vp_in; decide) rfl ?_
          refine wU0 hj1 (fun S13 hQ13 hR13 => ?_)
          refine r_return h hm dX5_passes_193 (Nat.le_of_ble_eq_true rfl) (Nat.le_of_ble_eq_true rfl) ?_
          refine hk _ ?_ ((hr1).trans hR13)
          have e9 := hQ13
          have e4 : qWs (qAc (mM Q) (qTo (mM Q) (qN (mM Q)))) (qN (mM Q)) 4 = mM Q 4 := by rw [qWs_lo (by decide) _ (by omega)]; rfl
          rw [mM_sM, e4] at e9
          exact e9
        · have hj := lp_lt (c := qN (mM Q)) (by rw [mM_sM, e0]; exact hw.1) (by omega) h1 c4
          have ht : vp_in (nI j) 12 := nJ_in (by omega) (by decide)
          refine r_aload_n (pc' := 126) h dX5_passes_125 rfl rfl ?_
          refine r_iload (pc' := 128) h dX5_passes_126 rfl rfl ?_
          refine r_iconst (pc' := 129) (v := 3) h dX5_passes_128 rfl (by decide) ?_
          refine r_callV2 (pc' := 132) (M := mX5_t) h hm dX5_passes_129 rfl lX5_57 vX5_t rfl hj1.l0 hj1.o (Nat.le_of_ble_eq_true rfl) (rrb rfl) (kX5_t hj1 (ix_T (w := 3) (ht) (by decide)) ?_)
          show AW X G _ _ _ _ _ _ _ _
          refine r_iconst (pc' := 133) (v := 2) h dX5_passes_132 rfl (by decide) ?_
          refine r_icmp_eq (tgt := 139) (pc' := 136) h dX5_passes_133 (by decide) rfl (fun c5 => ?_) (fun c5 => ?_)
          · have h3 : qT (qWs (qAc (mM Q) (qTo (mM Q) (qN (mM Q)))) j) (nI j) 3 = 2 := c5
            refine r_aload_n (pc' := 140) h dX5_passes_139 rfl rfl ?_
            refine r_iload (pc' := 142) h dX5_passes_140 rfl rfl ?_
            refine r_iconst (pc' := 143) (v := 4) h dX5_passes_142 rfl (by decide) ?_
            refine r_aload_n (pc' := 144) h dX5_passes_143 rfl rfl ?_
            refine r_iload (pc' := 146) h dX5_passes_144 rfl rfl ?_
            refine r_iconst (pc' := 147) (v := 4) h dX5_passes_146 rfl (by decide) ?_
            refine r_callV2 (pc' := 150) (M := mX5_t) h hm dX5_passes_147 rfl lX5_57 vX5_t rfl hj1.l0 hj1.o (Nat.le_of_ble_eq_true rfl) (rrb rfl) (kX5_t hj1 (ix_T (w := 4) (ht) (by decide)) ?_)
            show AW X G _ _ _ _ _ _ _ _
            refine r_iconst (pc' := 151) (v := 1) h dX5_passes_150 rfl (by decide) ?_
            refine r_isub (pc' := 152) h dX5_passes_151 rfl ?_
            refine r_callV3 (pc' := 155) (M := mX5_set) h hm dX5_passes_152 rfl lX5_88 vX5_set rfl hj1.l0 hj1.o (Nat.le_of_ble_eq_true rfl) (rrb rfl) (kX5_set hj1 (ix_T (w := 4) ht (by decide)) (fun S14 hQ14 hR14 => ?_))
            show AW X G _ _ _ _ _ _ _ _
            refine r_aload_n (pc' := 156) h dX5_passes_155 rfl rfl ?_
            refine r_iload (pc' := 158) h dX5_passes_156 rfl rfl ?_
            refine r_iconst (pc' := 159) (v := 3) h dX5_passes_158 rfl (by decide) ?_
            refine r_aload_n (pc' := 160) h dX5_passes_159 rfl rfl ?_
            refine r_iload (pc' := 162) h dX5_passes_160 rfl rfl ?_
            refine r_iconst (pc' := 163) (v := 4) h dX5_passes_162 rfl (by decide) ?_
            refine r_callV2 (pc' := 166) (M := mX5_t) h hm dX5_passes_163 rfl lX5_57 vX5_t rfl hQ14.l0 hQ14.o (Nat.le_of_ble_eq_true rfl) (rrb rfl) (kX5_t hQ14 (ix_T (w := 4) (ht) (by decide)) ?_)
            show AW X G _ _ _ _ _ _ _ _
            refine r_if_ne (tgt := 173) (pc' := 169) h dX5_passes_166 (by decide) rfl (fun c6 => ?_) (fun c6 => ?_)
            · have h6 : ¬ qT (qSet (qWs (qAc (mM Q) (qTo (mM Q) (qN (mM Q)))) j) (nI j) 4 (qT (qWs (qAc (mM Q) (qTo (mM Q) (qN (mM Q)))) j) (nI j) 4 - 1)) (nI j) 4 = 0 := c6
              refine r_iconst (pc' := 174) (v := 2) h dX5_passes_173 rfl (by decide) ?_
              refine r_callV3 (pc' := 177) (M := mX5_set) h hm dX5_passes_174 rfl lX5_88 vX5_set rfl hQ14.l0 hQ14.o (Nat.le_of_ble_eq_true rfl) (rrb rfl) (kX5_set hQ14 (ix_T (w := 3) ht (by decide)) (fun S15 hQ15 hR15 => ?_))
              show AW X G _ _ _ _ _ _ _ _
              refine r_iinc (pc' := 180) (v := 1) h dX5_passes_177 rfl (by decide) (by decide) rfl rfl ?_
              refine r_goto (tgt := 114) h dX5_passes_180 (by decide) ?_
              have hz : isM G N S15 (sMM Q (qWs (qAc (mM Q) (qTo (mM Q) (qN (mM Q)))) (j + 1))) := by rw [qWs, qW1]; rw [if_pos h3]; rw [if_neg h6]; exact hQ15
              exact aw_cast (by simp [nI_1]) (ih (j + 1) (by omega) (by omega) _ hz (((hr1).trans hR14).trans hR15))
            · have h6 : qT (qSet (qWs (qAc (mM Q) (qTo (mM Q) (qN (mM Q)))) j) (nI j) 4 (qT (qWs (qAc (mM Q) (qTo (mM Q) (qN (mM Q)))) j) (nI j) 4 - 1)) (nI j) 4 = 0 := c6
              refine r_iconst (pc' := 170) (v := 0) h dX5_passes_169 rfl (by decide) ?_
              refine r_goto (tgt := 174) h dX5_passes_170 (by decide) ?_
              refine r_callV3 (pc' := 177) (M := mX5_set) h hm dX5_passes_174 rfl lX5_88 vX5_set rfl hQ14.l0 hQ14.o (Nat.le_of_ble_eq_true rfl) (rrb rfl) (kX5_set hQ14 (ix_T (w := 3) ht (by decide)) (fun S16 hQ16 hR16 => ?_))
              show AW X G _ _ _ _ _ _ _ _
              refine r_iinc (pc' := 180) (v := 1) h dX5_passes_177 rfl (by decide) (by decide) rfl rfl ?_
              refine r_goto (tgt := 114) h dX5_passes_180 (by decide) ?_
              have hz : isM G N S16 (sMM Q (qWs (qAc (mM Q) (qTo (mM Q) (qN (mM Q)))) (j + 1))) := by rw [qWs, qW1]; rw [if_pos h3]; rw [if_pos h6]; exact hQ16
              exact aw_cast (by simp [nI_1]) (ih (j + 1) (by omega) (by omega) _ hz (((hr1).trans hR14).trans hR16))
          · have h3 : ¬ qT (qWs (qAc (mM Q) (qTo (mM Q) (qN (mM Q)))) j) (nI j) 3 = 2 := c5
            refine r_goto (tgt := 177) h dX5_passes_136 (by decide) ?_
            refine r_iinc (pc' := 180) (v := 1) h dX5_passes_177 rfl (by decide) (by decide) rfl rfl ?_
            refine r_goto (tgt := 114) h dX5_passes_180 (by decide) ?_
            have hz : isM G N Sj (sMM Q (qWs (qAc (mM Q) (qTo (mM Q) (qN (mM Q)))) (j + 1))) := by rw [qWs, qW1]; rw [if_neg h3]; exact hj1
            exact aw_cast (by simp [nI_1]) (ih (j + 1) (by omega) (by omega) _ hz hr1)
    refine r_sub (lo' := [(0, _), (7, _)]) [0, 7] rfl ?_
    refine loop (qN (mM Q) + 1) 0 (Nat.zero_le _) (by omega) _ ?_ ((((hR9).trans hR10).trans hR11).trans hR12)
    have e9 := hQ12
    show isM G N _ (sMM Q (qAc (mM Q) (qTo (mM Q) (qN (mM Q)))))
    have e8 : qSo (mM Q) (qTo (mM Q) (qN (mM Q))) = qTo (mM Q) (qN (mM Q)) - qTo (mM Q) (qN (mM Q)) / 20 := by rw [qSo]; exact if_neg hif
    have hh' : vp_in (mM Q 4 - mM Q 4 / 24 * 24) 24 := hh
    rw [qAc, e8]
    simp only [mM_sM, qPr_u (k := 5) hh' (by decide), qPr_u (k := 6) hh' (by decide), qPr_u (k := 7) hh' (by decide)] at e9
    exact e9
theorem kX5_passesHours {l : Launch} {G : GX} {N : Nat} {S : Nat → va_E} {K : RK} {Q : MM} (hQ : isM G N S Q) (hw : wM (mM Q)) {t : Nat} (h4 : mM Q 4 = nI t) (ht2 : t < 2 ^ 30) {x : Int32} (hk : ∀ S1, isM G N S1 (qPh Q x).1 → GR S S1 → K (.inl (some (.int (qPh Q x).2))) S1) : RetK l G N mX5_passesHours (8, 185, 0, 0) [.ref (ad G 119), .int x] S K := by
  refine ret_enter (by decide +kernel) (Nat.le_of_ble_eq_true rfl) (fun X hX h hm => ?_)
  subst hX
  replace h : OK X G N cX5_passesHours RX5 4 (8, 185, 0, 0) := h
  replace hm : OKm X G N K (some .int) (8, 185, 0, 0) := hm
  show AW X G 4 N 0 [(0, _), (1, _)] [] S 0 0
  refine r_iload_n (pc' := 1) h dX5_passesHours_0 rfl rfl ?_
  refine r_iconst (pc' := 2) (v := 1) h dX5_passesHours_1 rfl (by decide) ?_
  refine r_bipush (pc' := 4) (v := 48) h dX5_passesHours_2 rfl (by decide) ?_
  refine r_callS3 (pc' := 7) (M := mX5_in) h hm dX5_passesHours_4 rfl lX5_53 vX5_in (Nat.le_of_ble_eq_true rfl) (rrb rfl) (kX5_in ?_)
  show AW X G _ _ _ _ _ _ _ _
  refine r_if_neb (tgt := 12) (pc' := 10) h dX5_passesHours_7 (by decide) rfl (fun c0 => ?_) (fun c0 => ?_)
  · have hin0 := c0
    obtain ⟨k, hk9, rfl⟩ : ∃ k : Nat, k < 49 ∧ x = nI k := vp_in_of (wIn_in1 hin0) (by decide)
    have hwx := hw
    refine r_aload_n (pc' := 13) h dX5_passesHours_12 rfl rfl ?_
    refine gX5_9 (pc' := 16) h dX5_passesHours_13 rfl hQ.l0 hQ.o rfl ?_
    refine r_bipush (pc' := 18) (v := 7) h dX5_passesHours_16 rfl (by decide) ?_
    refine r_ialdk (k0 := 7) (pc' := 19) h dX5_passesHours_18 rfl hQ.l1 hQ.r1 (by unfold vp_in; decide) rfl ?_
    refine r_istoren (j := 2) (pc' := 20) h rfl dX5_passesHours_19 rfl (by decide) rfl ?_
    refine r_iconst (pc' := 21) (v := 0) h dX5_passesHours_20 rfl (by decide) ?_
    refine r_istoren (j := 3) (pc' := 22) h rfl dX5_passesHours_21 rfl (by decide) rfl ?_
    have loop : ∀ (n j : Nat), j ≤ k → k - j < n → ∀ Sj, isM G N Sj (sMM Q (qPas (mM Q) j)) → GR S Sj → AW X G 4 N 22 [(0, .ref (ad G 119)), (1, .int (nI k)), (2, .int (mM Q 7)), (3, .int (nI j))] [] Sj 0 0 := by
      intro n
      induction n with
      | zero => intro j h1 h2; exact absurd h2 (by omega)
      | succ n ih =>
        intro j h1 h2 Sj hj1 hr1
        have hwj : wM (qPas (mM Q) j) := wM_of hwx (qPas_0 hwx j)
        have hhj : vp_in (qHr (qPas (mM Q) j)) 24 := by rw [qHr, qPas_4 j t h4, hr_nI (by omega)]; exact nJ_in (Nat.mod_lt _ (by decide)) (by decide)
        refine r_iload_n (pc' := 23) h dX5_passesHours_22 rfl rfl ?_
        refine r_iload_n (pc' := 24) h dX5_passesHours_23 rfl rfl ?_
        refine r_icmp_ge (tgt := 37) (pc' := 27) h dX5_passesHours_24 (by decide) rfl (fun c1 => ?_) (fun c1 => ?_)
        · have ej := lp_ge (c := k) rfl (by omega) h1 c1
          subst ej
          refine r_aload_n (pc' := 38) h dX5_passesHours_37 rfl rfl ?_
          refine r_aload_n (pc' := 39) h dX5_passesHours_38 rfl rfl ?_
          refine gX5_9 (pc' := 42) h dX5_passesHours_39 rfl hj1.l0 hj1.o rfl ?_
          refine r_bipush (pc' := 44) (v := 7) h dX5_passesHours_42 rfl (by decide) ?_
          refine r_ialdk (k0 := 7) (pc' := 45) h dX5_passesHours_44 rfl hj1.l1 hj1.r1 (by unfold vp_in; decide) rfl ?_
          refine r_iload_n (pc' := 46) h dX5_passesHours_45 rfl rfl ?_
          refine r_isub (pc' := 47) h dX5_passesHours_46 rfl ?_
          refine pX5_37 (pc' := 50) h dX5_passesHours_47 rfl hj1.l0 hj1.o (Nat.le_of_ble_eq_true rfl) ?_
          refine wM4 hj1 (fun S1 hQ1 hR1 => ?_)
          refine r_iconst (pc' := 51) (v := 0) h dX5_passesHours_50 rfl (by decide) ?_
          refine r_ireturn h hm dX5_passesHours_51 (Nat.le_of_ble_eq_true rfl) (Nat.le_of_ble_eq_true rfl) ?_
          refine kM hk hQ1 ((hr1).trans hR1) ?_
          rw [qPh, if_pos hin0, nI_clamp (by omega)]
          rfl
        · have hj := lp_lt (c := k) rfl (by omega) h1 c1
          refine r_aload_n (pc' := 28) h dX5_passesHours_27 rfl rfl ?_
          refine r_callV0 (pc' := 31) (M := mX5_passes) h hm dX5_passesHours_28 rfl lX5_165 vX5_passes rfl hj1.l0 hj1.o (Nat.le_of_ble_eq_true rfl) (rrb rfl) (kX5_passes hj1 (hwj) hhj (fun S2 hQ2 hR2 => ?_))
          show AW X G _ _ _ _ _ _ _ _
          refine r_iinc (pc' := 34) (v := 1) h dX5_passesHours_31 rfl (by decide) (by decide) rfl rfl ?_
          refine r_goto (tgt := 22) h dX5_passesHours_34 (by decide) ?_
          have hz : isM G N S2 (sMM Q (qPas (mM Q) (j + 1))) := by rw [qPas]; exact hQ2
          exact aw_cast (by simp [nI_1]) (ih (j + 1) (by omega) (by omega) _ hz ((hr1).trans hR2))
    exact loop (k + 1) 0 (Nat.zero_le _) (by omega) _ hQ GR.rfl'
  · refine r_iconst (pc' := 11) (v := 2) h dX5_passesHours_10 rfl (by decide) ?_
    refine r_ireturn h hm dX5_passesHours_11 (Nat.le_of_ble_eq_true rfl) (Nat.le_of_ble_eq_true rfl) ?_
    exact kM hk hQ GR.rfl' (by rw [qPh, if_neg (by simp [c0])])
theorem kX5_totalWith {l : Launch} {G : GX} {N : Nat} {S : Nat → va_E} {K : RK} {Q : MM} (hQ : isM G N S Q) (hw : wM (mM Q)) {x y : Int32} (hk : ∀ S1, isM G N S1 Q → GR S S1 → K (.inl (some (.int (qTw (mM Q) x y)))) S1) : RetK l G N mX5_totalWith (7, 158, 0, 0) [.ref (ad G 119), .int x, .int y] S K := by
  refine ret_enter (by decide +kernel) (Nat.le_of_ble_eq_true rfl) (fun X hX h hm => ?_)
  subst hX
  replace h : OK X G N cX5_totalWith RX5 6 (7, 158, 0, 0) := h
  replace hm : OKm X G N K (some .int) (7, 158, 0, 0) := hm
  show AW X G 6 N 0 [(0, _), (1, _), (2, _)] [] S 0 0
  refine r_aload_n (pc' := 1) h dX5_totalWith_0 rfl rfl ?_
  refine gX5_9 (pc' := 4) h dX5_totalWith_1 rfl hQ.l0 hQ.o rfl ?_
  refine r_iconst (pc' := 5) (v := 1) h dX5_totalWith_4 rfl (by decide) ?_
  refine r_ialdk (k0 := 1) (pc' := 6) h dX5_totalWith_5 rfl hQ.l1 hQ.r1 (by unfold vp_in; decide) rfl ?_
  refine r_istoren (j := 3) (pc' := 7) h rfl dX5_totalWith_6 rfl (by decide) rfl ?_
  refine r_aload_n (pc' := 8) h dX5_totalWith_7 rfl rfl ?_
  refine gX5_9 (pc' := 11) h dX5_totalWith_8 rfl hQ.l0 hQ.o rfl ?_
  refine r_iconst (pc' := 12) (v := 2) h dX5_totalWith_11 rfl (by decide) ?_
  refine r_ialdk (k0 := 2) (pc' := 13) h dX5_totalWith_12 rfl hQ.l1 hQ.r1 (by unfold vp_in; decide) rfl ?_
  refine r_istore (pc' := 15) h dX5_totalWith_13 rfl (by decide) rfl ?_
  refine r_aload_n (pc' := 16) h dX5_totalWith_15 rfl rfl ?_
  refine gX5_9 (pc' := 19) h dX5_totalWith_16 rfl hQ.l0 hQ.o rfl ?_
  refine r_iconst (pc' := 20) (v := 1) h dX5_totalWith_19 rfl (by decide) ?_
  refine r_iload_n (pc' := 21) h dX5_totalWith_20 rfl rfl ?_
  refine r_iastk (k0 := 1) (pc' := 22) h dX5_totalWith_21 rfl hQ.l1 hQ.r1 (by unfold vp_in; decide) rfl ?_
  refine wU0 hQ (fun S1 hQ1 hR1 => ?_)
  have hw1 := wM_isU hQ1 hw (by decide)
  refine r_aload_n (pc' := 23) h dX5_totalWith_22 rfl rfl ?_
  refine gX5_9 (pc' := 26) h dX5_totalWith_23 rfl hQ1.l0 hQ1.o rfl ?_
  refine r_iconst (pc' := 27) (v := 2) h dX5_totalWith_26 rfl (by decide) ?_
  refine r_iload_n (pc' := 28) h dX5_totalWith_27 rfl rfl ?_
  refine r_iastk (k0 := 2) (pc' := 29) h dX5_totalWith_28 rfl hQ1.l1 hQ1.r1 (by unfold vp_in; decide) rfl ?_
  refine wU0 hQ1 (fun S2 hQ2 hR2 => ?_)
  have hw2 := wM_isU hQ2 hw1 (by decide)
  refine r_aload_n (pc' := 30) h dX5_totalWith_29 rfl rfl ?_
  refine r_callV0 (pc' := 33) (M := mX5_total) h hm dX5_totalWith_30 rfl lX5_129 vX5_total rfl hQ2.l0 hQ2.o (Nat.le_of_ble_eq_true rfl) (rrb rfl) (kX5_total hQ2 hw2 ?_)
  show AW X G _ _ _ _ _ _ _ _
  refine r_istore (pc' := 35) h dX5_totalWith_33 rfl (by decide) rfl ?_
  refine r_aload_n (pc' := 36) h dX5_totalWith_35 rfl rfl ?_
  refine gX5_9 (pc' := 39) h dX5_totalWith_36 rfl hQ2.l0 hQ2.o rfl ?_
  refine r_iconst (pc' := 40) (v := 1) h dX5_totalWith_39 rfl (by decide) ?_
  refine r_iload_n (pc' := 41) h dX5_totalWith_40 rfl rfl ?_
  refine r_iastk (k0 := 1) (pc' := 42) h dX5_totalWith_41 rfl hQ2.l1 hQ2.r1 (by unfold vp_in; decide) rfl ?_
  refine wU0 hQ2 (fun S3 hQ3 hR3 => ?_)
  have hw3 := wM_isU hQ3 hw2 (by decide)
  refine r_aload_n (pc' := 43) h dX5_totalWith_42 rfl rfl ?_
  refine gX5_9 (pc' := 46) h dX5_totalWith_43 rfl hQ3.l0 hQ3.o rfl ?_
  refine r_iconst (pc' := 47) (v := 2) h dX5_totalWith_46 rfl (by decide) ?_
  refine r_iload (pc' := 49) h dX5_totalWith_47 rfl rfl ?_
  refine r_iastk (k0 := 2) (pc' := 50) h dX5_totalWith_49 rfl hQ3.l1 hQ3.r1 (by unfold vp_in; decide) rfl ?_
  refine wU0 hQ3 (fun S4 hQ4 hR4 => ?_)
  have hw4 := wM_isU hQ4 hw3 (by decide)
  refine r_iload (pc' := 52) h dX5_totalWith_50 rfl rfl ?_
  refine r_ireturn h hm dX5_totalWith_52 (Nat.le_of_ble_eq_true rfl) (Nat.le_of_ble_eq_true rfl) ?_
  exact hk _ ((congrArg (fun f => isM G N S4 (sMM Q f)) (upd_upd_back (mM Q) x y)).mp hQ4) ((((hR1).trans hR2).trans hR3).trans hR4)
theorem kX5_addTurbine {l : Launch} {G : GX} {N : Nat} {S : Nat → va_E} {K : RK} {Q : MM} (hQ : isM G N S Q) (hw : wM (mM Q)) (hc : hC Q) {x y z : Int32} (hk : ∀ S1, isM G N S1 (qCh (qAdd (qB Q) x y z) 1 2 3).1 → GR S S1 → K (.inl (some (.int (qCh (qAdd (qB Q) x y z) 1 2 3).2))) S1) : RetK l G N mX5_addTurbine (3, 71, 0, 0) [.ref (ad G 119), .int x, .int y, .int z] S K := by
  refine ret_enter (by decide +kernel) (Nat.le_of_ble_eq_true rfl) (fun X hX h hm => ?_)
  subst hX
  replace h : OK X G N cX5_addTurbine RX5 4 (3, 71, 0, 0) := h
  replace hm : OKm X G N K (some .int) (3, 71, 0, 0) := hm
  show AW X G 4 N 0 [(0, _), (1, _), (2, _), (3, _)] [] S 0 0
  refine r_aload_n (pc' := 1) h dX5_addTurbine_0 rfl rfl ?_
  refine r_callV0 (pc' := 4) (M := mX5_begins) h hm dX5_addTurbine_1 rfl lX5_92 vX5_begins rfl hQ.l0 hQ.o (Nat.le_of_ble_eq_true rfl) (rrb rfl) (kX5_begins hQ (fun S1 hQ1 hR1 => ?_))
  show AW X G _ _ _ _ _ _ _ _
  refine r_aload_n (pc' := 5) h dX5_addTurbine_4 rfl rfl ?_
  refine r_aload_n (pc' := 6) h dX5_addTurbine_5 rfl rfl ?_
  refine r_iload_n (pc' := 7) h dX5_addTurbine_6 rfl rfl ?_
  refine r_iload_n (pc' := 8) h dX5_addTurbine_7 rfl rfl ?_
  refine r_iload_n (pc' := 9) h dX5_addTurbine_8 rfl rfl ?_
  refine r_callV3 (pc' := 12) (M := mX5_adds) h hm dX5_addTurbine_9 rfl lX5_95 vX5_adds rfl hQ1.l0 hQ1.o (Nat.le_of_ble_eq_true rfl) (rrb rfl) (kX5_adds hQ1 (wM_B hw) (fun S2 hQ2 hR2 => ?_))
  show AW X G _ _ _ _ _ _ _ _
  refine r_iconst (pc' := 13) (v := 1) h dX5_addTurbine_12 rfl (by decide) ?_
  refine r_iconst (pc' := 14) (v := 2) h dX5_addTurbine_13 rfl (by decide) ?_
  refine r_iconst (pc' := 15) (v := 3) h dX5_addTurbine_14 rfl (by decide) ?_
  refine r_callV4 (pc' := 18) (M := mX5_ends) h hm dX5_addTurbine_15 rfl lX5_99 vX5_ends rfl hQ2.l0 hQ2.o (Nat.le_of_ble_eq_true rfl) (rrb rfl) (kX5_ends hQ2 (hC_of hc (qAdd_2 _ _ _ _)) (fun S3 hQ3 hR3 => ?_))
  show AW X G _ _ _ _ _ _ _ _
  refine r_ireturn h hm dX5_addTurbine_18 (Nat.le_of_ble_eq_true rfl) (Nat.le_of_ble_eq_true rfl) ?_
  exact hk _ hQ3 (((hR1).trans hR2).trans hR3)
theorem kX5_fail {l : Launch} {G : GX} {N : Nat} {S : Nat → va_E} {K : RK} {Q : MM} (hQ : isM G N S Q) (hw : wM (mM Q)) (hc : hC Q) {x : Int32} (hk : ∀ S1, isM G N S1 (qCh (qFai (qB Q) x) 1 0 2).1 → GR S S1 → K (.inl (some (.int (qCh (qFai (qB Q) x) 1 0 2).2))) S1) : RetK l G N mX5_fail (3, 66, 0, 0) [.ref (ad G 119), .int x] S K := by
  refine ret_enter (by decide +kernel) (Nat.le_of_ble_eq_true rfl) (fun X hX h hm => ?_)
  subst hX
  replace h : OK X G N cX5_fail RX5 2 (3, 66, 0, 0) := h
  replace hm : OKm X G N K (some .int) (3, 66, 0, 0) := hm
  show AW X G 2 N 0 [(0, _), (1, _)] [] S 0 0
  refine r_aload_n (pc' := 1) h dX5_fail_0 rfl rfl ?_
  refine r_callV0 (pc' := 4) (M := mX5_begins) h hm dX5_fail_1 rfl lX5_92 vX5_begins rfl hQ.l0 hQ.o (Nat.le_of_ble_eq_true rfl) (rrb rfl) (kX5_begins hQ (fun S1 hQ1 hR1 => ?_))
  show AW X G _ _ _ _ _ _ _ _
  refine r_aload_n (pc' := 5) h dX5_fail_4 rfl rfl ?_
  refine r_aload_n (pc' := 6) h dX5_fail_5 rfl rfl ?_
  refine r_iload_n (pc' := 7) h dX5_fail_6 rfl rfl ?_
  refine r_callV1 (pc' := 10) (M := mX5_fails) h hm dX5_fail_7 rfl lX5_110 vX5_fails rfl hQ1.l0 hQ1.o (Nat.le_of_ble_eq_true rfl) (rrb rfl) (kX5_fails hQ1 (wM_B hw) (fun S2 hQ2 hR2 => ?_))
  show AW X G _ _ _ _ _ _ _ _
  refine r_iconst (pc' := 11) (v := 1) h dX5_fail_10 rfl (by decide) ?_
  refine r_iconst (pc' := 12) (v := 0) h dX5_fail_11 rfl (by decide) ?_
  refine r_iconst (pc' := 13) (v := 2) h dX5_fail_12 rfl (by decide) ?_
  refine r_callV4 (pc' := 16) (M := mX5_ends) h hm dX5_fail_13 rfl lX5_99 vX5_ends rfl hQ2.l0 hQ2.o (Nat.le_of_ble_eq_true rfl) (rrb rfl) (kX5_ends hQ2 (hC_of hc (qFai_2 _ _)) (fun S3 hQ3 hR3 => ?_))
  show AW X G _ _ _ _ _ _ _ _
  refine r_ireturn h hm dX5_fail_16 (Nat.le_of_ble_eq_true rfl) (Nat.le_of_ble_eq_true rfl) ?_
  exact hk _ hQ3 (((hR1).trans hR2).trans hR3)
theorem kX5_sendCrew {l : Launch} {G : GX} {N : Nat} {S : Nat → va_E} {K : RK} {Q : MM} (hQ : isM G N S Q) (hw : wM (mM Q)) (hc : hC Q) {x y : Int32} (hk : ∀ S1, isM G N S1 (qCh (qSnd (qB Q) x y) 1 2 3).1 → GR S S1 → K (.inl (some (.int (qCh (qSnd (qB Q) x y) 1 2 3).2))) S1) : RetK l G N mX5_sendCrew (7, 158, 0, 0) [.ref (ad G 119), .int x, .int y] S K := by
  refine ret_enter (by decide +kernel) (Nat.le_of_ble_eq_true rfl) (fun X hX h hm => ?_)
  subst hX
  replace h : OK X G N cX5_sendCrew RX5 3 (7, 158, 0, 0) := h
  replace hm : OKm X G N K (some .int) (7, 158, 0, 0) := hm
  show AW X G 3 N 0 [(0, _), (1, _), (2, _)] [] S 0 0
  refine r_aload_n (pc' := 1) h dX5_sendCrew_0 rfl rfl ?_
  refine r_callV0 (pc' := 4) (M := mX5_begins) h hm dX5_sendCrew_1 rfl lX5_92 vX5_begins rfl hQ.l0 hQ.o (Nat.le_of_ble_eq_true rfl) (rrb rfl) (kX5_begins hQ (fun S1 hQ1 hR1 => ?_))
  show AW X G _ _ _ _ _ _ _ _
  refine r_aload_n (pc' := 5) h dX5_sendCrew_4 rfl rfl ?_
  refine r_aload_n (pc' := 6) h dX5_sendCrew_5 rfl rfl ?_
  refine r_iload_n (pc' := 7) h dX5_sendCrew_6 rfl rfl ?_
  refine r_iload_n (pc' := 8) h dX5_sendCrew_7 rfl rfl ?_
  refine r_callV2 (pc' := 11) (M := mX5_sends) h hm dX5_sendCrew_8 rfl lX5_117 vX5_sends rfl hQ1.l0 hQ1.o (Nat.le_of_ble_eq_true rfl) (rrb rfl) (kX5_sends hQ1 (wM_B hw) (fun S2 hQ2 hR2 => ?_))
  show AW X G _ _ _ _ _ _ _ _
  refine r_iconst (pc' := 12) (v := 1) h dX5_sendCrew_11 rfl (by decide) ?_
  refine r_iconst (pc' := 13) (v := 2) h dX5_sendCrew_12 rfl (by decide) ?_
  refine r_iconst (pc' := 14) (v := 3) h dX5_sendCrew_13 rfl (by decide) ?_
  refine r_callV4 (pc' := 17) (M := mX5_ends) h hm dX5_sendCrew_14 rfl lX5_99 vX5_ends rfl hQ2.l0 hQ2.o (Nat.le_of_ble_eq_true rfl) (rrb rfl) (kX5_ends hQ2 (hC_of hc (qSnd_2 _ _ _)) (fun S3 hQ3 hR3 => ?_))
  show AW X G _ _ _ _ _ _ _ _
  refine r_ireturn h hm dX5_sendCrew_17 (Nat.le_of_ble_eq_true rfl) (Nat.le_of_ble_eq_true rfl) ?_
  exact hk _ hQ3 (((hR1).trans hR2).trans hR3)
theorem kX5_recallCrew {l : Launch} {G : GX} {N : Nat} {S : Nat → va_E} {K : RK} {Q : MM} (hQ : isM G N S Q) (hw : wM (mM Q)) (hc : hC Q) {x : Int32} (hk : ∀ S1, isM G N S1 (qCh (qRcl (qB Q) x) 1 0 2).1 → GR S S1 → K (.inl (some (.int (qCh (qRcl (qB Q) x) 1 0 2).2))) S1) : RetK l G N mX5_recallCrew (7, 157, 0, 0) [.ref (ad G 119), .int x] S K := by
  refine ret_enter (by decide +kernel) (Nat.le_of_ble_eq_true rfl) (fun X hX h hm => ?_)
  subst hX
  replace h : OK X G N cX5_recallCrew RX5 2 (7, 157, 0, 0) := h
  replace hm : OKm X G N K (some .int) (7, 157, 0, 0) := hm
  show AW X G 2 N 0 [(0, _), (1, _)] [] S 0 0
  refine r_aload_n (pc' := 1) h dX5_recallCrew_0 rfl rfl ?_
  refine r_callV0 (pc' := 4) (M := mX5_begins) h hm dX5_recallCrew_1 rfl lX5_92 vX5_begins rfl hQ.l0 hQ.o (Nat.le_of_ble_eq_true rfl) (rrb rfl) (kX5_begins hQ (fun S1 hQ1 hR1 => ?_))
  show AW X G _ _ _ _ _ _ _ _
  refine r_aload_n (pc' := 5) h dX5_recallCrew_4 rfl rfl ?_
  refine r_aload_n (pc' := 6) h dX5_recallCrew_5 rfl rfl ?_
  refine r_iload_n (pc' := 7) h dX5_recallCrew_6 rfl rfl ?_
  refine r_callV1 (pc' := 10) (M := mX5_recalls) h hm dX5_recallCrew_7 rfl lX5_120 vX5_recalls rfl hQ1.l0 hQ1.o (Nat.le_of_ble_eq_true rfl) (rrb rfl) (kX5_recalls hQ1 (wM_B hw) (fun S2 hQ2 hR2 => ?_))
  show AW X G _ _ _ _ _ _ _ _
  refine r_iconst (pc' := 11) (v := 1) h dX5_recallCrew_10 rfl (by decide) ?_
  refine r_iconst (pc' := 12) (v := 0) h dX5_recallCrew_11 rfl (by decide) ?_
  refine r_iconst (pc' := 13) (v := 2) h dX5_recallCrew_12 rfl (by decide) ?_
  refine r_callV4 (pc' := 16) (M := mX5_ends) h hm dX5_recallCrew_13 rfl lX5_99 vX5_ends rfl hQ2.l0 hQ2.o (Nat.le_of_ble_eq_true rfl) (rrb rfl) (kX5_ends hQ2 (hC_of hc (qRcl_2 _ _)) (fun S3 hQ3 hR3 => ?_))
  show AW X G _ _ _ _ _ _ _ _
  refine r_ireturn h hm dX5_recallCrew_16 (Nat.le_of_ble_eq_true rfl) (Nat.le_of_ble_eq_true rfl) ?_
  exact hk _ hQ3 (((hR1).trans hR2).trans hR3)
theorem kX5_curtail {l : Launch} {G : GX} {N : Nat} {S : Nat → va_E} {K : RK} {Q : MM} (hQ : isM G N S Q) (hw : wM (mM Q)) (hc : hC Q) {x y : Int32} (hk : ∀ S1, isM G N S1 (qCh (qCur (qB Q) x y) 1 2 3).1 → GR S S1 → K (.inl (some (.int (qCh (qCur (qB Q) x y) 1 2 3).2))) S1) : RetK l G N mX5_curtail (7, 158, 0, 0) [.ref (ad G 119), .int x, .int y] S K := by
  refine ret_enter (by decide +kernel) (Nat.le_of_ble_eq_true rfl) (fun X hX h hm => ?_)
  subst hX
  replace h : OK X G N cX5_curtail RX5 3 (7, 158, 0, 0) := h
  replace hm : OKm X G N K (some .int) (7, 158, 0, 0) := hm
  show AW X G 3 N 0 [(0, _), (1, _), (2, _)] [] S 0 0
  refine r_aload_n (pc' := 1) h dX5_curtail_0 rfl rfl ?_
  refine r_callV0 (pc' := 4) (M := mX5_begins) h hm dX5_curtail_1 rfl lX5_92 vX5_begins rfl hQ.l0 hQ.o (Nat.le_of_ble_eq_true rfl) (rrb rfl) (kX5_begins hQ (fun S1 hQ1 hR1 => ?_))
  show AW X G _ _ _ _ _ _ _ _
  refine r_aload_n (pc' := 5) h dX5_curtail_4 rfl rfl ?_
  refine r_aload_n (pc' := 6) h dX5_curtail_5 rfl rfl ?_
  refine r_iload_n (pc' := 7) h dX5_curtail_6 rfl rfl ?_
  refine r_iload_n (pc' := 8) h dX5_curtail_7 rfl rfl ?_
  refine r_callV2 (pc' := 11) (M := mX5_curtails) h hm dX5_curtail_8 rfl lX5_123 vX5_curtails rfl hQ1.l0 hQ1.o (Nat.le_of_ble_eq_true rfl) (rrb rfl) (kX5_curtails hQ1 (wM_B hw) (fun S2 hQ2 hR2 => ?_))
  show AW X G _ _ _ _ _ _ _ _
  refine r_iconst (pc' := 12) (v := 1) h dX5_curtail_11 rfl (by decide) ?_
  refine r_iconst (pc' := 13) (v := 2) h dX5_curtail_12 rfl (by decide) ?_
  refine r_iconst (pc' := 14) (v := 3) h dX5_curtail_13 rfl (by decide) ?_
  refine r_callV4 (pc' := 17) (M := mX5_ends) h hm dX5_curtail_14 rfl lX5_99 vX5_ends rfl hQ2.l0 hQ2.o (Nat.le_of_ble_eq_true rfl) (rrb rfl) (kX5_ends hQ2 (hC_of hc (qCur_2 _ _ _)) (fun S3 hQ3 hR3 => ?_))
  show AW X G _ _ _ _ _ _ _ _
  refine r_ireturn h hm dX5_curtail_17 (Nat.le_of_ble_eq_true rfl) (Nat.le_of_ble_eq_true rfl) ?_
  exact hk _ hQ3 (((hR1).trans hR2).trans hR3)
theorem kX5_release {l : Launch} {G : GX} {N : Nat} {S : Nat → va_E} {K : RK} {Q : MM} (hQ : isM G N S Q) (hw : wM (mM Q)) (hc : hC Q) {x : Int32} (hk : ∀ S1, isM G N S1 (qCh (qRel (qB Q) x) 1 0 2).1 → GR S S1 → K (.inl (some (.int (qCh (qRel (qB Q) x) 1 0 2).2))) S1) : RetK l G N mX5_release (7, 157, 0, 0) [.ref (ad G 119), .int x] S K := by
  refine ret_enter (by decide +kernel) (Nat.le_of_ble_eq_true rfl) (fun X hX h hm => ?_)
  subst hX
  replace h : OK X G N cX5_release RX5 2 (7, 157, 0, 0) := h
  replace hm : OKm X G N K (some .int) (7, 157, 0, 0) := hm
  show AW X G 2 N 0 [(0, _), (1, _)] [] S 0 0
  refine r_aload_n (pc' := 1) h dX5_release_0 rfl rfl ?_
  refine r_callV0 (pc' := 4) (M := mX5_begins) h hm dX5_release_1 rfl lX5_92 vX5_begins rfl hQ.l0 hQ.o (Nat.le_of_ble_eq_true rfl) (rrb rfl) (kX5_begins hQ (fun S1 hQ1 hR1 => ?_))
  show AW X G _ _ _ _ _ _ _ _
  refine r_aload_n (pc' := 5) h dX5_release_4 rfl rfl ?_
  refine r_aload_n (pc' := 6) h dX5_release_5 rfl rfl ?_
  refine r_iload_n (pc' := 7) h dX5_release_6 rfl rfl ?_
  refine r_callV1 (pc' := 10) (M := mX5_releases) h hm dX5_release_7 rfl lX5_126 vX5_releases rfl hQ1.l0 hQ1.o (Nat.le_of_ble_eq_true rfl) (rrb rfl) (kX5_releases hQ1 (wM_B hw) (fun S2 hQ2 hR2 => ?_))
  show AW X G _ _ _ _ _ _ _ _
  refine r_iconst (pc' := 11) (v := 1) h dX5_release_10 rfl (by decide) ?_
  refine r_iconst (pc' := 12) (v := 0) h dX5_release_11 rfl (by decide) ?_
  refine r_iconst (pc' := 13) (v := 2) h dX5_release_12 rfl (by decide) ?_
  refine r_callV4 (pc' := 16) (M := mX5_ends) h hm dX5_release_13 rfl lX5_99 vX5_ends rfl hQ2.l0 hQ2.o (Nat.le_of_ble_eq_true rfl) (rrb rfl) (kX5_ends hQ2 (hC_of hc (qRel_2 _ _)) (fun S3 hQ3 hR3 => ?_))
  show AW X G _ _ _ _ _ _ _ _
  refine r_ireturn h hm dX5_release_16 (Nat.le_of_ble_eq_true rfl) (Nat.le_of_ble_eq_true rfl) ?_
  exact hk _ hQ3 (((hR1).trans hR2).trans hR3)
theorem kX5_setGridLimit {l : Launch} {G : GX} {N : Nat} {S : Nat → va_E} {K : RK} {Q : MM} (hQ : isM G N S Q) (hw : wM (mM Q)) (hc : hC Q) {x : Int32} (hk : ∀ S1, isM G N S1 (qCh (qLim (qB Q) x) 0 1 0).1 → GR S S1 → K (.inl (some (.int (qCh (qLim (qB Q) x) 0 1 0).2))) S1) : RetK l G N mX5_setGridLimit (2, 48, 0, 0) [.ref (ad G 119), .int x] S K := by
  refine ret_enter (by decide +kernel) (Nat.le_of_ble_eq_true rfl) (fun X hX h hm => ?_)
  subst hX
  replace h : OK X G N cX5_setGridLimit RX5 2 (2, 48, 0, 0) := h
  replace hm : OKm X G N K (some .int) (2, 48, 0, 0) := hm
  show AW X G 2 N 0 [(0, _), (1, _)] [] S 0 0
  refine r_aload_n (pc' := 1) h dX5_setGridLimit_0 rfl rfl ?_
  refine r_callV0 (pc' := 4) (M := mX5_begins) h hm dX5_setGridLimit_1 rfl lX5_92 vX5_begins rfl hQ.l0 hQ.o (Nat.le_of_ble_eq_true rfl) (rrb rfl) (kX5_begins hQ (fun S1 hQ1 hR1 => ?_))
  show AW X G _ _ _ _ _ _ _ _
  refine r_aload_n (pc' := 5) h dX5_setGridLimit_4 rfl rfl ?_
  refine r_aload_n (pc' := 6) h dX5_setGridLimit_5 rfl rfl ?_
  refine r_iload_n (pc' := 7) h dX5_setGridLimit_6 rfl rfl ?_
  refine r_callV1 (pc' := 10) (M := mX5_limits) h hm dX5_setGridLimit_7 rfl lX5_138 vX5_limits rfl hQ1.l0 hQ1.o (Nat.le_of_ble_eq_true rfl) (rrb rfl) (kX5_limits hQ1 (wM_B hw) (fun S2 hQ2 hR2 => ?_))
  show AW X G _ _ _ _ _ _ _ _
  refine r_iconst (pc' := 11) (v := 0) h dX5_setGridLimit_10 rfl (by decide) ?_
  refine r_iconst (pc' := 12) (v := 1) h dX5_setGridLimit_11 rfl (by decide) ?_
  refine r_iconst (pc' := 13) (v := 0) h dX5_setGridLimit_12 rfl (by decide) ?_
  refine r_callV4 (pc' := 16) (M := mX5_ends) h hm dX5_setGridLimit_13 rfl lX5_99 vX5_ends rfl hQ2.l0 hQ2.o (Nat.le_of_ble_eq_true rfl) (rrb rfl) (kX5_ends hQ2 (hC_of hc (qLim_2 _ _)) (fun S3 hQ3 hR3 => ?_))
  show AW X G _ _ _ _ _ _ _ _
  refine r_ireturn h hm dX5_setGridLimit_16 (Nat.le_of_ble_eq_true rfl) (Nat.le_of_ble_eq_true rfl) ?_
  exact hk _ hQ3 (((hR1).trans hR2).trans hR3)
theorem kX5_dispatch {l : Launch} {G : GX} {N : Nat} {S : Nat → va_E} {K : RK} {Q : MM} (hQ : isM G N S Q) (hw : wM (mM Q)) (hc : hC Q) {d : Nat} (hend : qEx (mM (qDr d (sMI (qB Q) 4 0))) ≤ 0) (hk : ∀ S1, isM G N S1 (qCh (((qDr d (sMI (qB Q) 4 0), (0 : Int32)) : MM × Int32)) 0 0 0).1 → GR S S1 → K (.inl (some (.int (qCh (((qDr d (sMI (qB Q) 4 0), (0 : Int32)) : MM × Int32)) 0 0 0).2))) S1) : RetK l G N mX5_dispatch (8, 181, 0, 0) [.ref (ad G 119)] S K := by
  refine ret_enter (by decide +kernel) (Nat.le_of_ble_eq_true rfl) (fun X hX h hm => ?_)
  subst hX
  replace h : OK X G N cX5_dispatch RX5 1 (8, 181, 0, 0) := h
  replace hm : OKm X G N K (some .int) (8, 181, 0, 0) := hm
  show AW X G 1 N 0 [(0, _)] [] S 0 0
  refine r_aload_n (pc' := 1) h dX5_dispatch_0 rfl rfl ?_
  refine r_callV0 (pc' := 4) (M := mX5_begins) h hm dX5_dispatch_1 rfl lX5_92 vX5_begins rfl hQ.l0 hQ.o (Nat.le_of_ble_eq_true rfl) (rrb rfl) (kX5_begins hQ (fun S1 hQ1 hR1 => ?_))
  show AW X G _ _ _ _ _ _ _ _
  refine r_aload_n (pc' := 5) h dX5_dispatch_4 rfl rfl ?_
  refine r_aload_n (pc' := 6) h dX5_dispatch_5 rfl rfl ?_
  refine r_callV0 (pc' := 9) (M := mX5_dispatches) h hm dX5_dispatch_6 rfl lX5_141 vX5_dispatches rfl hQ1.l0 hQ1.o (Nat.le_of_ble_eq_true rfl) (rrb rfl) (kX5_dispatches hQ1 (wM_B hw) hend (fun S2 hQ2 hR2 => ?_))
  show AW X G _ _ _ _ _ _ _ _
  refine r_iconst (pc' := 10) (v := 0) h dX5_dispatch_9 rfl (by decide) ?_
  refine r_iconst (pc' := 11) (v := 0) h dX5_dispatch_10 rfl (by decide) ?_
  refine r_iconst (pc' := 12) (v := 0) h dX5_dispatch_11 rfl (by decide) ?_
  refine r_callV4 (pc' := 15) (M := mX5_ends) h hm dX5_dispatch_12 rfl lX5_99 vX5_ends rfl hQ2.l0 hQ2.o (Nat.le_of_ble_eq_true rfl) (rrb rfl) (kX5_ends hQ2 (hC_of hc (qDrP_2 _)) (fun S3 hQ3 hR3 => ?_))
  show AW X G _ _ _ _ _ _ _ _
  refine r_ireturn h hm dX5_dispatch_15 (Nat.le_of_ble_eq_true rfl) (Nat.le_of_ble_eq_true rfl) ?_
  exact hk _ hQ3 (((hR1).trans hR2).trans hR3)
theorem kX5_releaseAll {l : Launch} {G : GX} {N : Nat} {S : Nat → va_E} {K : RK} {Q : MM} (hQ : isM G N S Q) (hw : wM (mM Q)) (hc : hC Q) (hk : ∀ S1, isM G N S1 (qCh (((qRa (qB Q) (qN (mM (qB Q))), (0 : Int32)) : MM × Int32)) 0 0 0).1 → GR S S1 → K (.inl (some (.int (qCh (((qRa (qB Q) (qN (mM (qB Q))), (0 : Int32)) : MM × Int32)) 0 0 0).2))) S1) : RetK l G N mX5_releaseAll (2, 48, 0, 0) [.ref (ad G 119)] S K := by
  refine ret_enter (by decide +kernel) (Nat.le_of_ble_eq_true rfl) (fun X hX h hm => ?_)
  subst hX
  replace h : OK X G N cX5_releaseAll RX5 1 (2, 48, 0, 0) := h
  replace hm : OKm X G N K (some .int) (2, 48, 0, 0) := hm
  show AW X G 1 N 0 [(0, _)] [] S 0 0
  refine r_aload_n (pc' := 1) h dX5_releaseAll_0 rfl rfl ?_
  refine r_callV0 (pc' := 4) (M := mX5_begins) h hm dX5_releaseAll_1 rfl lX5_92 vX5_begins rfl hQ.l0 hQ.o (Nat.le_of_ble_eq_true rfl) (rrb rfl) (kX5_begins hQ (fun S1 hQ1 hR1 => ?_))
  show AW X G _ _ _ _ _ _ _ _
  refine r_aload_n (pc' := 5) h dX5_releaseAll_4 rfl rfl ?_
  refine r_aload_n (pc' := 6) h dX5_releaseAll_5 rfl rfl ?_
  refine r_callV0 (pc' := 9) (M := mX5_releasesAll) h hm dX5_releaseAll_6 rfl lX5_144 vX5_releasesAll rfl hQ1.l0 hQ1.o (Nat.le_of_ble_eq_true rfl) (rrb rfl) (kX5_releasesAll hQ1 (wM_B hw) (fun S2 hQ2 hR2 => ?_))
  show AW X G _ _ _ _ _ _ _ _
  refine r_iconst (pc' := 10) (v := 0) h dX5_releaseAll_9 rfl (by decide) ?_
  refine r_iconst (pc' := 11) (v := 0) h dX5_releaseAll_10 rfl (by decide) ?_
  refine r_iconst (pc' := 12) (v := 0) h dX5_releaseAll_11 rfl (by decide) ?_
  refine r_callV4 (pc' := 15) (M := mX5_ends) h hm dX5_releaseAll_12 rfl lX5_99 vX5_ends rfl hQ2.l0 hQ2.o (Nat.le_of_ble_eq_true rfl) (rrb rfl) (kX5_ends hQ2 (hC_of hc (qRaP_2 _)) (fun S3 hQ3 hR3 => ?_))
  show AW X G _ _ _ _ _ _ _ _
  refine r_ireturn h hm dX5_releaseAll_15 (Nat.le_of_ble_eq_true rfl) (Nat.le_of_ble_eq_true rfl) ?_
  exact hk _ hQ3 (((hR1).trans hR2).trans hR3)
theorem kX5_placeBid {l : Launch} {G : GX} {N : Nat} {S : Nat → va_E} {K : RK} {Q : MM} (hQ : isM G N S Q) (hw : wM (mM Q)) (hc : hC Q) {x y z : Int32} (hk : ∀ S1, isM G N S1 (qCh (qPla (qB Q) x y z) 1 2 3).1 → GR S S1 → K (.inl (some (.int (qCh (qPla (qB Q) x y z) 1 2 3).2))) S1) : RetK l G N mX5_placeBid (3, 66, 0, 0) [.ref (ad G 119), .int x, .int y, .int z] S K := by
  refine ret_enter (by decide +kernel) (Nat.le_of_ble_eq_true rfl) (fun X hX h hm => ?_)
  subst hX
  replace h : OK X G N cX5_placeBid RX5 4 (3, 66, 0, 0) := h
  replace hm : OKm X G N K (some .int) (3, 66, 0, 0) := hm
  show AW X G 4 N 0 [(0, _), (1, _), (2, _), (3, _)] [] S 0 0
  refine r_aload_n (pc' := 1) h dX5_placeBid_0 rfl rfl ?_
  refine r_callV0 (pc' := 4) (M := mX5_begins) h hm dX5_placeBid_1 rfl lX5_92 vX5_begins rfl hQ.l0 hQ.o (Nat.le_of_ble_eq_true rfl) (rrb rfl) (kX5_begins hQ (fun S1 hQ1 hR1 => ?_))
  show AW X G _ _ _ _ _ _ _ _
  refine r_aload_n (pc' := 5) h dX5_placeBid_4 rfl rfl ?_
  refine r_aload_n (pc' := 6) h dX5_placeBid_5 rfl rfl ?_
  refine r_iload_n (pc' := 7) h dX5_placeBid_6 rfl rfl ?_
  refine r_iload_n (pc' := 8) h dX5_placeBid_7 rfl rfl ?_
  refine r_iload_n (pc' := 9) h dX5_placeBid_8 rfl rfl ?_
  refine r_callV3 (pc' := 12) (M := mX5_places) h hm dX5_placeBid_9 rfl lX5_156 vX5_places rfl hQ1.l0 hQ1.o (Nat.le_of_ble_eq_true rfl) (rrb rfl) (kX5_places hQ1 (wM_B hw) (fun S2 hQ2 hR2 => ?_))
  show AW X G _ _ _ _ _ _ _ _
  refine r_iconst (pc' := 13) (v := 1) h dX5_placeBid_12 rfl (by decide) ?_
  refine r_iconst (pc' := 14) (v := 2) h dX5_placeBid_13 rfl (by decide) ?_
  refine r_iconst (pc' := 15) (v := 3) h dX5_placeBid_14 rfl (by decide) ?_
  refine r_callV4 (pc' := 18) (M := mX5_ends) h hm dX5_placeBid_15 rfl lX5_99 vX5_ends rfl hQ2.l0 hQ2.o (Nat.le_of_ble_eq_true rfl) (rrb rfl) (kX5_ends hQ2 (hC_of hc (qPla_2 _ _ _ _)) (fun S3 hQ3 hR3 => ?_))
  show AW X G _ _ _ _ _ _ _ _
  refine r_ireturn h hm dX5_placeBid_18 (Nat.le_of_ble_eq_true rfl) (Nat.le_of_ble_eq_true rfl) ?_
  exact hk _ hQ3 (((hR1).trans hR2).trans hR3)
theorem kX5_withdrawBid {l : Launch} {G : GX} {N : Nat} {S : Nat → va_E} {K : RK} {Q : MM} (hQ : isM G N S Q) (hw : wM (mM Q)) (hc : hC Q) {x : Int32} (hk : ∀ S1, isM G N S1 (qCh (qWdr (qB Q) x) 1 0 2).1 → GR S S1 → K (.inl (some (.int (qCh (qWdr (qB Q) x) 1 0 2).2))) S1) : RetK l G N mX5_withdrawBid (3, 64, 0, 0) [.ref (ad G 119), .int x] S K := by
  refine ret_enter (by decide +kernel) (Nat.le_of_ble_eq_true rfl) (fun X hX h hm => ?_)
  subst hX
  replace h : OK X G N cX5_withdrawBid RX5 2 (3, 64, 0, 0) := h
  replace hm : OKm X G N K (some .int) (3, 64, 0, 0) := hm
  show AW X G 2 N 0 [(0, _), (1, _)] [] S 0 0
  refine r_aload_n (pc' := 1) h dX5_withdrawBid_0 rfl rfl ?_
  refine r_callV0 (pc' := 4) (M := mX5_begins) h hm dX5_withdrawBid_1 rfl lX5_92 vX5_begins rfl hQ.l0 hQ.o (Nat.le_of_ble_eq_true rfl) (rrb rfl) (kX5_begins hQ (fun S1 hQ1 hR1 => ?_))
  show AW X G _ _ _ _ _ _ _ _
  refine r_aload_n (pc' := 5) h dX5_withdrawBid_4 rfl rfl ?_
  refine r_aload_n (pc' := 6) h dX5_withdrawBid_5 rfl rfl ?_
  refine r_iload_n (pc' := 7) h dX5_withdrawBid_6 rfl rfl ?_
  refine r_callV1 (pc' := 10) (M := mX5_withdraws) h hm dX5_withdrawBid_7 rfl lX5_162 vX5_withdraws rfl hQ1.l0 hQ1.o (Nat.le_of_ble_eq_true rfl) (rrb rfl) (kX5_withdraws hQ1 (wM_B hw) (fun S2 hQ2 hR2 => ?_))
  show AW X G _ _ _ _ _ _ _ _
  refine r_iconst (pc' := 11) (v := 1) h dX5_withdrawBid_10 rfl (by decide) ?_
  refine r_iconst (pc' := 12) (v := 0) h dX5_withdrawBid_11 rfl (by decide) ?_
  refine r_iconst (pc' := 13) (v := 2) h dX5_withdrawBid_12 rfl (by decide) ?_
  refine r_callV4 (pc' := 16) (M := mX5_ends) h hm dX5_withdrawBid_13 rfl lX5_99 vX5_ends rfl hQ2.l0 hQ2.o (Nat.le_of_ble_eq_true rfl) (rrb rfl) (kX5_ends hQ2 (hC_of hc (qWdr_2 _ _)) (fun S3 hQ3 hR3 => ?_))
  show AW X G _ _ _ _ _ _ _ _
  refine r_ireturn h hm dX5_withdrawBid_16 (Nat.le_of_ble_eq_true rfl) (Nat.le_of_ble_eq_true rfl) ?_
  exact hk _ hQ3 (((hR1).trans hR2).trans hR3)
theorem kX5_passHours {l : Launch} {G : GX} {N : Nat} {S : Nat → va_E} {K : RK} {Q : MM} (hQ : isM G N S Q) (hw : wM (mM Q)) (hc : hC Q) {t : Nat} (h4 : mM Q 4 = nI t) (ht2 : t < 2 ^ 30) {x : Int32} (hk : ∀ S1, isM G N S1 (qCh (qPh (qB Q) x) 0 1 0).1 → GR S S1 → K (.inl (some (.int (qCh (qPh (qB Q) x) 0 1 0).2))) S1) : RetK l G N mX5_passHours (9, 208, 0, 0) [.ref (ad G 119), .int x] S K := by
  refine ret_enter (by decide +kernel) (Nat.le_of_ble_eq_true rfl) (fun X hX h hm => ?_)
  subst hX
  replace h : OK X G N cX5_passHours RX5 2 (9, 208, 0, 0) := h
  replace hm : OKm X G N K (some .int) (9, 208, 0, 0) := hm
  show AW X G 2 N 0 [(0, _), (1, _)] [] S 0 0
  refine r_aload_n (pc' := 1) h dX5_passHours_0 rfl rfl ?_
  refine r_callV0 (pc' := 4) (M := mX5_begins) h hm dX5_passHours_1 rfl lX5_92 vX5_begins rfl hQ.l0 hQ.o (Nat.le_of_ble_eq_true rfl) (rrb rfl) (kX5_begins hQ (fun S1 hQ1 hR1 => ?_))
  show AW X G _ _ _ _ _ _ _ _
  refine r_aload_n (pc' := 5) h dX5_passHours_4 rfl rfl ?_
  refine r_aload_n (pc' := 6) h dX5_passHours_5 rfl rfl ?_
  refine r_iload_n (pc' := 7) h dX5_passHours_6 rfl rfl ?_
  refine r_callV1 (pc' := 10) (M := mX5_passesHours) h hm dX5_passHours_7 rfl lX5_168 vX5_passesHours rfl hQ1.l0 hQ1.o (Nat.le_of_ble_eq_true rfl) (rrb rfl) (kX5_passesHours hQ1 (wM_B hw) h4 ht2 (fun S2 hQ2 hR2 => ?_))
  show AW X G _ _ _ _ _ _ _ _
  refine r_iconst (pc' := 11) (v := 0) h dX5_passHours_10 rfl (by decide) ?_
  refine r_iconst (pc' := 12) (v := 1) h dX5_passHours_11 rfl (by decide) ?_
  refine r_iconst (pc' := 13) (v := 0) h dX5_passHours_12 rfl (by decide) ?_
  refine r_callV4 (pc' := 16) (M := mX5_ends) h hm dX5_passHours_13 rfl lX5_99 vX5_ends rfl hQ2.l0 hQ2.o (Nat.le_of_ble_eq_true rfl) (rrb rfl) (kX5_ends hQ2 (hC_of hc (qPh_2 _ _)) (fun S3 hQ3 hR3 => ?_))
  show AW X G _ _ _ _ _ _ _ _
  refine r_ireturn h hm dX5_passHours_16 (Nat.le_of_ble_eq_true rfl) (Nat.le_of_ble_eq_true rfl) ?_
  exact hk _ hQ3 (((hR1).trans hR2).trans hR3)
theorem kX5_setWind {l : Launch} {G : GX} {N : Nat} {S : Nat → va_E} {K : RK} {Q : MM} (hQ : isM G N S Q) (hw : wM (mM Q)) (hc : hC Q) {x y : Int32} (hk : ∀ S1, isM G N S1 (qCh (qBlo (qB Q) (qWay x) y) 0 1 0).1 → GR S S1 → K (.inl (some (.int (qCh (qBlo (qB Q) (qWay x) y) 0 1 0).2))) S1) : RetK l G N mX5_setWind (8, 180, 0, 0) [.ref (ad G 119), .int x, .int y] S K := by
  refine ret_enter (by decide +kernel) (Nat.le_of_ble_eq_true rfl) (fun X hX h hm => ?_)
  subst hX
  replace h : OK X G N cX5_setWind RX5 3 (8, 180, 0, 0) := h
  replace hm : OKm X G N K (some .int) (8, 180, 0, 0) := hm
  show AW X G 3 N 0 [(0, _), (1, _), (2, _)] [] S 0 0
  refine r_aload_n (pc' := 1) h dX5_setWind_0 rfl rfl ?_
  refine r_callV0 (pc' := 4) (M := mX5_begins) h hm dX5_setWind_1 rfl lX5_92 vX5_begins rfl hQ.l0 hQ.o (Nat.le_of_ble_eq_true rfl) (rrb rfl) (kX5_begins hQ (fun S1 hQ1 hR1 => ?_))
  show AW X G _ _ _ _ _ _ _ _
  refine r_aload_n (pc' := 5) h dX5_setWind_4 rfl rfl ?_
  refine r_aload_n (pc' := 6) h dX5_setWind_5 rfl rfl ?_
  refine r_iload_n (pc' := 7) h dX5_setWind_6 rfl rfl ?_
  refine r_callS1 (pc' := 10) (M := mX5_wayOf) h hm dX5_setWind_7 rfl lX5_132 vX5_wayOf (Nat.le_of_ble_eq_true rfl) (rrb rfl) (kX5_wayOf ?_)
  show AW X G _ _ _ _ _ _ _ _
  refine r_iload_n (pc' := 11) h dX5_setWind_10 rfl rfl ?_
  refine r_callV2 (pc' := 14) (M := mX5_blows) h hm dX5_setWind_11 rfl lX5_135 vX5_blows rfl hQ1.l0 hQ1.o (Nat.le_of_ble_eq_true rfl) (rrb rfl) (kX5_blows hQ1 (wM_B hw) (fun S2 hQ2 hR2 => ?_))
  show AW X G _ _ _ _ _ _ _ _
  refine r_iconst (pc' := 15) (v := 0) h dX5_setWind_14 rfl (by decide) ?_
  refine r_iconst (pc' := 16) (v := 1) h dX5_setWind_15 rfl (by decide) ?_
  refine r_iconst (pc' := 17) (v := 0) h dX5_setWind_16 rfl (by decide) ?_
  refine r_callV4 (pc' := 20) (M := mX5_ends) h hm dX5_setWind_17 rfl lX5_99 vX5_ends rfl hQ2.l0 hQ2.o (Nat.le_of_ble_eq_true rfl) (rrb rfl) (kX5_ends hQ2 (hC_of hc (qBlo_2 _ _ _)) (fun S3 hQ3 hR3 => ?_))
  show AW X G _ _ _ _ _ _ _ _
  refine r_ireturn h hm dX5_setWind_20 (Nat.le_of_ble_eq_true rfl) (Nat.le_of_ble_eq_true rfl) ?_
  exact hk _ hQ3 (((hR1).trans hR2).trans hR3)
