/-! BOTH SIDES OF EACH CALL: changes. -/
theorem ju_102a (F : FM) (a b c : Int32) : ¬ jud F 102 a b c = -2 := by
  show ¬ (if hasT F a then (if inSt F a 1 then 0 else 3) else -1 : Int32) = -2
  split
  · split <;> decide
  · decide
theorem ju_114a (F : FM) (a b c : Int32) : ¬ jud F 114 a b c = -2 := by
  show ¬ (if hasT F a then (if inSt F a 3 then 0 else 6) else -1 : Int32) = -2
  split
  · split <;> decide
  · decide
theorem ju_117a (F : FM) (a b c : Int32) : ¬ jud F 117 a b c = -2 := by
  show ¬ (if hasT F a then (if inSt F a 1 then (if curt F a then 0 else 7) else 3) else -1 : Int32) = -2
  split
  · split
    · split <;> decide
    · decide
  · decide
theorem ju_113a (F : FM) (a b c : Int32) : ¬ jud F 113 a b c = -2 := by
  show ¬ (if isHour' a then (if bidF F a then 0 else 9) else -1 : Int32) = -2
  split
  · split <;> decide
  · decide
theorem ju_119i (F : FM) (a b c : Int32) : ¬ jud F 119 a b c = -1 := by
  show ¬ (if isWind' a b then 0 else -2 : Int32) = -1
  split <;> decide
theorem ju_119u (F : FM) (a b c : Int32) (e0 : ¬ jud F 119 a b c = 0) (e1 : ¬ jud F 119 a b c = -1) (e2 : ¬ jud F 119 a b c = -2) : False := by
  have e0 : ¬ (if isWind' a b then 0 else -2 : Int32) = 0 := e0
  have e2 : ¬ (if isWind' a b then 0 else -2 : Int32) = -2 := e2
  split at e0
  · exact e0 rfl
  · rename_i z
    rw [if_neg z] at e2
    exact e2 rfl
theorem ju_103i (F : FM) (a b c : Int32) : ¬ jud F 103 a b c = -1 := by
  show ¬ (if wIn a 0 999 then 0 else -2 : Int32) = -1
  split <;> decide
theorem ju_103u (F : FM) (a b c : Int32) (e0 : ¬ jud F 103 a b c = 0) (e1 : ¬ jud F 103 a b c = -1) (e2 : ¬ jud F 103 a b c = -2) : False := by
  have e0 : ¬ (if wIn a 0 999 then 0 else -2 : Int32) = 0 := e0
  have e2 : ¬ (if wIn a 0 999 then 0 else -2 : Int32) = -2 := e2
  split at e0
  · exact e0 rfl
  · rename_i z
    rw [if_neg z] at e2
    exact e2 rfl
theorem ju_116i (F : FM) (a b c : Int32) : ¬ jud F 116 a b c = -1 := by
  show ¬ (if wIn a 1 48 then 0 else -2 : Int32) = -1
  split <;> decide
theorem ju_116u (F : FM) (a b c : Int32) (e0 : ¬ jud F 116 a b c = 0) (e1 : ¬ jud F 116 a b c = -1) (e2 : ¬ jud F 116 a b c = -2) : False := by
  have e0 : ¬ (if wIn a 1 48 then 0 else -2 : Int32) = 0 := e0
  have e2 : ¬ (if wIn a 1 48 then 0 else -2 : Int32) = -2 := e2
  split at e0
  · exact e0 rfl
  · rename_i z
    rw [if_neg z] at e2
    exact e2 rfl
theorem ju_100i (F : FM) (a b c : Int32) : ¬ jud F 100 a b c = -1 := by show ¬ (0 : Int32) = -1; decide
theorem ju_100a (F : FM) (a b c : Int32) : ¬ jud F 100 a b c = -2 := by show ¬ (0 : Int32) = -2; decide
theorem ju_100u (F : FM) (a b c : Int32) (e0 : ¬ jud F 100 a b c = 0) (e1 : ¬ jud F 100 a b c = -1) (e2 : ¬ jud F 100 a b c = -2) : False := e0 rfl
theorem ju_118i (F : FM) (a b c : Int32) : ¬ jud F 118 a b c = -1 := by show ¬ (0 : Int32) = -1; decide
theorem ju_118a (F : FM) (a b c : Int32) : ¬ jud F 118 a b c = -2 := by show ¬ (0 : Int32) = -2; decide
theorem ju_118u (F : FM) (a b c : Int32) (e0 : ¬ jud F 118 a b c = 0) (e1 : ¬ jud F 118 a b c = -1) (e2 : ¬ jud F 118 a b c = -2) : False := e0 rfl
section CHA
variable {B q : Nat} {D : DM} {Q : MM}
theorem qB_ok (h : Rel B q D Q) : okM B (mM (qB Q)) := okM_congr (fun i hi => cp_lo (mM Q) 0 (by decide) hi) h.2.1.1
theorem qB_eq (h : Rel B q D Q) : eqF (dF D 0) (mM (qB Q)) := eqF_congr (fun i hi => cp_lo (mM Q) 0 (by decide) hi) h.2.1.1 h.2.1.2
theorem chg_add (h : Rel B q D Q) (a b c : Int32) : Rel (B + 48) q (zCh D 97 a b c).2 (qCh (qAdd (qB Q) a b c) 1 2 3).1 ∧ agr [eI, eA, eU] (zCh D 97 a b c).1 (mI (qCh (qAdd (qB Q) a b c) 1 2 3).1 0) (qCh (qAdd (qB Q) a b c) 1 2 3).2 := by
  refine ch_rel (ns := [eI, eA, eU]) h (st_add (B := B + 48) (qB_ok (h.mono (Nat.le_add_right B 48))) (qB_eq h) a b c) (fun e => ?_) (fun e => ?_) (fun e0 e1 e2 => ?_)
  · exact ⟨0, by decide, rfl, by decide⟩
  · exact ⟨1, by decide, rfl, by decide⟩
  · exact ⟨2, by decide, rfl, by decide⟩
theorem chg_fail (h : Rel B q D Q) (a : Int32) : Rel (B + 48) q (zCh D 102 a 0 0).2 (qCh (qFai (qB Q) a) 1 0 2).1 ∧ agr [eI, eU] (zCh D 102 a 0 0).1 (mI (qCh (qFai (qB Q) a) 1 0 2).1 0) (qCh (qFai (qB Q) a) 1 0 2).2 := by
  refine ch_rel (ns := [eI, eU]) h (st_fail (B := B + 48) (qB_ok (h.mono (Nat.le_add_right B 48))) (qB_eq h) a 0 0) (fun e => ?_) (fun e => ?_) (fun e0 e1 e2 => ?_)
  · exact ⟨0, by decide, rfl, by decide⟩
  · exact absurd e (ju_102a _ _ _ _)
  · exact ⟨1, by decide, rfl, by decide⟩
theorem chg_send (h : Rel B q D Q) (a b : Int32) : Rel (B + 48) q (zCh D 115 a b 0).2 (qCh (qSnd (qB Q) a b) 1 2 3).1 ∧ agr [eI, eA, eU] (zCh D 115 a b 0).1 (mI (qCh (qSnd (qB Q) a b) 1 2 3).1 0) (qCh (qSnd (qB Q) a b) 1 2 3).2 := by
  refine ch_rel (ns := [eI, eA, eU]) h (st_send (B := B + 48) (qB_ok (h.mono (Nat.le_add_right B 48))) (qB_eq h) a b 0) (fun e => ?_) (fun e => ?_) (fun e0 e1 e2 => ?_)
  · exact ⟨0, by decide, rfl, by decide⟩
  · exact ⟨1, by decide, rfl, by decide⟩
  · exact ⟨2, by decide, rfl, by decide⟩
theorem chg_recall (h : Rel B q D Q) (a : Int32) : Rel (B + 48) q (zCh D 114 a 0 0).2 (qCh (qRcl (qB Q) a) 1 0 2).1 ∧ agr [eI, eU] (zCh D 114 a 0 0).1 (mI (qCh (qRcl (qB Q) a) 1 0 2).1 0) (qCh (qRcl (qB Q) a) 1 0 2).2 := by
  refine ch_rel (ns := [eI, eU]) h (st_recall (B := B + 48) (qB_ok (h.mono (Nat.le_add_right B 48))) (qB_eq h) a 0 0) (fun e => ?_) (fun e => ?_) (fun e0 e1 e2 => ?_)
  · exact ⟨0, by decide, rfl, by decide⟩
  · exact absurd e (ju_114a _ _ _ _)
  · exact ⟨1, by decide, rfl, by decide⟩
theorem chg_curtail (h : Rel B q D Q) (a b : Int32) : Rel (B + 48) q (zCh D 99 a b 0).2 (qCh (qCur (qB Q) a b) 1 2 3).1 ∧ agr [eI, eA, eU] (zCh D 99 a b 0).1 (mI (qCh (qCur (qB Q) a b) 1 2 3).1 0) (qCh (qCur (qB Q) a b) 1 2 3).2 := by
  refine ch_rel (ns := [eI, eA, eU]) h (st_curtail (B := B + 48) (qB_ok (h.mono (Nat.le_add_right B 48))) (qB_eq h) a b 0) (fun e => ?_) (fun e => ?_) (fun e0 e1 e2 => ?_)
  · exact ⟨0, by decide, rfl, by decide⟩
  · exact ⟨1, by decide, rfl, by decide⟩
  · exact ⟨2, by decide, rfl, by decide⟩
theorem chg_release (h : Rel B q D Q) (a : Int32) : Rel (B + 48) q (zCh D 117 a 0 0).2 (qCh (qRel (qB Q) a) 1 0 2).1 ∧ agr [eI, eU] (zCh D 117 a 0 0).1 (mI (qCh (qRel (qB Q) a) 1 0 2).1 0) (qCh (qRel (qB Q) a) 1 0 2).2 := by
  refine ch_rel (ns := [eI, eU]) h (st_release (B := B + 48) (qB_ok (h.mono (Nat.le_add_right B 48))) (qB_eq h) a 0 0) (fun e => ?_) (fun e => ?_) (fun e0 e1 e2 => ?_)
  · exact ⟨0, by decide, rfl, by decide⟩
  · exact absurd e (ju_117a _ _ _ _)
  · exact ⟨1, by decide, rfl, by decide⟩
theorem chg_wind (h : Rel B q D Q) (a b : Int32) : Rel (B + 48) q (zCh D 119 a b 0).2 (qCh (qBlo (qB Q) (qWay a) b) 0 1 0).1 ∧ agr [eA] (zCh D 119 a b 0).1 (mI (qCh (qBlo (qB Q) (qWay a) b) 0 1 0).1 0) (qCh (qBlo (qB Q) (qWay a) b) 0 1 0).2 := by
  refine ch_rel (ns := [eA]) h (st_wind (B := B + 48) (qB_ok (h.mono (Nat.le_add_right B 48))) (qB_eq h) a b 0) (fun e => ?_) (fun e => ?_) (fun e0 e1 e2 => ?_)
  · exact absurd e (ju_119i _ _ _ _)
  · exact ⟨0, by decide, rfl, by decide⟩
  · exact (ju_119u _ _ _ _ e0 e1 e2).elim
theorem chg_grid (h : Rel B q D Q) (a : Int32) : Rel (B + 48) q (zCh D 103 a 0 0).2 (qCh (qLim (qB Q) a) 0 1 0).1 ∧ agr [eA] (zCh D 103 a 0 0).1 (mI (qCh (qLim (qB Q) a) 0 1 0).1 0) (qCh (qLim (qB Q) a) 0 1 0).2 := by
  refine ch_rel (ns := [eA]) h (st_grid (B := B + 48) (qB_ok (h.mono (Nat.le_add_right B 48))) (qB_eq h) a 0 0) (fun e => ?_) (fun e => ?_) (fun e0 e1 e2 => ?_)
  · exact absurd e (ju_103i _ _ _ _)
  · exact ⟨0, by decide, rfl, by decide⟩
  · exact (ju_103u _ _ _ _ e0 e1 e2).elim
theorem chg_disp (h : Rel B q D Q) : Rel (B + 48) q (zCh D 100 0 0 0).2 (qCh (((qDr 12 (sMI (qB Q) 4 0), (0 : Int32)) : MM × Int32)) 0 0 0).1 ∧ agr [] (zCh D 100 0 0 0).1 (mI (qCh (((qDr 12 (sMI (qB Q) 4 0), (0 : Int32)) : MM × Int32)) 0 0 0).1 0) (qCh (((qDr 12 (sMI (qB Q) 4 0), (0 : Int32)) : MM × Int32)) 0 0 0).2 := by
  refine ch_rel (ns := []) h (st_disp (B := B + 48) (qB_ok (h.mono (Nat.le_add_right B 48))) (qB_eq h) 0 0 0) (fun e => ?_) (fun e => ?_) (fun e0 e1 e2 => ?_)
  · exact absurd e (ju_100i _ _ _ _)
  · exact absurd e (ju_100a _ _ _ _)
  · exact (ju_100u _ _ _ _ e0 e1 e2).elim
theorem chg_relall (h : Rel B q D Q) : Rel (B + 48) q (zCh D 118 0 0 0).2 (qCh (((qRa (qB Q) (qN (mM (qB Q))), (0 : Int32)) : MM × Int32)) 0 0 0).1 ∧ agr [] (zCh D 118 0 0 0).1 (mI (qCh (((qRa (qB Q) (qN (mM (qB Q))), (0 : Int32)) : MM × Int32)) 0 0 0).1 0) (qCh (((qRa (qB Q) (qN (mM (qB Q))), (0 : Int32)) : MM × Int32)) 0 0 0).2 := by
  refine ch_rel (ns := []) h (st_relall (B := B + 48) (qB_ok (h.mono (Nat.le_add_right B 48))) (qB_eq h) 0 0 0) (fun e => ?_) (fun e => ?_) (fun e0 e1 e2 => ?_)
  · exact absurd e (ju_118i _ _ _ _)
  · exact absurd e (ju_118a _ _ _ _)
  · exact (ju_118u _ _ _ _ e0 e1 e2).elim
theorem chg_bid (h : Rel B q D Q) (a b c : Int32) : Rel (B + 48) q (zCh D 98 a b c).2 (qCh (qPla (qB Q) a b c) 1 2 3).1 ∧ agr [eI, eA, eU] (zCh D 98 a b c).1 (mI (qCh (qPla (qB Q) a b c) 1 2 3).1 0) (qCh (qPla (qB Q) a b c) 1 2 3).2 := by
  refine ch_rel (ns := [eI, eA, eU]) h (st_bid (B := B + 48) (qB_ok (h.mono (Nat.le_add_right B 48))) (qB_eq h) a b c) (fun e => ?_) (fun e => ?_) (fun e0 e1 e2 => ?_)
  · exact ⟨0, by decide, rfl, by decide⟩
  · exact ⟨1, by decide, rfl, by decide⟩
  · exact ⟨2, by decide, rfl, by decide⟩
theorem chg_unbid (h : Rel B q D Q) (a : Int32) : Rel (B + 48) q (zCh D 113 a 0 0).2 (qCh (qWdr (qB Q) a) 1 0 2).1 ∧ agr [eI, eU] (zCh D 113 a 0 0).1 (mI (qCh (qWdr (qB Q) a) 1 0 2).1 0) (qCh (qWdr (qB Q) a) 1 0 2).2 := by
  refine ch_rel (ns := [eI, eU]) h (st_unbid (B := B + 48) (qB_ok (h.mono (Nat.le_add_right B 48))) (qB_eq h) a 0 0) (fun e => ?_) (fun e => ?_) (fun e0 e1 e2 => ?_)
  · exact ⟨0, by decide, rfl, by decide⟩
  · exact absurd e (ju_113a _ _ _ _)
  · exact ⟨1, by decide, rfl, by decide⟩
theorem chg_hours (h : Rel B q D Q) (hB : B + 48 ≤ 80000) (a : Int32) : Rel (B + 48) q (zCh D 116 a 0 0).2 (qCh (qPh (qB Q) a) 0 1 0).1 ∧ agr [eA] (zCh D 116 a 0 0).1 (mI (qCh (qPh (qB Q) a) 0 1 0).1 0) (qCh (qPh (qB Q) a) 0 1 0).2 := by
  refine ch_rel (ns := [eA]) h (st_hours (qB_ok h) (qB_eq h) hB a 0 0) (fun e => ?_) (fun e => ?_) (fun e0 e1 e2 => ?_)
  · exact absurd e (ju_116i _ _ _ _)
  · exact ⟨0, by decide, rfl, by decide⟩
  · exact (ju_116u _ _ _ _ e0 e1 e2).elim
end CHA
/-! answers without a throw -/
section DIR
variable {B q : Nat} {D : DM} {Q : MM}
theorem dr_count (h : Rel B q D Q) : fI (dF D 0) 0 = mM Q 0 := h.2.1.2.1.1
theorem dr_crews (h : Rel B q D Q) : crews (dF D 0) = 2 - qIS (mM Q) 2 (qN (mM Q)) := crews_eq h.2.1.1 h.2.1.2.1
theorem dr_dir (h : Rel B q D Q) : fI (dF D 0) 1 = qSgn (mM Q 1) := h.2.1.2.2.1
theorem dr_speed (h : Rel B q D Q) : fI (dF D 0) 2 = mM Q 2 := h.2.1.2.2.2.1
theorem dr_fac (h : Rel B q D Q) : fac' (fI (dF D 0) 2) = qFac (mM Q 2) := by
  obtain ⟨s, h1, h2⟩ := h.2.1.1.2.2.2.2.2.1
  rw [dr_speed h, h2]
  exact fac_eq s h1
theorem dr_total (h : Rel B q D Q) : sumI (dF D 0) (fI (dF D 0) 1) (fI (dF D 0) 2) (fN (dF D 0)) = qTo (mM Q) (qN (mM Q)) := by
  rw [fN_eq h.2.1.2.1]
  obtain ⟨a, b⟩ := sum_cur h.2.1.1 h.2.1.2 (qN (mM Q)) (Nat.le_refl _)
  exact a.trans b.symm
theorem dr_lines (h : Rel B q D Q) : bSum (dF D 0) (lCnt (dF D 0)) = qTo (mM Q) (qN (mM Q)) := (lines_eq h.2.1.1 h.2.1.2).trans (sum_cur h.2.1.1 h.2.1.2 (qN (mM Q)) (Nat.le_refl _)).2.symm
theorem dr_best (h : Rel B q D Q) : (zBd (dF D 0) 4).1 = qSgn (qBD (mM Q) 3) := bd_cur h.2.1.1 h.2.1.2
theorem dr_grid (h : Rel B q D Q) : fI (dF D 0) 3 = mM Q 3 := h.2.1.2.2.2.2.1
theorem dr_time (h : Rel B q D Q) : fI (dF D 0) 4 = mM Q 4 := h.2.1.2.2.2.2.2.1
theorem dr_acc (h : Rel B q D Q) : eqA (dF D 0) (mM Q) := h.2.1.2.2.2.2.2.2.2.2.1
theorem dr_con (h : Rel B q D Q) (hB : B ≤ 80000) : b2i (zCon (dF D 0)) = 1 := by rw [con_eq h.2.1.1 h.2.1.2 hB]; rfl
theorem dr_ch (h : Rel B q D Q) : isCh (fI (dF D 0) 1) := by rw [dr_dir h]; exact isCh_sgn _
theorem dr_wF (h : Rel B q D Q) : wF (dF D 0) := wF_of h.w h.2.1.2.1
/-! numbers with a point -/
theorem dr_n (h : Rel B q D Q) : ∃ n, n ≤ 12 ∧ fI (dF D 0) 0 = nI n ∧ mM Q 0 = nI n ∧ qN (mM Q) = n := ⟨qN (mM Q), h.w.2, (dr_count h).trans h.w.1, h.w.1, rfl⟩
theorem dr_tot (h : Rel B q D Q) : ∃ t, t ≤ 1080 ∧ sumI (dF D 0) (fI (dF D 0) 1) (fI (dF D 0) 2) (fN (dF D 0)) = nI t ∧ qTo (mM Q) (qN (mM Q)) = nI t := by
  refine ⟨tot (mM Q) (qN (mM Q)), tot_cur h.2.1.1 h.2.1.2, ?_, (sum_cur h.2.1.1 h.2.1.2 (qN (mM Q)) (Nat.le_refl _)).2⟩
  rw [dr_total h]
  exact (sum_cur h.2.1.1 h.2.1.2 (qN (mM Q)) (Nat.le_refl _)).2
theorem dr_run (h : Rel B q D Q) : ∃ t, t ≤ 12 ∧ cSt (dF D 0) 1 (fN (dF D 0)) = nI t ∧ qIS (mM Q) 0 (qN (mM Q)) = nI t := by
  refine ⟨cnt (mM Q) 0 (qN (mM Q)), ?_, ?_, qIS_cnt (mM Q) 0 _ h.w.2⟩
  · exact Nat.le_trans (cnt_le _ _ _) h.w.2
  · rw [fN_eq h.2.1.2.1]
    exact cSt_eq h.2.1.1 h.2.1.2.1 (s := 0) (by decide) _ (Nat.le_refl _)
theorem agr_nil {o : RO} {k v : Int32} (h : agr [] o k v) : o = .inl (some (.int v)) := by
  rcases h with ⟨e, -⟩ | ⟨i, E, e, -⟩
  · exact e
  · cases e
theorem dr_tbo (h : Rel B q D Q) (x : Int32) : Rel B q D (qTP Q x 0 (qN (mM Q))).1 ∧ agr [eN] (zTP (dF D 0) x 0 (fN (dF D 0))) (mI (qTP Q x 0 (qN (mM Q))).1 0) (qTP Q x 0 (qN (mM Q))).2 := by
  rw [fN_eq h.2.1.2.1]
  exact h.rd (rd_tbo h.2.1.1 h.2.1.2 x (qN (mM Q)) 0 (by omega))
theorem fp_g : ∀ n, n < 13 → ∀ x, x < 13 → (¬ n = 0) → (FP.f2d (FP.fdiv (FP.i2f (nI x)) (FP.i2f (nI n))) &&& 0x7fffffffffffffff ≤ 0x7ff0000000000000) ∧ FP.dcmp (FP.f2d (FP.fdiv (FP.i2f (nI x)) (FP.i2f (nI n)))) (FP.f2d (FP.fdiv (FP.i2f (nI x)) (FP.i2f (nI n)))) = some .eq := by decide +kernel
end DIR
