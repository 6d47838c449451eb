/-! dispatch; the release of all -/
section STEP3
variable {B : Nat} {F : FM} {M : Nat → Int32}
theorem run_congr {M' : Nat → Int32} (hw : wM M) (h0 : M' 0 = M 0) (h : ∀ i, i < qN M → ∀ k, k < 5 → tv M' i k = tv M i k) (r c : Int32) : runAt M' r c = runAt M r c := by
  have h12 := hw.2
  have hq : qIn M' r c = qIn M r c := qIn_congr hw h0 (fun i hi => ⟨h i hi 0 (by decide), h i hi 1 (by decide)⟩) r c
  unfold runAt
  rw [hq]
  rcases qIn_spec hw r c with ⟨i, a1, a2, a3, a4⟩ | ⟨a1, a2⟩
  · rw [a4, qT3 (by omega), qT3 (by omega), h i a1 3 (by decide)]
  · rw [a2, if_pos m1_neg, if_pos m1_neg]
theorem av_congr {M' : Nat → Int32} (hw : wM M) (h0 : M' 0 = M 0) (h1 : M' 1 = M 1) (h2 : M' 2 = M 2) (h : ∀ i, i < qN M → ∀ k, k < 5 → tv M' i k = tv M i k) {j : Nat} (hj : j < qN M) : qAv M' (nI j) = qAv M (nI j) := by
  have h12 := hw.2
  have hd : ∀ f, qDn M' f = qDn M f := fun f => by unfold qDn; rw [h1]
  have hg : ∀ f, qRt M' f = qRt M f := fun f => by unfold qRt; rw [h1]
  have hl : qLo M' (nI j) = qLo M (nI j) := by
    unfold qLo
    rw [qWk_run, qWk_run, qWk_run, qWk_run, run_congr hw h0 h, run_congr hw h0 h, hd, hd, hg, hg, qT0 (by omega), qT1 (by omega), qT0 (by omega), qT1 (by omega), h j hj 0 (by decide), h j hj 1 (by decide)]
  unfold qAv
  rw [hl, h2, qT3 (by omega), qT2 (by omega), qT3 (by omega), qT2 (by omega), h j hj 3 (by decide), h j hj 2 (by decide)]
theorem av_rng (hM : okM B M) (hF : eqP F M) {j : Nat} (hj : j < qN M) : ∃ v, v ≤ 90 ∧ qAv M (nI j) = nI v := by
  have h12 := hM.1.2
  have ht := hM.2.1 j hj
  obtain ⟨s, hs, h2⟩ := hM.2.2.2.2.2.1
  obtain ⟨a, b, -, hq⟩ := los_eq hM hF hj hM.2.2.2.2.1.2
  have hq := hq M rfl hM.2.2.2.2.1.1 (fun _ _ _ _ => rfl)
  have hr := pow_rng s hs a b (tn M j 2) (by have := ht.2.2.2.2.1; omega)
  unfold qAv
  rw [hq, h2, qT3 (by omega), qT2 (by omega), ht.1 2 (by decide)]
  by_cases z : tv M j 3 = 0
  · rw [if_pos z]
    exact ⟨_, hr.2, hr.1⟩
  · rw [if_neg z]
    exact ⟨0, by omega, rfl⟩
/-- a new limit below the output is the output -/
theorem out_set (hM : okM B M) (hF : eqF F M) {b x : Nat} (hb : b < qN M) (hx : x < oN M b) : oN (qSet M (nI b) 5 (nI (x + 1))) b = x ∧ ∀ j, j < qN M → j ≠ b → oN (qSet M (nI b) 5 (nI (x + 1))) j = oN M j := by
  have h12 := hM.1.2
  have hb12 : b < 12 := by omega
  have hav : ∀ j, j < qN M → qAv (qSet M (nI b) 5 (nI (x + 1))) (nI j) = qAv M (nI j) := fun j hj => av_congr hM.1 (lo_s5 _ hb12 (by decide)) (lo_s5 _ hb12 (by decide)) (lo_s5 _ hb12 (by decide)) (fun i hi k hk => by rw [tv_s5 _ hb12 (by omega), if_neg (by omega)]) hj
  constructor
  · obtain ⟨v, v1, v2⟩ := av_rng hM hF.1 hb
    obtain ⟨o1, o2, o3, -⟩ := out_oN hM hF hb
    have hov : oN M b ≤ v := by
      unfold qOu at o3
      rw [v2] at o3
      by_cases z : qT M (nI b) 5 - 1 < 0
      · rw [if_pos z] at o3
        exact Nat.le_of_eq (nI_inj3 (by omega) (by omega) o3).symm
      · rw [if_neg z] at o3
        by_cases y : nI v ≤ qT M (nI b) 5 - 1
        · rw [if_pos y] at o3
          exact Nat.le_of_eq (nI_inj3 (by omega) (by omega) o3).symm
        · rw [if_neg y] at o3
          rw [o3] at y
          rcases Nat.lt_or_ge v (oN M b) with q | q
          · exact absurd (nI_le (by omega) (by omega)) y
          · exact q
    refine oN_of (by omega) ?_
    unfold qOu
    have h5 : tv (qSet M (nI b) 5 (nI (x + 1))) b 5 = nI (x + 1) := by
      rw [tv_s5 _ hb12 (by decide)]
      exact if_pos ⟨rfl, rfl⟩
    rw [hav b hb, v2, qT5 hb12, h5, nI_pred, if_neg (nI_pos (by omega)), if_neg (nI_ge (by omega) (by omega))]
  · intro j hj hne
    have h5 : tv (qSet M (nI b) 5 (nI (x + 1))) j 5 = tv M j 5 := by
      rw [tv_s5 _ hb12 (by decide)]
      exact if_neg (fun z => hne z.1)
    unfold oN qOu
    rw [hav j hj, qT5 (by omega), qT5 (by omega), h5]
theorem tot_upd {M' : Nat → Int32} {b : Nat} : ∀ n, b < n → (∀ j, j < n → j ≠ b → oN M' j = oN M j) → tot M' n + oN M b = tot M n + oN M' b
  | 0, h, _ => absurd h (by omega)
  | n + 1, h, hT => by
    unfold tot
    by_cases e : b = n
    · subst e
      have : ∀ k, k ≤ b → tot M' k = tot M k := by
        intro k
        induction k with
        | zero => intro _; rfl
        | succ k ih => intro hk; unfold tot; rw [ih (by omega), hT k (by omega) (by omega)]
      rw [this b (Nat.le_refl _)]
      omega
    · have := tot_upd n (by omega) (fun j hj hne => hT j (by omega) hne)
      rw [hT n (by omega) (fun z => e z.symm)]
      omega
def posN (M : Nat → Int32) : Nat → Nat
  | 0 => 0
  | n + 1 => posN M n + (if 0 < oN M n then 1 else 0)
theorem posN_le : ∀ n, posN M n ≤ n
  | 0 => Nat.le_refl _
  | n + 1 => by
    have := posN_le n
    unfold posN
    split <;> omega
theorem posN_0 : ∀ n, posN M n = 0 → tot M n = 0
  | 0, _ => rfl
  | n + 1, h => by
    unfold posN at h
    by_cases e : 0 < oN M n
    · rw [if_pos e] at h; omega
    · have := posN_0 n (by omega)
      unfold tot
      omega
theorem posN_upd {M' : Nat → Int32} {b : Nat} : ∀ n, b < n → (∀ j, j < n → j ≠ b → oN M' j = oN M j) → posN M' n + (if 0 < oN M b then 1 else 0) = posN M n + (if 0 < oN M' b then 1 else 0)
  | 0, h, _ => absurd h (by omega)
  | n + 1, h, hT => by
    unfold posN
    by_cases e : b = n
    · subst e
      have : ∀ k, k ≤ b → posN M' k = posN M k := by
        intro k
        induction k with
        | zero => intro _; rfl
        | succ k ih => intro hk; unfold posN; rw [ih (by omega), hT k (by omega) (by omega)]
      rw [this b (Nat.le_refl _)]
      omega
    · have := posN_upd n (by omega) (fun j hj hne => hT j (by omega) hne)
      rw [hT n (by omega) (fun z => e z.symm)]
      omega
/-- the one with the most output -/
theorem bst_eq (hM : okM B M) (hF : eqF F M) : ∀ k, k < qN M → ∃ i, i ≤ k ∧ qBs M k = nI i ∧ bst F (k + 1) = (nI i, nI (oN M i)) ∧ ∀ j, j ≤ k → oN M j ≤ oN M i
  | 0, h => by
    obtain ⟨o1, o2, o3, -⟩ := out_oN hM hF h
    refine ⟨0, Nat.le_refl _, rfl, ?_, fun j hj => by rw [show j = 0 by omega]; exact Nat.le_refl _⟩
    show (if outp F (nI 0) (fI F 1) (fI F 2) ≤ -1 then _ else _) = _
    rw [o2, if_neg (fun z => nI_pos (n := oN M 0) (by omega) (Int32.lt_of_le_of_lt z (by decide)))]
  | k + 1, h => by
    obtain ⟨i, i1, i2, i3, i4⟩ := bst_eq hM hF k (by omega)
    obtain ⟨o1, o2, o3, -⟩ := out_oN hM hF h
    obtain ⟨p1, p2, p3, -⟩ := out_oN hM hF (j := i) (by omega)
    unfold bst qBs
    rw [i3, i2, o2, o3, p3]
    by_cases e : oN M (k + 1) ≤ oN M i
    · rw [if_pos (nI_le e (by omega)), if_pos (nI_le e (by omega))]
      refine ⟨i, by omega, rfl, rfl, fun j hj => ?_⟩
      by_cases z : j = k + 1
      · rw [z]; exact e
      · exact i4 j (by omega)
    · rw [if_neg (nI_ge (by omega) (by omega)), if_neg (nI_ge (by omega) (by omega))]
      refine ⟨k + 1, Nat.le_refl _, rfl, rfl, fun j hj => ?_⟩
      by_cases z : j = k + 1
      · rw [z]; exact Nat.le_refl _
      · have := i4 j (by omega); omega
theorem tot_max {m : Nat} : ∀ n, (∀ j, j < n → oN M j ≤ m) → m = 0 → tot M n = 0
  | 0, _, _ => rfl
  | n + 1, h, e => by
    have := tot_max n (fun j hj => h j (by omega)) e
    have := h n (by omega)
    unfold tot
    omega
theorem sub_le0 {a b : Nat} (ha : a < 2 ^ 30) (hb : b < 2 ^ 30) : nI a - nI b ≤ 0 ↔ a ≤ b := by
  rw [Int32.le_iff_toInt_le, pk_sub_toInt ha hb]
  show (a : Int) - b ≤ 0 ↔ _
  omega
theorem lt0_sub {a b : Nat} (ha : a < 2 ^ 30) (hb : b < 2 ^ 30) : 0 < nI a - nI b ↔ b < a := by
  rw [Int32.lt_iff_toInt_lt, pk_sub_toInt ha hb]
  show 0 < (a : Int) - b ↔ _
  omega
theorem exc_eq (hM : okM B M) (hF : eqF F M) {g : Nat} (hg : M 3 = nI g) : exc F = nI (tot M (qN M)) - nI g ∧ qEx M = nI (tot M (qN M)) - nI g := by
  obtain ⟨s1, s2⟩ := sum_cur hM hF _ (Nat.le_refl _)
  constructor
  · unfold exc; rw [fN_eq hF.1, s1, hF.2.2.2.1, hg]
  · unfold qEx; rw [s2, hg]
/-- one step of the dispatch -/
theorem dst_step (hM : okM B M) (hF : eqF F M) (he : ¬ qEx M ≤ 0) : okM B (qDs M) ∧ eqF (fDst F) (qDs M) ∧ hiE M (qDs M) ∧ qN (qDs M) = qN M ∧ 0 < posN M (qN M) ∧ (qEx (qDs M) ≤ 0 ∨ posN (qDs M) (qN M) + 1 ≤ posN M (qN M)) := by
  have h12 := hM.1.2
  obtain ⟨g, g9, hg⟩ := hM.2.2.2.2.2.2.1
  obtain ⟨x1, x2⟩ := exc_eq hM hF hg
  have hT := tot_cur hM hF
  have hgt : g < tot M (qN M) := by
    rw [x2] at he
    rcases Nat.lt_or_ge g (tot M (qN M)) with q | q
    · exact q
    · exact absurd ((sub_le0 (by omega) (by omega)).mpr q) he
  have hn0 : 0 < qN M := by
    rcases Nat.eq_zero_or_pos (qN M) with q | q
    · rw [q] at hgt; exact absurd hgt (Nat.not_lt_zero _)
    · exact q
  obtain ⟨i, i1, i2, i3, i4⟩ := bst_eq hM hF (qN M - 1) (by omega)
  have hi : i < qN M := by omega
  have hi12 : i < 12 := by omega
  rw [show qN M - 1 + 1 = qN M by omega] at i3
  have hpos : 0 < oN M i := by
    rcases Nat.eq_zero_or_pos (oN M i) with q | q
    · have := tot_max (M := M) (m := oN M i) (qN M) (fun j hj => i4 j (by omega)) q
      omega
    · exact q
  obtain ⟨o1, o2, o3, o4, -⟩ := out_oN hM hF hi
  have hee : nI (tot M (qN M)) - nI g = nI (tot M (qN M) - g) := pk_sub (by omega)
  have hD : qDs M = qSet M (nI i) 5 (nI (oN M i - (tot M (qN M) - g) + 1)) := by
    unfold qDs qBst
    rw [i2, x2, o3, hee]
    by_cases q : tot M (qN M) - g ≤ oN M i
    · rw [pk_sub q, if_pos (nI_pos' (by omega)), nI_1]
    · rw [if_neg (Int32.not_le.mpr (pk_sneg (by omega) (by omega))), show oN M i - (tot M (qN M) - g) = 0 by omega]
      rfl
  have hC : fDst F = fChg F (nI i) (nI (oN M i - (tot M (qN M) - g))) := by
    unfold fDst
    rw [fN_eq hF.1, i3, x1, o2, hee]
    by_cases q : tot M (qN M) - g ≤ oN M i
    · rw [pk_sub q, if_neg (nI_pos (by omega))]
    · rw [if_pos (pk_sneg (by omega) (by omega)), show oN M i - (tot M (qN M) - g) = 0 by omega]
      rfl
  obtain ⟨y, hy⟩ : ∃ y, y = oN M i - (tot M (qN M) - g) := ⟨_, rfl⟩
  rw [← hy] at hD hC
  obtain ⟨u1, u2⟩ := lim_upd (l := y + 1) (x := nI y) hM hF hi (fun _ => o4 hpos) (by omega) (nI_pred y).symm
  obtain ⟨s1, s2⟩ := out_set hM hF hi (x := y) (by omega)
  rw [← hD] at u1 u2 s1 s2
  rw [← hC] at u2
  have hn : qN (qDs M) = qN M := by rw [hD]; exact qN_of (lo_s5 _ hi12 (by decide))
  have t1 := tot_upd (M := M) (M' := qDs M) (b := i) (qN M) hi s2
  have t2 := posN_upd (M := M) (M' := qDs M) (b := i) (qN M) hi s2
  rw [if_pos hpos] at t2
  refine ⟨u1, u2, by rw [hD]; exact hi_s5 _ hi12, hn, Nat.pos_of_ne_zero (fun z => by have := posN_0 (M := M) (qN M) z; omega), ?_⟩
  by_cases z : y = 0
  · right
    rw [s1, z, if_neg (by decide)] at t2
    omega
  · left
    have hg' : qDs M 3 = nI g := by rw [hD, lo_s5 _ hi12 (by decide)]; exact hg
    rw [(exc_eq u1 u2 hg').2, hn]
    refine (sub_le0 (by omega) (by omega)).mpr ?_
    omega
theorem exc_iff (hM : okM B M) (hF : eqF F M) : 0 < exc F ↔ ¬ qEx M ≤ 0 := by
  obtain ⟨g, g9, hg⟩ := hM.2.2.2.2.2.2.1
  obtain ⟨x1, x2⟩ := exc_eq hM hF hg
  have hT := tot_cur hM hF
  rw [x1, x2, lt0_sub (by omega) (by omega), sub_le0 (by omega) (by omega)]
  omega
theorem dRun_stop {k : Nat} {c : Int32} (h : ¬ 0 < exc F) : dRun k F c = (F, c) := by
  cases k with
  | zero => rfl
  | succ k => rw [dRun, if_neg h]
theorem disp_eq : ∀ (p k k' : Nat) (F : FM) (Q : MM) (c : Int32), okM B (mM Q) → eqF F (mM Q) → c = mI Q 4 → posN (mM Q) (qN (mM Q)) ≤ p → p ≤ k → p ≤ k' →
    okM B (mM (qDr k' Q)) ∧ eqF (dRun k F c).1 (mM (qDr k' Q)) ∧ mI (qDr k' Q) 4 = (dRun k F c).2 ∧ kq Q (qDr k' Q) ∧ qEx (mM (qDr k' Q)) ≤ 0 := by
  intro p
  induction p with
  | zero =>
    intro k k' F Q c hM hF hc hp hk hk'
    have he : qEx (mM Q) ≤ 0 := by
      obtain ⟨g, g9, hg⟩ := hM.2.2.2.2.2.2.1
      rw [(exc_eq hM hF hg).2, posN_0 _ (by omega)]
      exact (sub_le0 (by omega) (by omega)).mpr (Nat.zero_le _)
    rw [qDr_stop k' he, dRun_stop (fun z => (exc_iff hM hF).mp z he)]
    exact ⟨hM, hF, hc.symm, kq.rf, he⟩
  | succ p ih =>
    intro k k' F Q c hM hF hc hp hk hk'
    by_cases he : qEx (mM Q) ≤ 0
    · rw [qDr_stop k' he, dRun_stop (fun z => (exc_iff hM hF).mp z he)]
      exact ⟨hM, hF, hc.symm, kq.rf, he⟩
    · obtain ⟨s1, s2, s3, s4, s5, s6⟩ := dst_step hM hF he
      obtain ⟨k1, rfl⟩ : ∃ k1, k = k1 + 1 := ⟨k - 1, by omega⟩
      obtain ⟨k2, rfl⟩ : ∃ k2, k' = k2 + 1 := ⟨k' - 1, by omega⟩
      rw [qDr, if_neg he, dRun, if_pos ((exc_iff hM hF).mpr he)]
      have hq : kq Q (sMI (sMM Q (qDs (mM Q))) 4 (mI Q 4 + 1)) := kq_M Q s3
      rcases s6 with e | e
      · rw [qDr_stop k2 (Q := sMI (sMM Q (qDs (mM Q))) 4 (mI Q 4 + 1)) e, dRun_stop (fun z => (exc_iff s1 s2).mp z e)]
        exact ⟨s1, s2, by rw [hc]; rfl, hq, e⟩
      · obtain ⟨a1, a2, a3, a4, a5⟩ := ih k1 k2 (fDst F) (sMI (sMM Q (qDs (mM Q))) 4 (mI Q 4 + 1)) (c + 1) s1 s2 (by rw [hc]; rfl) (by show posN (qDs (mM Q)) (qN (qDs (mM Q))) ≤ p; rw [s4]; omega) (by omega) (by omega)
        exact ⟨a1, a2, a3, hq.tr a4, a5⟩
theorem kq_4 (Q : MM) (v : Int32) : kq Q (sMI Q 4 v) := ⟨fun k hk => by rw [mI_sI, if_neg hk], hiE.rf, rfl, rfl, rfl⟩
theorem disp_all {Q : MM} (hM : okM B (mM Q)) (hF : eqF F (mM Q)) : okM B (mM (qDr 12 (sMI Q 4 0))) ∧ eqF (dRun (fN F) F 0).1 (mM (qDr 12 (sMI Q 4 0))) ∧ mI (qDr 12 (sMI Q 4 0)) 4 = (dRun (fN F) F 0).2 ∧ kq Q (qDr 12 (sMI Q 4 0)) ∧ qEx (mM (qDr 12 (sMI Q 4 0))) ≤ 0 := by
  have h12 := hM.1.2
  obtain ⟨a1, a2, a3, a4, a5⟩ := disp_eq (B := B) (qN (mM Q)) (fN F) 12 F (sMI Q 4 0) 0 hM hF rfl (posN_le _) (by rw [fN_eq hF.1]; exact Nat.le_refl _) h12
  exact ⟨a1, a2, a3, (kq_4 Q 0).tr a4, a5⟩
theorem st_disp {Q : MM} (hM : okM B (mM Q)) (hF : eqF F (mM Q)) (a y z : Int32) : step B Q (qDr 12 (sMI Q 4 0), 0) (jud F 100 a y z) (det F (jud F 100 a y z) a y) (fCar F 100 a y z).1 (fCar F 100 a y z).2 := by
  rw [jud_100, car_100]
  obtain ⟨a1, a2, a3, a4, a5⟩ := disp_all hM hF
  exact step.ok rfl rfl a1 a2 a3 a4
/-! the release of all -/
theorem rel_all {Q : MM} (hM : okM B (mM Q)) (hF : eqF F (mM Q)) : ∀ k, k ≤ qN (mM Q) → okM B (mM (qRa Q k)) ∧ eqF (fEal F k).1 (mM (qRa Q k)) ∧ mI (qRa Q k) 4 = (fEal F k).2 ∧ kq Q (qRa Q k) ∧ qN (mM (qRa Q k)) = qN (mM Q)
  | 0, _ => ⟨hM, hF, rfl, kq_4 Q 0, rfl⟩
  | k + 1, h => by
    obtain ⟨a1, a2, a3, a4, a5⟩ := rel_all hM hF k (by omega)
    have h12 := hM.1.2
    have hk : k < qN (mM (qRa Q k)) := by omega
    have hk12 : k < 12 := by omega
    have ht := a1.2.1 k hk
    have e5 := ht.1 5 (by decide)
    have h91 := ht.2.2.2.2.2.2.2.1
    have hi : hiE (mM (qRa Q k)) (qSet (mM (qRa Q k)) (nI k) 5 0) := hi_s5 _ hk12
    have hkq : ∀ v, kq Q (sMM (sMI (qRa Q k) 4 v) (qSet (mM (qRa Q k)) (nI k) 5 0)) := fun v => a4.tr (kq_M' (qRa Q k) hi)
    have hn : qN (qSet (mM (qRa Q k)) (nI k) 5 0) = qN (mM Q) := (qN_of (lo_s5 _ hk12 (by decide))).trans a5
    rw [qRa, fEal, curt_eq a1 a2.1 hk, qT5 hk12, e5]
    by_cases z : tn (mM (qRa Q k)) k 5 = 0
    · rw [z, if_pos (show nI 0 = 0 from rfl), if_neg Bool.false_ne_true, if_pos (show nI 0 ≤ 0 by decide), Int32.add_zero]
      have hs : ∀ i, i < 129 → qSet (mM (qRa Q k)) (nI k) 5 0 i = mM (qRa Q k) i := by
        intro i _
        unfold qSet upd
        rw [show (57 : Int32) = nI 57 from rfl, show (6 : Int32) = nI 6 from rfl, show (5 : Int32) = nI 5 from rfl, pk_mul, nI_add, nI_add, nI_clamp (by omega)]
        by_cases q : i = 57 + 6 * k + 5
        · rw [if_pos q, q]
          rw [z] at e5
          exact e5.symm
        · rw [if_neg q]
      exact ⟨okM_congr hs a1, eqF_congr hs a1 a2, a3, hkq _, hn⟩
    · obtain ⟨u1, u2⟩ := lim_upd (l := 0) (x := -1) a1 a2 hk (fun q => absurd q (by omega)) (by omega) (by decide)
      rw [if_neg (nI_ne0 (by omega) (by omega)), if_pos rfl, if_neg (nI_nle (by omega) (by omega))]
      exact ⟨u1, u2, by rw [← a3]; rfl, hkq _, hn⟩
theorem st_relall {Q : MM} (hM : okM B (mM Q)) (hF : eqF F (mM Q)) (a y z : Int32) : step B Q (qRa Q (qN (mM Q)), 0) (jud F 118 a y z) (det F (jud F 118 a y z) a y) (fCar F 118 a y z).1 (fCar F 118 a y z).2 := by
  rw [jud_118, car_118, fN_eq hF.1]
  obtain ⟨a1, a2, a3, a4, a5⟩ := rel_all hM hF _ (Nat.le_refl _)
  exact step.ok rfl rfl a1 a2 a3 a4
end STEP3
