/-! WHAT THE PROPERTY NEEDS of a farm that is as its row says: its turbines. -/
/-- turbine j: its row, column, power, state, hours, limit and 1 -/
def TFj (F : FM) (M : Nat → Int32) (j r c p s h l : Nat) : Prop := j < 12 ∧ r < 5 ∧ c < 6 ∧ (1 ≤ p ∧ p ≤ 9) ∧ s < 3 ∧ h ≤ 12 ∧ l ≤ 91 ∧ (0 < l → s = 0) ∧ (s = 2 → 1 ≤ h) ∧ (tv M j 0 = nI r ∧ tv M j 1 = nI c ∧ tv M j 3 = nI s) ∧
  vAt 12 (fA F 0) (nI j) = nI r ∧ vAt 12 (fA F 1) (nI j) = nI c ∧ vAt 12 (fA F 2) (nI j) = nI p ∧ vAt 12 (fA F 5) (nI j) = nI h ∧ vAt 12 (fA F 4) (nI j) = nI l - 1 ∧ hasT F (nI j) = true ∧ ∀ k, k < 3 → inSt F (nI j) (nI (k + 1)) = decide (s = k)
section TF
variable {B : Nat} {F : FM} {M : Nat → Int32}
theorem hasT_nI (hM : okM B M) (hF : eqF F M) {j : Nat} (hj : j < qN M) : hasT F (nI j) = true := by
  have h12 := hM.1.2
  have hw := wF_of hM.1 hF.1
  have hn := fN_eq hF.1
  unfold hasT
  rw [if_neg (nI_pos (by omega)), hw.1, if_neg (nI_ge (by omega) (by omega))]
theorem tf_of (hM : okM B M) (hF : eqF F M) {j : Nat} (hj : j < qN M) : ∃ r c p s h l, TFj F M j r c p s h l := by
  have h12 := hM.1.2
  obtain ⟨a0, a1, a2, a3, a4, a5, a6, a7, a8, a9⟩ := hM.2.1 j hj
  obtain ⟨b0, b1, b2, b3, b4, b5⟩ := hF.1.2.1 j hj
  refine ⟨tn M j 0, tn M j 1, tn M j 2, tn M j 3, tn M j 4, tn M j 5, by omega, a1, a2, ⟨a3, a4⟩, a5, a6, a7, a8, a9, ⟨a0 0 (by decide), a0 1 (by decide), a0 3 (by decide)⟩, ?_, ?_, ?_, ?_, ?_, hasT_nI hM hF hj, fun k hk => ?_⟩
  · rw [vAt_nI (by omega) (by decide), b0]
    exact a0 0 (by decide)
  · rw [vAt_nI (by omega) (by decide), b1]
    exact a0 1 (by decide)
  · rw [vAt_nI (by omega) (by decide), b2]
    exact a0 2 (by decide)
  · rw [vAt_nI (by omega) (by decide), b4]
    exact a0 4 (by decide)
  · rw [vAt_nI (by omega) (by decide), b5, ← a0 5 (by decide)]
  · rw [inSt_eq hM hF.1 hj hk, a0 3 (by decide)]
    by_cases e : tn M j 3 = k
    · rw [if_pos (by rw [e]), decide_eq_true e]
    · rw [if_neg (fun z => e ((nI_eq (by omega) (by omega)).mp z)), decide_eq_false e]
theorem cell_ok {a b : Nat} (ha : a < 5) (hb : b < 6) : isCell' (nI a) (nI b) = true := by
  unfold isCell'
  have h1 : wIn (nI a) (nI 0) (nI 4) = true := wIn_ok (Nat.zero_le _) (by omega) (by decide)
  have h2 : wIn (nI b) (nI 0) (nI 5) = true := wIn_ok (Nat.zero_le _) (by omega) (by decide)
  rw [show (0 : Int32) = nI 0 from rfl, show (4 : Int32) = nI 4 from rfl, show (5 : Int32) = nI 5 from rfl, h1, h2]
  rfl
def spTA (F : FM) (x y : Int32) : RO := if isCell' x y then (if tIn F x y < 0 then .inr eN else .inl (some (.int (tIn F x y)))) else .inr eI
theorem up_res (hM : okM B M) (hF : eqF F M) (x y : Int32) : ∃ o v, o = spTA F x y ∧ ((∃ v, o = .inl (some (.int v))) ∨ o = .inr eI ∨ o = .inr eN) ∧ rdI o = v ∧ ((v < 0 ∧ runAt M x y = false) ∨ (¬ v < 0 ∧ hasT F v = true ∧ inSt F v 1 = runAt M x y)) := by
  have h12 := hM.1.2
  unfold spTA
  rcases b_tf (b := isCell' x y) with e | e
  · obtain ⟨a, b, ha, hb, rfl, rfl⟩ := cell_nat e
    rcases qIn_spec hM.1 (nI a) (nI b) with ⟨i, h1, h2, h3, h4⟩ | ⟨h1, h2⟩
    · refine ⟨.inl (some (.int (nI i))), nI i, ?_, Or.inl ⟨_, rfl⟩, rfl, Or.inr ⟨nI_pos (by omega), hasT_nI hM hF h1, ?_⟩⟩
      · rw [if_pos e, tIn_eq hF.1.2.2 ha hb, h4, if_neg (nI_pos (by omega))]
      · rw [← h4]
        exact inSt_run hM hF.1 _ _
    · refine ⟨.inr eN, -30000, ?_, Or.inr (Or.inr rfl), by decide, Or.inl ⟨by decide, ?_⟩⟩
      · rw [if_pos e, tIn_eq hF.1.2.2 ha hb, h2, if_pos (by decide)]
      · unfold runAt
        rw [h2, if_pos (by decide)]
  · refine ⟨.inr eI, -25000, ?_, Or.inr (Or.inl rfl), by decide, Or.inl ⟨by decide, ?_⟩⟩
    · rw [if_neg (ntrue e)]
    · refine run_off hM (fun a ha b hb z => ?_)
      rw [← z.1, ← z.2, cell_ok ha hb] at e
      cases e
def spLi (F : FM) (t : Int32) : RO := if hasT F t then (if curt F t then .inl (some (.int (vAt 12 (fA F 4) t))) else .inr eN) else .inr eI
def spSh (F : FM) (t : Int32) : RO := if hasT F t then (if inSt F t 3 then .inl (some (.int (vAt 12 (fA F 5) t))) else .inr eN) else .inr eI
theorem lm_res {j r c p s h l : Nat} (t : TFj F M j r c p s h l) : ∃ o, o = spLi F (nI j) ∧ ((∃ v, o = .inl (some (.int v))) ∨ o = .inr eI ∨ o = .inr eN) ∧
    ((l = 0 ∧ rdI o = -30000 ∧ vAt 12 (fA F 4) (nI j) = -1 ∧ curt F (nI j) = false) ∨ (0 < l ∧ s = 0 ∧ rdI o = nI (l - 1) ∧ vAt 12 (fA F 4) (nI j) = nI (l - 1) ∧ curt F (nI j) = true)) := by
  obtain ⟨t1, t2, t3, t4, t5, t6, t7, t8, t9, t10, v0, v1, v2, v3, v4, v5, v6⟩ := t
  unfold spLi
  rw [if_pos v5]
  by_cases e : l = 0
  · subst e
    have e4 : vAt 12 (fA F 4) (nI j) = -1 := by rw [v4]; decide
    have ec : curt F (nI j) = false := by
      unfold curt
      rw [e4, if_pos rfl]
      split <;> rfl
    rw [if_neg (ntrue ec)]
    exact ⟨_, rfl, Or.inr (Or.inr rfl), Or.inl ⟨rfl, by decide, e4, ec⟩⟩
  · have hs := t8 (by omega)
    have e4 : vAt 12 (fA F 4) (nI j) = nI (l - 1) := by
      rw [v4, show l = (l - 1) + 1 by omega]
      exact nI_pred (l - 1)
    have e1 : inSt F (nI j) 1 = true := by
      have q := v6 0 (by decide)
      rw [hs] at q
      exact q
    have ec : curt F (nI j) = true := by
      unfold curt
      rw [if_pos e1, e4, if_neg (fun z => nI_pos (n := l - 1) (by omega) (by rw [z]; decide))]
    rw [if_pos ec, e4]
    exact ⟨_, rfl, Or.inl ⟨_, rfl⟩, Or.inr ⟨by omega, hs, rfl, rfl, ec⟩⟩
theorem sh_res {j r c p s h l : Nat} (t : TFj F M j r c p s h l) : ∃ o, o = spSh F (nI j) ∧ ((∃ v, o = .inl (some (.int v))) ∨ o = .inr eI ∨ o = .inr eN) ∧ ((s = 2 ∧ rdI o = nI h) ∨ (s ≠ 2 ∧ rdI o = -30000)) := by
  obtain ⟨t1, t2, t3, t4, t5, t6, t7, t8, t9, t10, v0, v1, v2, v3, v4, v5, v6⟩ := t
  unfold spSh
  rw [if_pos v5]
  have q : inSt F (nI j) 3 = decide (s = 2) := v6 2 (by decide)
  by_cases e : s = 2
  · rw [if_pos (by rw [q]; exact decide_eq_true e), v3]
    exact ⟨_, rfl, Or.inl ⟨_, rfl⟩, Or.inl ⟨e, rfl⟩⟩
  · rw [if_neg (by rw [q]; exact ntrue (decide_eq_false e))]
    exact ⟨_, rfl, Or.inr (Or.inr rfl), Or.inr ⟨e, by decide⟩⟩
theorem pw_res (F : FM) (t sp lo : Int32) : (if inSt F t 1 then vAt 12 (fA F 2) t * (if 0 < fac' sp - lo then fac' sp - lo else 0) else 0) = pwr F t sp lo := by
  unfold pwr
  by_cases z : fac' sp - lo ≤ 0
  · rw [if_pos z, if_neg (Int32.not_lt.mpr z)]
    split
    · exact Int32.mul_zero
    · rfl
  · rw [if_neg z, if_pos (Int32.not_le.mp z)]
theorem ot_res {F : FM} {t v x : Int32} {l : Nat} (hl : l ≤ 91) (h : (l = 0 ∧ v = -30000 ∧ vAt 12 (fA F 4) t = -1) ∨ (0 < l ∧ v = nI (l - 1) ∧ vAt 12 (fA F 4) t = nI (l - 1))) : (if v = -30000 then x else if x < v then x else v) = lim F t x := by
  unfold lim
  rcases h with ⟨h1, h2, h3⟩ | ⟨h1, h2, h3⟩
  · rw [if_pos h2, if_pos h3]
  · rw [h2, h3, if_neg (c := nI (l - 1) = -30000) (fun z => nI_pos (n := l - 1) (by omega) (by rw [z]; decide)), if_neg (c := nI (l - 1) = -1) (fun z => nI_pos (n := l - 1) (by omega) (by rw [z]; decide))]
end TF
