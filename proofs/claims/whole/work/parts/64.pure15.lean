/-! THE READER OF COMMANDS: all of them. -/
section ALL
variable {q : Nat}
theorem pkM_Pl : ∀ (n : Nat) (Q : MM), pkM Q (qPl n Q)
  | 0, Q => pkM.rf Q
  | n + 1, Q => by
    unfold qPl
    split
    · exact pkM.rf Q
    · split
      · exact ((pkM_Ad Q).tr' (pkM_Co _)).tr' (pkM_Pl n _)
      · exact pkM.rf Q
theorem rNx_e (D : DM) : rNx D = if (rN1 D).2 then rCm (rN1 D).1 else ((rN1 D).1, false) := by
  unfold rNx rCm
  rfl
theorem nx_0 {D : DM} (h : dI D 8 = nI 0) : rNx D = rCm D := by
  have e : rN1 D = (D, true) := if_pos (by rw [h]; decide)
  rw [rNx_e, e]
  rfl
theorem nx_s {p : Nat} {D : DM} (h : dI D 8 = nI p) (hp : 0 < p) (hq : p < 2 ^ 31) (a : rSg D = nI 59) : rNx D = rCm (rAd D) := by
  have e0 : rSn D 59 = (rAd D, true) := if_pos a
  have e : rN1 D = (rAd D, true) := (if_neg (by rw [h]; exact nI_nle hp hq)).trans e0
  rw [rNx_e, e]
  rfl
theorem nx_n {p : Nat} {D : DM} (h : dI D 8 = nI p) (hp : 0 < p) (hq : p < 2 ^ 31) (a : ¬ rSg D = nI 59) : rNx D = (D, false) := by
  have e0 : rSn D 59 = (D, false) := if_neg a
  have e : rN1 D = (D, false) := (if_neg (by rw [h]; exact nI_nle hp hq)).trans e0
  rw [rNx_e, e]
  rfl
theorem ars {c : Int32} {m na p : Nat} {Q0 Q : MM} {D : DM} (h : TS c m na Q0 p q D Q) (hna : na ≤ 3) (hc : c = 119 → 0 < na) : ∀ k, k < 3 → ag c k (rAr D (nI k)) (mC Q (4 * m + 1 + k)) ∧ ∃ t, t < 1000 ∧ rAr D (nI k) = nI t := by
  intro k hk
  unfold rAr
  rw [h.2.1]
  rcases Nat.lt_or_ge k na with z | z
  · rw [if_neg (nI_ge z (by omega)), vAt_nI (by omega) (by decide)]
    exact h.2.2.2.2.2.1 k z
  · rw [if_pos (nI_le z (by omega)), h.2.2.2.2.2.2.1 k z hk]
    refine ⟨?_, 0, by decide, rfl⟩
    unfold ag
    rw [if_neg (fun y => absurd (hc y.1) (by omega))]
/-- the j-th command stands from p to p' -/
def stp (q : Nat) (R : MM) (j p p' : Nat) : Prop := ∀ D, inpR q D R → dI D 8 = nI p → dI (rNx D).1 8 = nI p' ∧ dI (rNx D).1 9 = mC R (4 * j) ∧ isL (mC R (4 * j)) ∧ ∀ k, k < 3 → ag (mC R (4 * j)) k (rAr (rNx D).1 (nI k)) (mC R (4 * j + 1 + k)) ∧ ∃ t, t < 1000 ∧ rAr (rNx D).1 (nI k) = nI t
theorem stp_mk {m p p1 p' : Nat} {Q1 Q' R : MM} (hq : q ≤ 60) (hc : ∀ D2, inpR q D2 R → dI D2 8 = nI p → CM m Q1 p1 q (rNx D2) Q') (h12 : mI Q' 12 = nI p') (hp' : p' ≤ 60) (h13 : mI Q' 13 = -1) (hC : ∀ i, i < 4 * (m + 1) → mC R i = mC Q' i) : stp q R m p p' := by
  intro D2 g e
  rcases hc D2 g e with ⟨-, p2, na, c, hl, a1, a2, a3, t⟩ | ⟨-, p2, x1, x2, x3⟩
  · have hp2 := t.1.2.1
    have e2 : p2 = p' := nI_inj3 (by omega) (by omega) (t.1.2.2.2.1.symm.trans h12)
    subst e2
    have ec : mC R (4 * m) = c := (hC _ (by omega)).trans t.2.2.2.2.1
    refine ⟨t.1.2.2.1, t.2.2.1.trans ec.symm, by rw [ec]; exact hl, fun k hk => ?_⟩
    rw [ec, hC (4 * m + 1 + k) (by omega)]
    exact ars t a2 a3 k hk
  · exact absurd (show nI p2 < 0 by rw [← x3, h13]; exact m1_neg) (nI_pos (by omega))
def PRES (q m p : Nat) (Q : MM) (r : DM × Int32) (R : MM) : Prop := pkM Q R ∧ ((r.2 = 0 ∧ (er q r.1 R ∨ (mI R 13 = -1 ∧ ∃ p', p' < q ∧ mI R 12 = nI p' ∧ dI r.1 8 = nI p'))) ∨ ((∀ i, i < 4 * m → mC R i = mC Q i) ∧ ∃ n, m < n ∧ 2 * n ≤ q + 1 ∧ r.2 = nI n ∧ mI R 13 = -1 ∧ mI R 12 = nI q ∧ mI R 16 = nI n ∧ ∃ f : Nat → Nat, f m = p ∧ ∀ j, m ≤ j → j < n → stp q R j (f j) (f (j + 1))))
theorem qPl_er {Q : MM} (h : 0 ≤ mI Q 13) : ∀ n, qPl n Q = Q
  | 0 => rfl
  | _ + 1 => if_pos h
theorem qPl_end {Q : MM} (h : ¬ 0 ≤ mI Q 13) (h2 : ¬ qSg Q = 59) : ∀ n, qPl n Q = Q
  | 0 => rfl
  | _ + 1 => (if_neg h).trans (if_neg h2)
theorem stepA {m p p1 k n : Nat} {Q Q1 : MM} {D : DM} (hp1 : 2 * (m + 1) ≤ p1 + 1) (hk : pkM Q Q1) (hm : mC Q1 = mC Q) (hq : q ≤ 60) (hD : inpR q D Q) (h8 : dI D 8 = nI p)
    (hc : ∀ D2, inpR q D2 Q → dI D2 8 = nI p → CM m Q1 p1 q (rNx D2) (qCo Q1))
    (ih : ∀ p' D' Q', pr p' q D' Q' → 0 < p' → p' < q → mI Q' 16 = nI (m + 1) → 2 * (m + 1) ≤ p' + 1 → PRES q (m + 1) p' Q' (rCt (m + 2) k D') (qPl n Q')) :
    PRES q m p Q (if (rNx D).2 then (if dI (rNx D).1 10 ≤ dI (rNx D).1 8 then ((rNx D).1, nI (m + 1)) else rCt (m + 2) k (rNx D).1) else ((rNx D).1, 0)) (qPl n (qCo Q1)) := by
  have hpk : pkM Q (qCo Q1) := hk.tr' (pkM_Co Q1)
  rcases hc D hD h8 with ⟨a, p', na, c, -, b1, b2, b3, t⟩ | ⟨a, e⟩
  · rw [if_pos a]
    have hp' := t.1
    have hle := hp'.2.1
    have hlow : ∀ i, i < 4 * m → mC (qCo Q1) i = mC Q i := fun i hi => by rw [← hm]; exact t.2.2.2.2.2.2.2 i hi
    have hst : ∀ R, pkM (qCo Q1) R → (∀ i, i < 4 * (m + 1) → mC R i = mC (qCo Q1) i) → stp q R m p p' := fun R k1 k2 => stp_mk hq (fun D2 g e => hc D2 (g.back (hpk.tr' k1)) e) hp'.2.2.2.1 (by omega) hp'.2.2.2.2 k2
    by_cases z : p' = q
    · rw [if_pos (by rw [hp'.1.2.2.1, hp'.2.2.1]; exact nI_le (by omega) (by omega))]
      have hsg : ¬ qSg (qCo Q1) = 59 := by
        rcases sgc hp' with ⟨y, -⟩ | ⟨-, -, y⟩
        · exact absurd y (by omega)
        · rw [y]; decide
      rw [qPl_end (ng13 hp') hsg]
      refine ⟨hpk, Or.inr ⟨hlow, m + 1, by omega, by omega, rfl, hp'.2.2.2.2, by rw [← z]; exact hp'.2.2.2.1, t.2.2.2.1, fun j => if j = m then p else p', if_pos rfl, fun j j1 j2 => ?_⟩⟩
      have e : j = m := by omega
      subst e
      show stp q _ j (if j = j then p else p') (if j + 1 = j then p else p')
      rw [if_pos rfl, if_neg (by omega)]
      exact hst _ (pkM.rf _) (fun _ _ => rfl)
    · rw [if_neg (by rw [hp'.1.2.2.1, hp'.2.2.1]; exact nI_ge (by omega) (by omega))]
      obtain ⟨r1, r3⟩ := ih p' _ _ hp' (by omega) (by omega) t.2.2.2.1 (by omega)
      refine ⟨hpk.tr' r1, ?_⟩
      rcases r3 with r3 | ⟨r2, n', n1, n2, n3, n4, n5, n6, f, f1, f2⟩
      · exact Or.inl r3
      · refine Or.inr ⟨fun i hi => (r2 i (by omega)).trans (hlow i hi), n', by omega, n2, n3, n4, n5, n6, fun j => if j = m then p else f j, if_pos rfl, fun j j1 j2 => ?_⟩
        show stp q _ j (if j = m then p else f j) (if j + 1 = m then p else f (j + 1))
        by_cases y : j = m
        · subst y
          rw [if_pos rfl, if_neg (by omega), f1]
          exact hst _ r1 r2
        · rw [if_neg y, if_neg (by omega)]
          exact f2 j (by omega) j2
  · rw [if_neg (by rw [a]; exact Bool.false_ne_true)]
    obtain ⟨p2, x1, x2, x3⟩ := e
    rw [qPl_er (by rw [x3]; exact nI_pos' (by omega))]
    exact ⟨hpk, Or.inl ⟨rfl, Or.inl ⟨p2, x1, x2, x3⟩⟩⟩
theorem lpA : ∀ (n k m p : Nat) (D : DM) (Q : MM), pr p q D Q → 0 < p → p < q → mI Q 16 = nI m → 2 * m ≤ p + 1 → 61 ≤ n + m → k + m = 60 → PRES q m p Q (rCt (m + 1) k D) (qPl n Q)
  | 0, k, m, p, D, Q, h, h0, h1, h2, h3, h4, h5 => absurd h.1.1 (by omega)
  | n + 1, 0, m, p, D, Q, h, h0, h1, h2, h3, h4, h5 => absurd h.1.1 (by omega)
  | n + 1, k + 1, m, p, D, Q, h, h0, h1, h2, h3, h4, h5 => by
    have hq := h.1.1
    have e : qPl (n + 1) Q = if qSg Q = 59 then qPl n (qCo (qAd1 Q)) else Q := if_neg (ng13 h)
    rw [e]
    rcases sg_is h (c := 59) (by decide) (by decide) with ⟨a, b, z⟩ | ⟨a, b⟩
    · rw [if_pos (show qSg Q = 59 from b)]
      have h16 : mI (qAd1 Q) 16 = nI m := h2
      refine stepA (p1 := p + 1 + 1) (by omega) (pkM_Ad Q) rfl hq h.1 h.2.2.1 (fun D2 g e => ?_) (fun p' D' Q' a1 a2 a3 a4 a5 => lpA n k (m + 1) p' D' Q' a1 a2 a3 a4 a5 (by omega) (by omega))
      have hp2 : pr p q D2 Q := ⟨g, h.2.1, e, h.2.2.2⟩
      rcases sg_is hp2 (c := 59) (by decide) (by decide) with ⟨a2, -, -⟩ | ⟨-, y⟩
      · rw [nx_s e h0 (by omega) a2]
        exact cmd (hp2.ad z) h16 (by omega)
      · exact absurd b y
    · rw [if_neg (show ¬ qSg Q = 59 from b)]
      have er : rCt (m + 1) (k + 1) D = (D, 0) := by
        have e2 : rCt (m + 1) (k + 1) D = if (rNx D).2 then (if dI (rNx D).1 10 ≤ dI (rNx D).1 8 then ((rNx D).1, nI (m + 1)) else rCt (m + 2) k (rNx D).1) else ((rNx D).1, 0) := rfl
        rw [e2, nx_n h.2.2.1 h0 (by omega) a]
        rfl
      rw [er]
      exact ⟨pkM.rf Q, Or.inl ⟨rfl, Or.inr ⟨h.2.2.2.2, p, h1, h.2.2.2.1, h.2.2.1⟩⟩⟩
/-- the whole -/
theorem prs {D : DM} {Q : MM} (h : inpR q D Q) : pkM Q (qPa Q) ∧ (((rCc D).2 = 0 ∧ er q (rCc D).1 (qPa Q)) ∨ ∃ n, 0 < n ∧ 2 * n ≤ q + 1 ∧ (rCc D).2 = nI n ∧ mI (qPa Q) 13 = -1 ∧ mI (qPa Q) 16 = nI n ∧ ∃ f : Nat → Nat, f 0 = 0 ∧ ∀ j, j < n → stp q (qPa Q) j (f j) (f (j + 1))) := by
  obtain ⟨Q0, hQ0⟩ : ∃ Q0, Q0 = sMI (sMI (sMI Q 12 0) 13 (-1)) 16 0 := ⟨_, rfl⟩
  have k0 : pkM Q Q0 := by rw [hQ0]; exact ((pkM_I Q (Or.inl rfl)).tr' (pkM_I _ (Or.inr (Or.inl rfl)))).tr' (pkM_I _ (Or.inr (Or.inr rfl)))
  have i0 : inpR q (sD D 8 0) Q0 := h.of (Sm.d D (by decide)) k0
  have d8 : dI (sD D 8 0) 8 = nI 0 := by rw [dI_sD, if_pos rfl]; rfl
  have q12 : mI Q0 12 = nI 0 := by rw [hQ0]; rfl
  have q13 : mI Q0 13 = -1 := by rw [hQ0]; rfl
  have q16 : mI Q0 16 = nI 0 := by rw [hQ0]; rfl
  have hq := h.1
  have ea : qPa Q = if 0 ≤ mI (qPl 61 (qCo Q0)) 13 then qPl 61 (qCo Q0) else if mI (qPl 61 (qCo Q0)) 11 ≤ mI (qPl 61 (qCo Q0)) 12 then qPl 61 (qCo Q0) else qEr (qPl 61 (qCo Q0)) := by
    rw [hQ0]
    rfl
  have main : PRES q 0 0 Q0 (rCc D) (qPl 61 (qCo Q0)) :=
    stepA (p1 := 0 + 1) (by omega) (pkM.rf Q0) rfl hq i0 d8 (fun D2 g e => by
      rw [nx_0 e]
      exact cmd ⟨g, Nat.zero_le _, e, q12, q13⟩ q16 (by decide)) (fun p' D' Q' a1 a2 a3 a4 a5 => lpA 61 59 1 p' D' Q' a1 a2 a3 a4 a5 (by decide) (by decide))
  obtain ⟨P, hP⟩ : ∃ P, P = qPl 61 (qCo Q0) := ⟨_, rfl⟩
  rw [← hP] at ea main
  obtain ⟨m1, m2⟩ := main
  have g11 : mI P 11 = nI q := ((k0.tr' m1).2.2.2 11 (by decide) (by decide) (by decide)).trans h.2.1
  rcases m2 with ⟨r, er | ⟨x13, p', x1, x2, x3⟩⟩ | ⟨-, n, n1, n2, n3, n4, n5, n6, f, f1, f2⟩
  · obtain ⟨p2, x1, x2, x3⟩ := er
    rw [ea, if_pos (by rw [x3]; exact nI_pos' (by omega))]
    exact ⟨k0.tr' m1, Or.inl ⟨r, p2, x1, x2, x3⟩⟩
  · rw [ea, if_neg (by rw [x13]; decide), if_neg (by rw [g11, x2]; exact nI_ge x1 (by omega))]
    refine ⟨(k0.tr' m1).tr' (pkM_Er P), Or.inl ⟨r, p', by omega, x3, ?_⟩⟩
    unfold qEr
    rw [mI_sI, if_pos rfl]
    exact x2
  · rw [ea, if_neg (by rw [n4]; decide), if_pos (by rw [g11, n5]; exact nI_le (by omega) (by omega))]
    exact ⟨k0.tr' m1, Or.inr ⟨n, n1, n2, n3, n4, n6, f, f1, fun j hj => f2 j (Nat.zero_le _) hj⟩⟩
end ALL
