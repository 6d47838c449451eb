/-! COMMANDS CARRIED OUT: the class's execute and the reference's. -/
theorem step.mono {B B' : Nat} {Q : MM} {r : MM × Int32} {v d : Int32} {F' : FM} {a : Int32} (h : step B Q r v d F' a) (hb : B ≤ B') : step B' Q r v d F' a := by
  rcases h with h | h | h | ⟨h1, h2, h3, h4⟩
  · exact Or.inl h
  · exact Or.inr (Or.inl h)
  · exact Or.inr (Or.inr (Or.inl h))
  · exact Or.inr (Or.inr (Or.inr ⟨h1, h2, okM_mono h3 hb, h4⟩))
section STA
variable {B : Nat} {F : FM} {Q : MM}
theorem st_all (hM : okM B (mM Q)) (hF : eqF F (mM Q)) (hB : B + 48 ≤ 80000) {o : Int32} (ho : isL o) (a b c : Int32) : step (B + 48) Q (mOp Q o a b c) (jud F o a b c) (det F (jud F o a b c) a b) (fCar F o a b c).1 (fCar F o a b c).2 := by
  obtain ⟨ch, h1, h2, rfl⟩ := ho
  rcases let_all ch h1 h2 with (rfl | rfl | rfl | rfl) | (rfl | rfl) | rfl | ((rfl | rfl | rfl) | rfl | rfl | rfl)
  · rw [show nI 97 = 97 from rfl, mOp_97]
    exact (st_add hM hF a b c).mono (by omega)
  · rw [show nI 98 = 98 from rfl, mOp_98]
    exact (st_bid hM hF a b c).mono (by omega)
  · rw [show nI 99 = 99 from rfl, mOp_99]
    exact (st_curtail hM hF a b c).mono (by omega)
  · rw [show nI 115 = 115 from rfl, mOp_115]
    exact (st_send hM hF a b c).mono (by omega)
  · rw [show nI 100 = 100 from rfl, mOp_100]
    exact (st_disp hM hF a b c).mono (by omega)
  · rw [show nI 118 = 118 from rfl, mOp_118]
    exact (st_relall hM hF a b c).mono (by omega)
  · rw [show nI 119 = 119 from rfl, mOp_119]
    exact (st_wind hM hF a b c).mono (by omega)
  · rw [show nI 102 = 102 from rfl, mOp_102]
    exact (st_fail hM hF a b c).mono (by omega)
  · rw [show nI 103 = 103 from rfl, mOp_103]
    exact (st_grid hM hF a b c).mono (by omega)
  · rw [show nI 113 = 113 from rfl, mOp_113]
    exact (st_unbid hM hF a b c).mono (by omega)
  · rw [show nI 114 = 114 from rfl, mOp_114]
    exact (st_recall hM hF a b c).mono (by omega)
  · rw [show nI 116 = 116 from rfl, mOp_116]
    exact st_hours hM hF hB a b c
  · rw [show nI 117 = 117 from rfl, mOp_117]
    exact (st_release hM hF a b c).mono (by omega)
theorem qDo_119 {i : Int32} (h : cA Q i = 119) : qDo Q i = qBlo Q (cA Q (i + 1)) (cA Q (i + 2)) := by
  unfold qDo
  rw [if_neg (by rw [h]; decide), if_neg (by rw [h]; decide), if_neg (by rw [h]; decide), if_neg (by rw [h]; decide), if_neg (by rw [h]; decide), if_neg (by rw [h]; decide), if_neg (by rw [h]; decide), if_neg (by rw [h]; decide), if_neg (by rw [h]; decide), if_neg (by rw [h]; decide), if_neg (by rw [h]; decide), if_pos h]
theorem qDo_mOp {i o a b c : Int32} (h0 : cA Q i = o) (h1 : ag o 0 a (cA Q (i + 1))) (h2 : ag o 1 b (cA Q (i + 2))) (h3 : ag o 2 c (cA Q (i + 3))) : qDo Q i = mOp Q o a b c := by
  have e2 : cA Q (i + 2) = b := by
    unfold ag at h2
    rwa [if_neg (by omega)] at h2
  have e3 : cA Q (i + 3) = c := by
    unfold ag at h3
    rwa [if_neg (by omega)] at h3
  by_cases z : o = 119
  · subst z
    have e1 : cA Q (i + 1) = qWay a := by
      unfold ag at h1
      rwa [if_pos ⟨rfl, rfl⟩] at h1
    rw [qDo_119 h0, e1, e2, mOp_119]
  · have e1 : cA Q (i + 1) = a := by
      unfold ag at h1
      rwa [if_neg (fun y => z y.1)] at h1
    unfold qDo mOp
    rw [h0, e1, e2, e3, if_neg z, if_neg z]
end STA
section EXE
variable {B q : Nat} {D : DM} {Q P : MM} {f : Nat → Nat}
/-- before the j-th command -/
def EX (B q : Nat) (D : DM) (Q P : MM) (f : Nat → Nat) (j : Nat) (E : DM) : Prop :=
  inpR q E P ∧ dI E 8 = nI (f j) ∧ ((∀ k, k ≠ 1 → dF E k = dF D k) ∧ (∀ k, k < 7 ∨ 9 < k → dI E k = dI D k) ∧ ∀ k, 0 < k → dR E k = dR D k) ∧
  (qEl j (qXr P)).2 = 0 ∧ okM (B + 48 * j) (mM (qEl j (qXr P)).1) ∧ eqF (dF E 1) (mM (qEl j (qXr P)).1) ∧ kq (qB (sMI P 11 0)) (qEl j (qXr P)).1
theorem EX_0 (h : Rel B q D Q) (hp : pkM Q P) (hf : f 0 = 0) : EX B q D Q P f 0 (zX0 (rCc D).1) := by
  have s := Sm_Cc D
  have eF : ∀ k, dF (rCc D).1 k = dF D k := fun k => congrFun s.1 k
  have i0 : inpR q (rCc D).1 P := h.2.2.2.2.2.2.1.of s hp
  have i1 : inpR q (sF (rCc D).1 1 (dF (rCc D).1 0)) P := i0
  have hc : ∀ i, i < 129 → mM (qEl 0 (qXr P)).1 i = mM Q i := fun i hi => by
    show cpM (mM P) 0 10 i = mM Q i
    rw [cp_lo _ _ (by omega) hi, hp.1]
  refine ⟨i1.of (Sm.d _ (by decide)) (pkM.rf P), by rw [hf]; rfl, ⟨fun k hk => ?_, fun k hk => ?_, fun k hk => s.2.2 k hk⟩, rfl, okM_congr hc h.2.1.1, ?_, kq.rf⟩
  · show (if k = 1 then dF (rCc D).1 0 else dF (rCc D).1 k) = _
    rw [if_neg hk, eF]
  · show (if k = 8 then 0 else dI (rCc D).1 k) = _
    rw [if_neg (by omega)]
    exact s.2.1 k hk
  · show eqF (dF (rCc D).1 0) _
    rw [eF]
    exact eqF_congr hc h.2.1.1 h.2.1.2
theorem EX.st {j : Nat} {E : DM} (hE : EX B q D Q P f j E) (hs : stp q P j (f j) (f (j + 1))) (hj : j ≤ 60) (hB : B + 48 * j + 48 ≤ 80000) :
    step (B + 48 * (j + 1)) (qEl j (qXr P)).1 (qEl (j + 1) (qXr P)) (zJu (rNx E).1) (det (dF E 1) (zJu (rNx E).1) (rAr (rNx E).1 0) (rAr (rNx E).1 1)) (dF (zDo (rNx E).1) 1) (fCar (dF E 1) (dI (rNx E).1 9) (rAr (rNx E).1 0) (rAr (rNx E).1 1) (rAr (rNx E).1 2)).2 := by
  obtain ⟨h1, h2, h3, h4, h5, h6, h7⟩ := hE
  obtain ⟨s1, s2, s3, s4⟩ := hs E h1 h2
  have eF : dF (rNx E).1 1 = dF E 1 := congrFun (Sm_Nx E).1 1
  obtain ⟨Qj, hQj⟩ : ∃ Qj, Qj = (qEl j (qXr P)).1 := ⟨_, rfl⟩
  have en : qEl (j + 1) (qXr P) = qDo Qj (nI (4 * j)) := by
    have e : qEl (j + 1) (qXr P) = if (qEl j (qXr P)).2 = 0 then qDo (qEl j (qXr P)).1 (4 * nI j) else qEl j (qXr P) := rfl
    rw [e, if_pos h4, ← hQj, show (4 : Int32) = nI 4 from rfl, pk_mul]
  rw [en]
  rw [← hQj] at h5 h6 h7 ⊢
  have hc : ∀ k, k ≤ 3 → cA Qj (nI (4 * j) + nI k) = mC P (4 * j + k) := fun k hk => by
    unfold cA
    rw [nI_add, nI_clamp (by omega), h7.2.2.2.2]
    rfl
  have c0 : cA Qj (nI (4 * j)) = dI (rNx E).1 9 := by
    have := hc 0 (by decide)
    rw [nI_add] at this
    rw [s2]
    exact this
  have c1 := (s4 0 (by decide)).1
  have c2 := (s4 1 (by decide)).1
  have c3 := (s4 2 (by decide)).1
  rw [show 4 * j + 1 + 0 = 4 * j + 1 from rfl, ← hc 1 (by decide), ← s2] at c1
  rw [show 4 * j + 1 + 1 = 4 * j + 2 from rfl, ← hc 2 (by decide), ← s2] at c2
  rw [show 4 * j + 1 + 2 = 4 * j + 3 from rfl, ← hc 3 (by decide), ← s2] at c3
  rw [qDo_mOp c0 c1 c2 c3]
  have ho : isL (dI (rNx E).1 9) := by rw [s2]; exact s3
  have key := st_all h5 h6 (by omega) ho (rAr (rNx E).1 0) (rAr (rNx E).1 1) (rAr (rNx E).1 2)
  have ej : zJu (rNx E).1 = jud (dF E 1) (dI (rNx E).1 9) (rAr (rNx E).1 0) (rAr (rNx E).1 1) (rAr (rNx E).1 2) := by unfold zJu; rw [eF]
  have ed : dF (zDo (rNx E).1) 1 = (fCar (dF E 1) (dI (rNx E).1 9) (rAr (rNx E).1 0) (rAr (rNx E).1 1) (rAr (rNx E).1 2)).1 := by
    unfold zDo
    rw [eF]
    rfl
  rw [ej, ed]
  exact key.mono (by omega)
theorem EX.su {j : Nat} {E : DM} (hE : EX B q D Q P f j E) (hs : stp q P j (f j) (f (j + 1))) (hj : j ≤ 60) (hB : B + 48 * j + 48 ≤ 80000) (hz : zJu (rNx E).1 = 0) : EX B q D Q P f (j + 1) (zDo (rNx E).1) := by
  have key := hE.st hs hj hB
  obtain ⟨h1, h2, ⟨h3, h3b, h3c⟩, h4, h5, h6, h7⟩ := hE
  obtain ⟨s1, s2, s3, s4⟩ := hs E h1 h2
  have s := Sm_Nx E
  have eF : ∀ k, dF (rNx E).1 k = dF E k := fun k => congrFun s.1 k
  rcases key with ⟨a, -⟩ | ⟨a, -⟩ | ⟨a, -⟩ | ⟨-, a2, a3, a4, -, a6⟩
  · rw [hz] at a
    exact absurd a (by decide)
  · rw [hz] at a
    exact absurd a (by decide)
  · exact absurd hz a
  · have i1 : inpR q (rNx E).1 P := h1.of s (pkM.rf P)
    refine ⟨i1, s1, ⟨fun k hk => ?_, fun k hk => (s.2.1 k hk).trans (h3b k hk), fun k hk => (s.2.2 k hk).trans (h3c k hk)⟩, a2, a3, a4, h7.tr a6⟩
    show (if k = 1 then _ else dF (rNx E).1 k) = _
    rw [if_neg hk, eF, h3 k hk]
theorem EX.v {j : Nat} {E : DM} (h : Rel B q D Q) (hE : EX B q D Q P f j E) : vD E ∧ isCh (fI (dF E 1) 1) := by
  obtain ⟨h1, h2, ⟨h3, h3b, h3c⟩, h4, h5, h6, h7⟩ := hE
  obtain ⟨v1, v2, v3, v4, v5, v6, v7⟩ := h.v
  have e5 := h3b 5 (by decide)
  have eJ : hJ E = hJ D := by unfold hJ; rw [e5]
  refine ⟨⟨fun k hk => ?_, by rw [h3 0 (by decide)]; exact v2, by rw [h3 0 (by decide)]; exact v3, by rw [e5, eJ]; exact v4, by rw [eJ]; exact v5, by rw [h3c 1 (by decide)]; exact v6, by rw [h3c 2 (by decide)]; exact v7⟩, ?_⟩
  · by_cases e : k = 1
    · subst e
      exact nF_of h6
    · rw [h3 k e]
      exact v1 k hk
  · rw [h6.2.1]
    exact isCh_sgn _
theorem EX.hP {j : Nat} {E : DM} (hE : EX B q D Q P f j E) (hs : stp q P j (f j) (f (j + 1))) (hj : j ≤ 60) (hB : B + 48 * j + 48 ≤ 80000) : wF (dF (rNx E).1 1) ∧ (zJu (rNx E).1 = 0 → ¬ rAr (rNx E).1 0 < 0) ∧ (zJu (rNx E).1 = 0 → EX B q D Q P f (j + 1) (zDo (rNx E).1)) := by
  have eF : dF (rNx E).1 1 = dF E 1 := congrFun (Sm_Nx E).1 1
  refine ⟨by rw [eF]; exact wF_of hE.2.2.2.2.1.1 hE.2.2.2.2.2.1.1, fun _ => ?_, fun z => hE.su hs hj hB z⟩
  obtain ⟨s1, s2, s3, s4⟩ := hs E hE.1 hE.2.1
  obtain ⟨-, t, t1, t2⟩ := s4 0 (by decide)
  have t3 : rAr (rNx E).1 0 = nI t := t2
  rw [t3]
  exact nI_pos (by omega)
/-- the commands one by one -/
theorem zlp {n : Nat} (hn : n ≤ 60) (hs : ∀ j, j < n → stp q P j (f j) (f (j + 1))) (hB : B + 48 * n ≤ 80000) : ∀ (k j : Nat) (E : DM), EX B q D Q P f j E → j + k = n →
    (∃ E', zLp j k E = (.inl none, E') ∧ EX B q D Q P f n E') ∨
    (∃ E1 i v d, zLp j k E = zRf (clI (rNx E1).1) v (nI i) ∧ i < n ∧ EX B q D Q P f i E1 ∧ dnN (qXr P) n = i + 1 ∧ ((v = -1 ∧ qEl n (qXr P) = ((qEl i (qXr P)).1, 1)) ∨ (v = -2 ∧ qEl n (qXr P) = ((qEl i (qXr P)).1, 2)) ∨ (v ≠ 0 ∧ v ≠ -1 ∧ v ≠ -2 ∧ qEl n (qXr P) = (qRej (qEl i (qXr P)).1 v d, 3))))
  | 0, j, E, hE, hj => by
    have e : j = n := by omega
    subst e
    exact Or.inl ⟨E, rfl, hE⟩
  | k + 1, j, E, hE, hj => by
    have hst := hs j (by omega)
    have key := hE.st hst (by omega) (by omega)
    by_cases z : zJu (rNx E).1 = 0
    · have e : zLp j (k + 1) E = zLp (j + 1) k (zDo (rNx E).1) := if_pos z
      rw [e]
      exact zlp hn hs hB k (j + 1) _ (hE.su hst (by omega) (by omega) z) (by omega)
    · have e : zLp j (k + 1) E = zRf (clI (rNx E).1) (zJu (rNx E).1) (nI j) := if_neg z
      rw [e]
      have hd1 : dnN (qXr P) (j + 1) = j + 1 := if_pos hE.2.2.2.1
      have stop : ¬ (qEl (j + 1) (qXr P)).2 = 0 → qEl n (qXr P) = qEl (j + 1) (qXr P) ∧ dnN (qXr P) n = j + 1 := fun y => by
        have := qEl_stop (qXr P) y k
        rw [show j + 1 + k = n by omega, hd1] at this
        exact this
      rcases key with ⟨a, b⟩ | ⟨a, b⟩ | ⟨a, a2, a3, -, -, b⟩ | ⟨a, -⟩
      · obtain ⟨t1, t2⟩ := stop (by rw [b]; exact (by decide : ¬ (1 : Int32) = 0))
        exact Or.inr ⟨E, j, zJu (rNx E).1, 0, rfl, by omega, hE, t2, Or.inl ⟨a, t1.trans b⟩⟩
      · obtain ⟨t1, t2⟩ := stop (by rw [b]; exact (by decide : ¬ (2 : Int32) = 0))
        exact Or.inr ⟨E, j, zJu (rNx E).1, 0, rfl, by omega, hE, t2, Or.inr (Or.inl ⟨a, t1.trans b⟩)⟩
      · obtain ⟨t1, t2⟩ := stop (by rw [b]; exact (by decide : ¬ (3 : Int32) = 0))
        exact Or.inr ⟨E, j, zJu (rNx E).1, _, rfl, by omega, hE, t2, Or.inr (Or.inr ⟨a, a2, a3, t1.trans b⟩)⟩
      · exact absurd a z
end EXE
