/-! COMMANDS CARRIED OUT: the whole. -/
section EXR
variable {B q : Nat} {D : DM} {Q P : MM} {f : Nat → Nat}
theorem ex_rej (h : Rel B q D Q) (hp : pkM Q P) {i : Nat} {E : DM} (hE : EX B q D Q P f i E) (v : Int32) : rejR (clI (rNx E).1) (sMI (qEl i (qXr P)).1 4 v) := by
  obtain ⟨h1, h2, ⟨h3, h3b, h3c⟩, h4, h5, h6, k1, k2⟩ := hE
  obtain ⟨r1, r2, r3, r4⟩ := h.2.2.2.2.1
  have s := Sm_Nx E
  have eI : ∀ k, k < 7 → dI (clI (rNx E).1) k = dI D k := fun k b => by
    show (if k = 10 then 0 else dI (rNx E).1 k) = _
    rw [if_neg (by omega)]
    exact (s.2.1 k (Or.inl b)).trans (h3b k (Or.inl b))
  have mi : ∀ k, k ≠ 4 → k < 11 → mI (sMI (qEl i (qXr P)).1 4 v) k = mI Q k := fun k a b => by
    rw [mI_sI, if_neg a, k1 k a]
    show mI (sMI P 11 0) k = _
    rw [mI_sI, if_neg (by omega)]
    exact hp.2.2.2 k (by omega) (by omega) (by omega)
  have m5 := mi 5 (by decide) (by decide)
  have m6 := mi 6 (by decide) (by decide)
  have m7 := mi 7 (by decide) (by decide)
  exact ⟨by rw [eI 2 (by decide), m5]; exact r1, by rw [eI 3 (by decide), m6]; exact r2, by rw [eI 4 (by decide), m7]; exact r3, by rw [m5, m7]; exact r4⟩
theorem ex_rel (h : Rel B q D Q) (hB : B + 24 * (q + 1) ≤ 80000) : Rel (B + 24 * (q + 1)) 0 (zEx D).2 (qXe (qPa Q)).1 ∧ agr [eA, eS, eU] (zEx D).1 (mI (qXe (qPa Q)).1 0) (qXe (qPa Q)).2 := by
  obtain ⟨hp, hr⟩ := prs h.2.2.2.2.2.2.1
  obtain ⟨P, hP⟩ : ∃ P, P = qPa Q := ⟨_, rfl⟩
  rw [← hP] at hp hr ⊢
  have hq := h.2.2.2.2.2.2.1.1
  rcases hr with ⟨r0, he⟩ | ⟨n, n0, n1, n2, n3, n4, f, f0, fs⟩
  · have ez : zEx D = (.inr eA, clI (sD (rCc D).1 1 (dI (rCc D).1 8))) := if_pos r0
    have eq : qXe P = (sMI (sMI (sMI P 11 0) 14 (mI P 13)) 0 1, 0) := by
      obtain ⟨p, p1, p2, p3⟩ := he
      exact if_pos (by rw [p3]; exact nI_pos' (by omega))
    rw [ez, eq]
    exact ⟨(ex_bad h hp he).mono (by omega), Or.inr ⟨0, eA, rfl, rfl, rfl⟩⟩
  · have ez : zEx D = zXe n (zLp 0 n (zX0 (rCc D).1)) := by
      unfold zEx
      rw [if_neg (by rw [n2]; exact nI_ne0 n0 (by omega)), n2, nI_clamp (by omega)]
    have em : qXm P = n := by unfold qXm; rw [n4, nI_clamp (by omega)]
    have eq : qXe P = qEnd (sMI (qXf (qEl n (qXr P)) (dnN (qXr P) n)) 4 (mI P 16)) (qEl n (qXr P)).2 2 2 3 := by
      unfold qXe
      rw [if_neg (by rw [n3]; decide), em]
    rw [ez, eq]
    rcases zlp (D := D) (Q := Q) (B := B) (q := q) (by omega) fs (by omega) n 0 _ (EX_0 h hp f0) (by omega) with ⟨E', e1, hE⟩ | ⟨E1, i, v, d, e1, hi, hE, hdn, hv⟩
    · have e2 := hE.2.2.2.1
      have ef : qXf (qEl n (qXr P)) (dnN (qXr P) n) = (qEl n (qXr P)).1 := if_neg (by rw [e2]; decide)
      rw [e1, ef, e2]
      obtain ⟨x1, x2, x3⟩ := ex_ok h hp hE (mI P 16)
      refine ⟨x1.mono (by omega), Or.inl ⟨?_, x2⟩⟩
      rw [x3, n4]
      rfl
    · rw [e1, hdn]
      have hj := ex_rej h hp hE (mI P 16)
      rcases hv with ⟨a, b⟩ | ⟨a, b⟩ | ⟨a, a2, a3, b⟩
      · have ezr : zRf (clI (rNx E1).1) v (nI i) = (.inr eS, clI (rNx E1).1) := if_pos a
        rw [ezr, b]
        show Rel _ 0 (clI (rNx E1).1) (qEnd (sMI (qEl i (qXr P)).1 4 (mI P 16)) 1 2 2 3).1 ∧ agr _ (.inr eS) (mI (qEnd (sMI (qEl i (qXr P)).1 4 (mI P 16)) 1 2 2 3).1 0) (qEnd (sMI (qEl i (qXr P)).1 4 (mI P 16)) 1 2 2 3).2
        rw [end_back (show ¬ thr 1 2 2 3 = 0 by decide)]
        exact ⟨(ex_ref h hp hE rfl (sMI (qEl i (qXr P)).1 4 (mI P 16)) (clI (rNx E1).1) (thr 1 2 2 3) ⟨fun _ => rfl, fun _ _ _ _ => rfl, fun _ => rfl⟩ rfl (fun j a _ _ _ => by rw [mI_sI, if_neg a]) rfl hj).mono (by omega), Or.inr ⟨1, eS, rfl, rfl, rfl⟩⟩
      · have ezr : zRf (clI (rNx E1).1) v (nI i) = (.inr eS, clI (rNx E1).1) := (if_neg (by rw [a]; decide)).trans (if_pos a)
        rw [ezr, b]
        show Rel _ 0 (clI (rNx E1).1) (qEnd (sMI (qEl i (qXr P)).1 4 (mI P 16)) 2 2 2 3).1 ∧ agr _ (.inr eS) (mI (qEnd (sMI (qEl i (qXr P)).1 4 (mI P 16)) 2 2 2 3).1 0) (qEnd (sMI (qEl i (qXr P)).1 4 (mI P 16)) 2 2 2 3).2
        rw [end_back (show ¬ thr 2 2 2 3 = 0 by decide)]
        exact ⟨(ex_ref h hp hE rfl (sMI (qEl i (qXr P)).1 4 (mI P 16)) (clI (rNx E1).1) (thr 2 2 2 3) ⟨fun _ => rfl, fun _ _ _ _ => rfl, fun _ => rfl⟩ rfl (fun j a _ _ _ => by rw [mI_sI, if_neg a]) rfl hj).mono (by omega), Or.inr ⟨1, eS, rfl, rfl, rfl⟩⟩
      · have ezr : zRf (clI (rNx E1).1) v (nI i) = (.inr eU, zRej (clI (rNx E1).1) 10 (nI i) v) := (if_neg a2).trans (if_neg a3)
        obtain ⟨Qi, hQi⟩ : ∃ Qi, Qi = (qEl i (qXr P)).1 := ⟨_, rfl⟩
        rw [ezr, b, ← hQi]
        obtain ⟨Q1, hQ1⟩ : ∃ Q1, Q1 = sMI (sMI (sMI (sMI (qRej Qi v d) 7 v) 5 10) 6 (nI i)) 4 (mI P 16) := ⟨_, rfl⟩
        have e3 : sMI (qXf (qRej Qi v d, 3) (i + 1)) 4 (mI P 16) = Q1 := by
          have y : qXf (qRej Qi v d, 3) (i + 1) = sMI (sMI (sMI (qRej Qi v d) 7 v) 5 10) 6 (nI (i + 1) - 1) := if_pos rfl
          rw [y, nI_pred, hQ1]
        rw [e3]
        show Rel _ 0 (zRej (clI (rNx E1).1) 10 (nI i) v) (qEnd Q1 3 2 2 3).1 ∧ agr _ (.inr eU) (mI (qEnd Q1 3 2 2 3).1 0) (qEnd Q1 3 2 2 3).2
        rw [end_back (show ¬ thr 3 2 2 3 = 0 by decide)]
        refine ⟨(ex_ref h hp hE rfl Q1 (zRej (clI (rNx E1).1) 10 (nI i) v) (thr 3 2 2 3) ⟨fun _ => rfl, fun j y2 y3 y4 => ?_, fun _ => rfl⟩ ?_ (fun j y4 y5 y6 y7 => ?_) ?_ ⟨?_, ?_, ?_, ?_⟩).mono (by omega), Or.inr ⟨2, eU, rfl, rfl, rfl⟩⟩
        · unfold zRej
          rw [dI_sD, if_neg y4, dI_sD, if_neg y3, dI_sD, if_neg y2]
        · rw [hQ1, ← hQi]; rfl
        · rw [hQ1, ← hQi]
          unfold qRej
          rw [mI_sI, if_neg y4, mI_sI, if_neg y6, mI_sI, if_neg y5, mI_sI, if_neg y7, mI_sI, if_neg y7, mI_sI, if_neg y6, mI_sI, if_neg y5]
        · rw [hQ1, ← hQi]; rfl
        · rw [hQ1]; rfl
        · rw [hQ1]; rfl
        · rw [hQ1]; rfl
        · rw [hQ1]
          exact ⟨fun z => absurd z a, fun z => absurd rfl z⟩
/-- what the class's walk asks -/
theorem ex_hyp (h : Rel B q D Q) (hB : B + 24 * (q + 1) ≤ 80000) : ∃ n, (rCc D).2 = nI n ∧ n ≤ 61 ∧ ∃ W : Nat → DM → Prop, W 0 (zX0 (rCc D).1) ∧ (∀ j E, W j E → rowC (dR E 1)) ∧ (∀ j E, j < n → W j E → wF (dF (rNx E).1 1) ∧ (zJu (rNx E).1 = 0 → ¬ rAr (rNx E).1 0 < 0) ∧ (zJu (rNx E).1 = 0 → W (j + 1) (zDo (rNx E).1))) ∧ ∀ E, W n E → vD E ∧ isCh (fI (dF E 1) 1) := by
  obtain ⟨hp, hr⟩ := prs h.2.2.2.2.2.2.1
  have hq := h.2.2.2.2.2.2.1.1
  rcases hr with ⟨r0, he⟩ | ⟨n, n0, n1, n2, n3, n4, f, f0, fs⟩
  · exact ⟨0, r0, by decide, EX B q D Q (qPa Q) (fun _ => 0), EX_0 h hp rfl, fun j E hE => (hE.v h).1.2.2.2.2.2.1, fun j E hj => absurd hj (by omega), fun E hE => hE.v h⟩
  · exact ⟨n, n2, by omega, EX B q D Q (qPa Q) f, EX_0 h hp f0, fun j E hE => (hE.v h).1.2.2.2.2.2.1, fun j E hj hE => hE.hP (fs j hj) (by omega) (by omega), fun E hE => hE.v h⟩
theorem EX.ex (h : Rel B q D Q) (hp : pkM Q P) (f0 : f 0 = 0) {n : Nat} (hn : n ≤ 60) (hs : ∀ j, j < n → stp q P j (f j) (f (j + 1))) (hB : B + 48 * n ≤ 80000) : ∀ j, j ≤ n → (qEl j (qXr P)).2 = 0 → ∃ E, EX B q D Q P f j E
  | 0, _, _ => ⟨_, EX_0 h hp f0⟩
  | j + 1, hj, hz => by
    have h4 : (qEl j (qXr P)).2 = 0 := by
      have e : qEl (j + 1) (qXr P) = if (qEl j (qXr P)).2 = 0 then qDo (qEl j (qXr P)).1 (4 * nI j) else qEl j (qXr P) := rfl
      by_cases z : (qEl j (qXr P)).2 = 0
      · exact z
      · rw [e, if_neg z] at hz
        exact hz
    obtain ⟨E, hE⟩ := EX.ex h hp f0 hn hs hB j (by omega) h4
    have key := hE.st (hs j (by omega)) (by omega) (by omega)
    rcases key with ⟨-, b⟩ | ⟨-, b⟩ | ⟨-, -, -, -, -, b⟩ | ⟨a, -⟩
    · rw [b] at hz; exact absurd hz (by decide : ¬ (1 : Int32) = 0)
    · rw [b] at hz; exact absurd hz (by decide : ¬ (2 : Int32) = 0)
    · rw [b] at hz; exact absurd hz (by decide : ¬ (3 : Int32) = 0)
    · exact ⟨_, hE.su (hs j (by omega)) (by omega) (by omega) a⟩
/-- what the reference's walk asks -/
theorem ex_hyp5 (h : Rel B q D Q) (hB : B + 24 * (q + 1) ≤ 80000) : ¬ 0 ≤ mI (qPa Q) 13 → ∀ j, j < qXm (qPa Q) → (qEl j (qXr (qPa Q))).2 = 0 → wM (mM (qEl j (qXr (qPa Q))).1) ∧ (∃ t, mM (qEl j (qXr (qPa Q))).1 4 = nI t ∧ t < 2 ^ 30) ∧ (cA (qEl j (qXr (qPa Q))).1 (4 * nI j) = 100 → qEx (mM (qDr 12 (sMI (qEl j (qXr (qPa Q))).1 4 0))) ≤ 0) := by
  intro h13 j hj hz
  obtain ⟨hp, hr⟩ := prs h.2.2.2.2.2.2.1
  have hq := h.2.2.2.2.2.2.1.1
  rcases hr with ⟨r0, p, p1, p2, p3⟩ | ⟨n, n0, n1, n2, n3, n4, f, f0, fs⟩
  · exact absurd (by rw [p3]; exact nI_pos' (by omega)) h13
  · have em : qXm (qPa Q) = n := by unfold qXm; rw [n4, nI_clamp (by omega)]
    rw [em] at hj
    obtain ⟨E, hE⟩ := EX.ex h hp f0 (by omega) fs (by omega) j (by omega) hz
    obtain ⟨h1, h2, h3, h4, h5, h6, h7⟩ := hE
    obtain ⟨t, t1, t2, -⟩ := h5.2.2.2.2.2.2.2.1
    exact ⟨h5.1, ⟨t, t2, by omega⟩, fun _ => (disp_all h5 h6).2.2.2.2⟩
end EXR
