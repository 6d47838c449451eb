/-! COMMANDS CARRIED OUT: what both leave. -/
section EXF
variable {B q : Nat} {D : DM} {Q : MM}
theorem Rel.fr (h : Rel B q D Q) {D' : DM} {Q' : MM} (hF : ∀ k, k ≠ 1 → dF D' k = dF D k) (hn : nF (dF D' 1)) (hd : ∀ k, k = 0 ∨ k = 5 ∨ k = 6 ∨ k = 11 → dI D' k = dI D k) (hr : ∀ k, 0 < k → dR D' k = dR D k)
    (hb : ∀ k, k < 10 → ∀ i, i < 129 → blk (mM Q') k i = blk (mM Q) k i) (hm : ∀ k, k = 2 ∨ k = 3 ∨ k = 9 → mI Q' k = mI Q k) (hl : mL Q' = mL Q) (rj : rejR D' Q') (sy : synR D' Q') (i1 : mI Q' 11 = nI 0) (i2 : dI D' 10 = nI 0) : Rel B 0 D' Q' := by
  obtain ⟨⟨a1, a2, a3, a4, a5⟩, ⟨b1, b2⟩, c, d, -, -, -, ⟨p, o1, o2, o3, o4⟩, o5⟩ := h
  have e5 := hd 5 (by decide)
  have eJ : hJ D' = hJ D := by unfold hJ; rw [e5]
  have h0 : ∀ i, i < 129 → mM Q' i = mM Q i := fun i hi => by
    have := hb 0 (by decide) i hi
    rwa [blk_0, blk_0] at this
  refine ⟨⟨fun k hk => ?_, by rw [e5, eJ]; exact a2, by rw [eJ]; exact a3, by rw [hr 1 (by decide)]; exact a4, by rw [hr 2 (by decide)]; exact a5⟩, ⟨okM_congr h0 b1, by rw [hF 0 (by decide)]; exact eqF_congr h0 b1 b2⟩, c.row (hm 2 (by decide)) (hd 6 (by decide)) e5 (fun k hk => hF k (by omega)) (fun k k1 k2 => hb k (by omega)), d.row (hm 3 (by decide)) (hd 0 (by decide)) (hF 2 (by decide)) (hb 9 (by decide)), rj, sy, ⟨by decide, i1, i2, fun i hi => absurd hi (by omega)⟩, ⟨p, o1, (hm 9 (by decide)).trans o2, (hd 11 (by decide)).trans o3, fun i hi => ?_⟩, fun i => ?_⟩
  · by_cases e : k = 1
    · subst e
      exact hn
    · rw [hF k e]
      exact a1 k hk
  · rw [hr 2 (by decide), hl]
    exact o4 i hi
  · rw [hl]
    exact o5 i
/-- what stands wrong -/
theorem ex_bad (h : Rel B q D Q) {P : MM} (hp : pkM Q P) (he : er q (rCc D).1 P) : Rel B 0 (clI (sD (rCc D).1 1 (dI (rCc D).1 8))) (sMI (sMI (sMI P 11 0) 14 (mI P 13)) 0 1) := by
  have s := Sm_Cc D
  obtain ⟨p, p1, p2, p3⟩ := he
  have hq := h.2.2.2.2.2.2.1.1
  obtain ⟨r1, r2, r3, r4⟩ := h.2.2.2.2.1
  have hm : ∀ k, k ≠ 12 → k ≠ 13 → k ≠ 16 → k ≠ 11 → k ≠ 14 → k ≠ 0 → mI (sMI (sMI (sMI P 11 0) 14 (mI P 13)) 0 1) k = mI Q k := fun k a b c d e f => by
    rw [mI_sI, if_neg f, mI_sI, if_neg e, mI_sI, if_neg d]
    exact hp.2.2.2 k a b c
  have hd : ∀ k, k ≠ 1 → k ≠ 10 → k < 7 ∨ 9 < k → dI (clI (sD (rCc D).1 1 (dI (rCc D).1 8))) k = dI D k := fun k a b c => by
    show (if k = 10 then 0 else if k = 1 then dI (rCc D).1 8 else dI (rCc D).1 k) = _
    rw [if_neg b, if_neg a]
    exact s.2.1 k c
  have m5 := hm 5 (by decide) (by decide) (by decide) (by decide) (by decide) (by decide)
  have m6 := hm 6 (by decide) (by decide) (by decide) (by decide) (by decide) (by decide)
  have m7 := hm 7 (by decide) (by decide) (by decide) (by decide) (by decide) (by decide)
  refine h.fr (fun k _ => congrFun s.1 k) ?_ (fun k hk => hd k (by omega) (by omega) (by omega)) (fun k hk => ?_) (fun k hk i hi => ?_) (fun k hk => hm k (by omega) (by omega) (by omega) (by omega) (by omega) (by omega)) hp.2.1 ⟨?_, ?_, ?_, ?_⟩ ⟨?_, ?_⟩ rfl rfl
  · show nF (dF (rCc D).1 1)
    rw [show dF (rCc D).1 1 = dF D 1 from congrFun s.1 1]
    exact h.1.1 1 (by decide)
  · show (if k = 1 then dR (rCc D).1 1 else dR (rCc D).1 k) = _
    by_cases e : k = 1
    · subst e
      rw [if_pos rfl]
      exact s.2.2 1 (by decide)
    · rw [if_neg e]
      exact s.2.2 k hk
  · show blk (mM P) k i = _
    rw [hp.1]
  · rw [hd 2 (by decide) (by decide) (by decide), m5]
    exact r1
  · rw [hd 3 (by decide) (by decide) (by decide), m6]
    exact r2
  · rw [hd 4 (by decide) (by decide) (by decide), m7]
    exact r3
  · rw [m5, m7]
    exact r4
  · show dI (rCc D).1 8 = mI P 13
    rw [p2, p3]
  · show mI P 13 = -1 ∨ ∃ p, p ≤ 60 ∧ mI P 13 = nI p
    exact Or.inr ⟨p, by omega, p3⟩
section EXG
variable {P : MM} {f : Nat → Nat}
/-- a command is refused: the present row is put back -/
theorem ex_ref (h : Rel B q D Q) (hp : pkM Q P) {i : Nat} {E E' : DM} (hE : EX B q D Q P f i E) (hE' : E' = clI (rNx E).1) (Q1 : MM) (D1 : DM) (k : Int32) (hD : (∀ j, dF D1 j = dF E' j) ∧ (∀ j, j ≠ 2 → j ≠ 3 → j ≠ 4 → dI D1 j = dI E' j) ∧ ∀ j, dR D1 j = dR E' j)
    (hM : mM Q1 = mM (qEl i (qXr P)).1) (hI : ∀ j, j ≠ 4 → j ≠ 5 → j ≠ 6 → j ≠ 7 → mI Q1 j = mI (qEl i (qXr P)).1 j) (hL : mL Q1 = mL (qEl i (qXr P)).1) (rj : rejR D1 Q1) : Rel B 0 D1 (sMM (sMI Q1 0 k) (cpM (mM Q1) 10 0)) := by
  obtain ⟨h1, h2, ⟨h3, h3b, h3c⟩, h4, h5, h6, k1, k2, k3, k4, k5⟩ := hE
  obtain ⟨d1, d2, d3⟩ := hD
  have s := Sm_Nx E
  have eF : ∀ k, dF E' k = dF E k := fun k => by rw [hE']; exact congrFun s.1 k
  have eI : ∀ k, k ≠ 10 → k < 7 ∨ 9 < k → dI E' k = dI D k := fun k a b => by
    rw [hE']
    show (if k = 10 then 0 else dI (rNx E).1 k) = _
    rw [if_neg a]
    exact (s.2.1 k b).trans (h3b k b)
  have eR : ∀ k, 0 < k → dR E' k = dR D k := fun k a => by
    rw [hE']
    show (if k = 1 then dR (rNx E).1 1 else dR (rNx E).1 k) = _
    by_cases e : k = 1
    · subst e
      rw [if_pos rfl]
      exact (s.2.2 1 (by decide)).trans (h3c 1 (by decide))
    · rw [if_neg e]
      exact (s.2.2 k a).trans (h3c k a)
  have mi : ∀ j, j ≠ 0 → j ≠ 4 → j ≠ 5 → j ≠ 6 → j ≠ 7 → j ≠ 11 → j ≠ 12 → j ≠ 13 → j ≠ 16 → mI (sMM (sMI Q1 0 k) (cpM (mM Q1) 10 0)) j = mI Q j := fun j a0 a4 a5 a6 a7 a11 a12 a13 a16 => by
    rw [mI_sM, mI_sI, if_neg a0, hI j a4 a5 a6 a7, k1 j a4]
    show mI (sMI P 11 0) j = _
    rw [mI_sI, if_neg a11]
    exact hp.2.2.2 j a12 a13 a16
  obtain ⟨r1, r2, r3, r4⟩ := rj
  obtain ⟨y1, y2⟩ := h.2.2.2.2.2.1
  have m14 := mi 14 (by decide) (by decide) (by decide) (by decide) (by decide) (by decide) (by decide) (by decide) (by decide)
  refine h.fr (fun j hj => (d1 j).trans ((eF j).trans (h3 j hj))) (by rw [d1, eF]; exact nF_of h6) (fun j hj => (d2 j (by omega) (by omega) (by omega)).trans (eI j (by omega) (by omega))) (fun j hj => (d3 j).trans (eR j hj)) (fun j hj i' hi' => ?_) (fun j hj => mi j (by omega) (by omega) (by omega) (by omega) (by omega) (by omega) (by omega) (by omega) (by omega)) ?_ ⟨r1, r2, r3, r4⟩ ⟨?_, ?_⟩ ?_ ?_
  · show blk (cpM (mM Q1) 10 0) j i' = _
    have e0 : mM (qB (sMI P 11 0)) = cpM (mM Q) 0 10 := by
      show cpM (mM P) 0 10 = _
      rw [hp.1]
    rw [blk_cp _ _ _ _ hi', hM]
    by_cases e : j = 0
    · subst e
      rw [if_pos rfl, blk_hi k2 (by decide), e0, blk_cp _ _ _ _ hi', if_pos rfl]
    · rw [if_neg e, blk_hi k2 (by omega), e0, blk_cp _ _ _ _ hi', if_neg (by omega)]
  · show mL Q1 = _
    rw [hL, k3]
    exact hp.2.1
  · rw [d2 1 (by decide) (by decide) (by decide), eI 1 (by decide) (by decide), m14]
    exact y1
  · rw [m14]
    exact y2
  · show mI Q1 11 = _
    rw [hI 11 (by decide) (by decide) (by decide) (by decide), k1 11 (by decide)]
    rfl
  · rw [d2 10 (by decide) (by decide) (by decide), hE']
    rfl
/-- all are carried out -/
theorem ex_ok (h : Rel B q D Q) (hp : pkM Q P) {n : Nat} {E : DM} (hE : EX B q D Q P f n E) (v : Int32) : Rel (B + 48 * n) 0 (sF (hKp (clI E) (hJ (clI E))) 0 (dF (hKp (clI E) (hJ (clI E))) 1)) (qEnd (sMI (qEl n (qXr P)).1 4 v) 0 2 2 3).1 ∧ mI (qEnd (sMI (qEl n (qXr P)).1 4 v) 0 2 2 3).1 0 = 0 ∧ (qEnd (sMI (qEl n (qXr P)).1 4 v) 0 2 2 3).2 = v := by
  obtain ⟨h1, h2, ⟨h3, h3b, h3c⟩, h4, h5, h6, k1, k2, k3, k4, k5⟩ := hE
  obtain ⟨⟨a1, a2, a3, a4, a5⟩, ⟨b1, b2⟩, c, d, e, y, g, o⟩ := h
  obtain ⟨X, hX⟩ : ∃ X, X = clI E := ⟨_, rfl⟩
  rw [← hX]
  have eF : ∀ k, k ≠ 1 → dF X k = dF D k := fun k hk => by rw [hX]; exact h3 k hk
  have eF1 : dF X 1 = dF E 1 := by rw [hX]; rfl
  have eI : ∀ k, k ≠ 10 → k < 7 ∨ 9 < k → dI X k = dI D k := fun k a b => by
    rw [hX]
    show (if k = 10 then 0 else dI E k) = _
    rw [if_neg a]
    exact h3b k b
  have eR : ∀ k, 0 < k → dR X k = dR D k := fun k a => by
    rw [hX]
    show (if k = 1 then dR E 1 else dR E k) = _
    by_cases e : k = 1
    · subst e
      rw [if_pos rfl]
      exact h3c 1 (by decide)
    · rw [if_neg e]
      exact h3c k a
  have e10 : dI X 10 = nI 0 := by rw [hX]; rfl
  have e5 := eI 5 (by decide) (by decide)
  have eJ : hJ X = hJ D := by unfold hJ; rw [e5]
  have cX : hist B X Q := c.row rfl (eI 6 (by decide) (by decide)) e5 (fun k hk => eF k (by omega)) (fun _ _ _ _ _ => rfl)
  have mm : ∀ k, k ≠ 4 → mI (sMI (qEl n (qXr P)).1 4 v) k = mI (sMI P 11 0) k := fun k hk => by
    rw [mI_sI, if_neg hk]
    exact k1 k hk
  have kh : hiE (cpM (mM Q) 0 10) (mM (sMI (qEl n (qXr P)).1 4 v)) := by
    rw [← hp.1]
    exact k2
  obtain ⟨p1, p2, p3, p4, p5, p6, p7⟩ := hist_push (D := X) (Q := Q) (Q1 := sMI (qEl n (qXr P)).1 4 v) (F' := dF (hKp X (hJ X)) 1) 2 2 3 (show B ≤ B + 48 * n by omega) cX (by rw [e5, eJ]; exact a2) (by rw [eJ]; exact a3) b1 (by rw [eF 0 (by decide)]; exact b2)
    ((mm 2 (by decide)).trans (hp.2.2.2 2 (by decide) (by decide) (by decide))) kh
  have eK : dF (hKp X (hJ X)) 1 = dF E 1 := (dF_hKp X (hJ X) (by decide)).trans eF1
  have hm : ∀ k, k ≠ 0 → k ≠ 2 → k ≠ 4 → k ≠ 11 → k ≠ 12 → k ≠ 13 → k ≠ 16 → mI (qEnd (sMI (qEl n (qXr P)).1 4 v) 0 2 2 3).1 k = mI Q k := fun k i j l l1 l2 l3 l4 => by
    rw [p4 k i j, mm k l, mI_sI, if_neg l1]
    exact hp.2.2.2 k l2 l3 l4
  have eDI : ∀ k, k ≠ 5 → k ≠ 6 → dI (sF (hKp X (hJ X)) 0 (dF (hKp X (hJ X)) 1)) k = dI X k := fun k a b => by
    show (if k = 6 then _ else if k = 5 then _ else dI X k) = _
    rw [if_neg b, if_neg a]
  refine ⟨⟨⟨fun k hk => ?_, ?_, ?_, ?_, ?_⟩, ⟨okM_congr p2 h5, ?_⟩, p1, (d.mono (by omega)).row (hm 3 (by decide) (by decide) (by decide) (by decide) (by decide) (by decide) (by decide)) ?_ ?_ p3, ?_, ?_, ?_, ?_⟩, p5, p7⟩
  · show nF (if k = 0 then dF (hKp X (hJ X)) 1 else if k = 3 + hJ X then dF X 0 else dF X k)
    by_cases e0 : k = 0
    · rw [if_pos e0, eK]; exact nF_of h6
    · rw [if_neg e0]
      by_cases e3 : k = 3 + hJ X
      · rw [if_pos e3, eF 0 (by decide)]; exact a1 0 (by omega)
      · rw [if_neg e3]
        by_cases e1 : k = 1
        · rw [e1, eF1]; exact nF_of h6
        · rw [eF k e1]; exact a1 k hk
  · show nI ((hJ X + 1) % 8) = nI (nI ((hJ X + 1) % 8)).toNatClampNeg
    rw [nI_clamp (by omega)]
  · show (nI ((hJ X + 1) % 8)).toNatClampNeg < 8
    rw [nI_clamp (by omega)]
    omega
  · show rowC (dR X 1)
    rw [eR 1 (by decide)]
    exact a4
  · show rowC (dR X 2)
    rw [eR 2 (by decide)]
    exact a5
  · show eqF (dF (hKp X (hJ X)) 1) _
    rw [eK]
    exact eqF_congr p2 h5 h6
  · rw [eDI 0 (by decide) (by decide)]
    exact eI 0 (by decide) (by decide)
  · show (if 2 = 0 then dF (hKp X (hJ X)) 1 else if 2 = 3 + hJ X then dF X 0 else dF X 2) = dF D 2
    rw [if_neg (by omega), if_neg (by omega)]
    exact eF 2 (by decide)
  · obtain ⟨r1, r2, r3, r4⟩ := e
    have m5 := hm 5 (by decide) (by decide) (by decide) (by decide) (by decide) (by decide) (by decide)
    have m6 := hm 6 (by decide) (by decide) (by decide) (by decide) (by decide) (by decide) (by decide)
    have m7 := hm 7 (by decide) (by decide) (by decide) (by decide) (by decide) (by decide) (by decide)
    refine ⟨?_, ?_, ?_, by rw [m5, m7]; exact r4⟩
    · rw [eDI 2 (by decide) (by decide), eI 2 (by decide) (by decide), m5]; exact r1
    · rw [eDI 3 (by decide) (by decide), eI 3 (by decide) (by decide), m6]; exact r2
    · rw [eDI 4 (by decide) (by decide), eI 4 (by decide) (by decide), m7]; exact r3
  · obtain ⟨f1, f2⟩ := y
    have m := hm 14 (by decide) (by decide) (by decide) (by decide) (by decide) (by decide) (by decide)
    refine ⟨?_, by rw [m]; exact f2⟩
    rw [eDI 1 (by decide) (by decide), eI 1 (by decide) (by decide), m]
    exact f1
  · refine ⟨by decide, ?_, ?_, fun i hi => absurd hi (by omega)⟩
    · rw [p4 11 (by decide) (by decide), mm 11 (by decide)]
      rfl
    · rw [eDI 10 (by decide) (by decide)]
      exact e10
  · obtain ⟨⟨p, o1, o2, o3, o4⟩, o5⟩ := o
    have eL : mL (qEnd (sMI (qEl n (qXr P)).1 4 v) 0 2 2 3).1 = mL Q := by
      rw [p6.1]
      show mL (qEl n (qXr P)).1 = _
      rw [k3]
      exact hp.2.1
    refine ⟨⟨p, o1, (hm 9 (by decide) (by decide) (by decide) (by decide) (by decide) (by decide) (by decide)).trans o2, ?_, fun i hi => ?_⟩, fun i => ?_⟩
    · rw [eDI 11 (by decide) (by decide), eI 11 (by decide) (by decide)]
      exact o3
    · rw [eL]
      show dR X 2 i = _
      rw [eR 2 (by decide)]
      exact o4 i hi
    · rw [eL]
      exact o5 i
end EXG
end EXF
