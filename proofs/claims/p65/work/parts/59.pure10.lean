/-! the whole of both: the history, the snapshot, rejections, texts -/
def blk (M : Nat → Int32) (k : Nat) : Nat → Int32 := fun i => M (129 * k + i)
theorem blk_cp (M : Nat → Int32) (f t k : Nat) {i : Nat} (hi : i < 129) : blk (cpM M f t) k i = if k = t then blk M f i else blk M k i := by
  unfold blk cpM
  by_cases e : k = t
  · subst e
    rw [if_pos rfl, if_pos (by omega), show 129 * f + (129 * k + i - 129 * k) = 129 * f + i by omega]
  · rw [if_neg e, if_neg (by omega)]
theorem cp_lo (M : Nat → Int32) (f : Nat) {t : Nat} (ht : 0 < t) {i : Nat} (hi : i < 129) : cpM M f t i = M i := by
  unfold cpM
  rw [if_neg (by omega)]
theorem cp_0 (M : Nat → Int32) (f : Nat) {i : Nat} (hi : i < 129) : cpM M f 0 i = blk M f i := by
  unfold cpM blk
  rw [if_pos (by omega)]
  rfl
theorem blk_hi {M M' : Nat → Int32} (h : hiE M M') {k : Nat} (hk : 0 < k) (i : Nat) : blk M' k i = blk M k i := h _ (by omega)
theorem blk_0 (M : Nat → Int32) (i : Nat) : blk M 0 i = M i := by unfold blk; rw [show 129 * 0 + i = i by omega]
theorem blk_shf (M : Nat → Int32) : ∀ (n : Nat), n ≤ 7 → ∀ (k i : Nat), i < 129 → blk (shf M n) k i = if 1 ≤ k ∧ k ≤ n then blk M (k + 1) i else blk M k i
  | 0, _, k, i, _ => by rw [if_neg (by omega)]; rfl
  | n + 1, h, k, i, hi => by
    unfold shf
    rw [blk_cp _ _ _ _ hi]
    by_cases e : k = n + 1
    · subst e
      rw [if_pos rfl, blk_shf M n (by omega) _ i hi, if_neg (by omega), if_pos (by omega)]
    · rw [if_neg e, blk_shf M n (by omega) _ i hi]
      by_cases e2 : 1 ≤ k ∧ k ≤ n
      · rw [if_pos e2, if_pos (by omega)]
      · rw [if_neg e2, if_neg (by omega)]
def okD (D : DM) : Prop := (∀ k, k < 11 → nF (dF D k)) ∧ dI D 5 = nI (hJ D) ∧ hJ D < 8 ∧ rowC (dR D 1) ∧ rowC (dR D 2)
def hist (B : Nat) (D : DM) (Q : MM) : Prop := ∃ s, s ≤ 8 ∧ mI Q 2 = nI s ∧ dI D 6 = nI s ∧ ∀ i, i < s → okM B (blk (mM Q) (s - i)) ∧ eqF (dF D (3 + (hJ D + 7 - i) % 8)) (blk (mM Q) (s - i))
def snap (B : Nat) (D : DM) (Q : MM) : Prop := ∃ v : Bool, mI Q 3 = b2i v ∧ dI D 0 = b2i v ∧ (v = true → okM B (blk (mM Q) 9) ∧ eqF (dF D 2) (blk (mM Q) 9))
def rejR (D : DM) (Q : MM) : Prop := dI D 2 = mI Q 5 ∧ dI D 3 = mI Q 6 ∧ dI D 4 = mI Q 7 ∧ (mI Q 7 = 0 ↔ ¬ mI Q 5 = 10)
def synR (D : DM) (Q : MM) : Prop := dI D 1 = mI Q 14 ∧ (mI Q 14 = -1 ∨ ∃ p, p ≤ 60 ∧ mI Q 14 = nI p)
def inpR (q : Nat) (D : DM) (Q : MM) : Prop := q ≤ 60 ∧ mI Q 11 = nI q ∧ dI D 10 = nI q ∧ ∀ i, i < q → dR D 1 i = mN Q i ∧ ∃ ch, 32 ≤ ch ∧ ch ≤ 126 ∧ mN Q i = nI ch
def outR (D : DM) (Q : MM) : Prop := (∃ q, q ≤ 40 ∧ mI Q 9 = nI q ∧ dI D 11 = nI q ∧ ∀ i, i < q → dR D 2 i = mL Q i) ∧ ∀ i, isCh (mL Q i)
/-- the class and the reference agree: not more than B hours have passed, q characters wait -/
def Rel (B q : Nat) (D : DM) (Q : MM) : Prop := okD D ∧ (okM B (mM Q) ∧ eqF (dF D 0) (mM Q)) ∧ hist B D Q ∧ snap B D Q ∧ rejR D Q ∧ synR D Q ∧ inpR q D Q ∧ outR D Q
theorem isCh_sgn (w : Int32) : isCh (qSgn w) := by
  unfold qSgn
  repeat' split
  all_goals exact ⟨rfl, rfl⟩
theorem Rel.v {B q : Nat} {D : DM} {Q : MM} (h : Rel B q D Q) : vD D := by
  obtain ⟨⟨a1, a2, a3, a4, a5⟩, ⟨b1, b2⟩, -⟩ := h
  exact ⟨a1, by rw [b2.2.1]; exact isCh_sgn _, wF_of b1.1 b2.1, a2, a3, a4, a5⟩
theorem Rel.c {B q : Nat} {D : DM} {Q : MM} (h : Rel B q D Q) : hC Q := by
  obtain ⟨s, s1, s2, -⟩ := h.2.2.1
  unfold hC
  rw [s2, nI_clamp (by omega)]
  exact ⟨rfl, s1⟩
theorem Rel.w {B q : Nat} {D : DM} {Q : MM} (h : Rel B q D Q) : wM (mM Q) := h.2.1.1.1
theorem Rel.t {B q : Nat} {D : DM} {Q : MM} (h : Rel B q D Q) : ∃ t, t ≤ B ∧ mM Q 4 = nI t := by
  obtain ⟨t, t1, t2, -⟩ := h.2.1.1.2.2.2.2.2.2.2.1
  exact ⟨t, t1, t2⟩
theorem hist.mono {B B' : Nat} {D : DM} {Q : MM} (h : hist B D Q) (hb : B ≤ B') : hist B' D Q := by
  obtain ⟨s, s1, s2, s3, s4⟩ := h
  exact ⟨s, s1, s2, s3, fun i hi => ⟨okM_mono (s4 i hi).1 hb, (s4 i hi).2⟩⟩
theorem snap.mono {B B' : Nat} {D : DM} {Q : MM} (h : snap B D Q) (hb : B ≤ B') : snap B' D Q := by
  obtain ⟨v, v1, v2, v3⟩ := h
  exact ⟨v, v1, v2, fun e => ⟨okM_mono (v3 e).1 hb, (v3 e).2⟩⟩
theorem Rel.mono {B B' q : Nat} {D : DM} {Q : MM} (h : Rel B q D Q) (hb : B ≤ B') : Rel B' q D Q :=
  ⟨h.1, ⟨okM_mono h.2.1.1 hb, h.2.1.2⟩, h.2.2.1.mono hb, h.2.2.2.1.mono hb, h.2.2.2.2⟩
/-- only the number of the throw has changed -/
theorem Rel.thr {B q : Nat} {D : DM} {Q : MM} (h : Rel B q D Q) (k : Int32) : Rel B q D (sMI Q 0 k) := h
/-- the present row has been put back -/
theorem hist.row {B : Nat} {D D' : DM} {Q Q' : MM} (h : hist B D Q) (e2 : mI Q' 2 = mI Q 2) (e6 : dI D' 6 = dI D 6) (e5 : dI D' 5 = dI D 5) (eF : ∀ k, 3 ≤ k → dF D' k = dF D k) (eb : ∀ k, 1 ≤ k → k ≤ 8 → ∀ i, i < 129 → blk (mM Q') k i = blk (mM Q) k i) : hist B D' Q' := by
  obtain ⟨s, s1, s2, s3, s4⟩ := h
  have eJ : hJ D' = hJ D := by unfold hJ; rw [e5]
  refine ⟨s, s1, e2.trans s2, e6.trans s3, fun i hi => ?_⟩
  obtain ⟨a, b⟩ := s4 i hi
  rw [eJ, eF _ (by omega)]
  exact ⟨okM_congr (eb _ (by omega) (by omega)) a, eqF_congr (eb _ (by omega) (by omega)) a b⟩
theorem snap.row {B : Nat} {D D' : DM} {Q Q' : MM} (h : snap B D Q) (e3 : mI Q' 3 = mI Q 3) (e0 : dI D' 0 = dI D 0) (eF : dF D' 2 = dF D 2) (eb : ∀ i, i < 129 → blk (mM Q') 9 i = blk (mM Q) 9 i) : snap B D' Q' := by
  obtain ⟨v, v1, v2, v3⟩ := h
  refine ⟨v, e3.trans v1, e0.trans v2, fun e => ?_⟩
  obtain ⟨a, b⟩ := v3 e
  rw [eF]
  exact ⟨okM_congr eb a, eqF_congr eb a b⟩
theorem b8_1 (x y z : Int32) : thr 0 x y z = 0 := by
  unfold thr
  rw [if_neg (by decide), if_neg (by decide), if_neg (by decide)]
/-- a change is kept -/
theorem hist_push {B B' : Nat} {D : DM} {Q Q1 : MM} {F' : FM} (x y z : Int32) (hB : B ≤ B') (h : hist B D Q) (h5 : dI D 5 = nI (hJ D)) (h8 : hJ D < 8) (hM : okM B (mM Q)) (hF : eqF (dF D 0) (mM Q)) (k1 : mI Q1 2 = mI Q 2) (kh : hiE (cpM (mM Q) 0 10) (mM Q1)) :
    hist B' (sF (hKp D (hJ D)) 0 F') (qEnd Q1 0 x y z).1 ∧ (∀ i, i < 129 → mM (qEnd Q1 0 x y z).1 i = mM Q1 i) ∧ (∀ i, i < 129 → blk (mM (qEnd Q1 0 x y z).1) 9 i = blk (mM Q) 9 i) ∧ (∀ k, k ≠ 0 → k ≠ 2 → mI (qEnd Q1 0 x y z).1 k = mI Q1 k) ∧ mI (qEnd Q1 0 x y z).1 0 = 0 ∧ (mL (qEnd Q1 0 x y z).1 = mL Q1 ∧ mN (qEnd Q1 0 x y z).1 = mN Q1) ∧ (qEnd Q1 0 x y z).2 = mI Q1 4 := by
  obtain ⟨s, s1, s2, s3, s4⟩ := h
  have hJ' : hJ (sF (hKp D (hJ D)) 0 F') = (hJ D + 1) % 8 := by
    show (nI ((hJ D + 1) % 8)).toNatClampNeg = _
    exact nI_clamp (by omega)
  have e6 : dI (sF (hKp D (hJ D)) 0 F') 6 = nI (if s = 8 then 8 else s + 1) := by
    show (if 8 < dI D 6 + 1 then 8 else dI D 6 + 1) = _
    rw [s3, nI_1]
    by_cases e : s = 8
    · subst e
      rw [if_pos (show (8 : Int32) < nI (8 + 1) by decide), if_pos rfl]
      rfl
    · rw [if_neg (show ¬ (8 : Int32) < nI (s + 1) from nI_nlt (b := s + 1) (a := 8) (by omega) (by decide)), if_neg e]
  have eF : ∀ k, dF (sF (hKp D (hJ D)) 0 F') k = if k = 0 then F' else if k = 3 + hJ D then dF D 0 else dF D k := fun k => rfl
  have hb : ∀ k, 0 < k → ∀ i, i < 129 → blk (mM Q1) k i = if k = 10 then mM Q i else blk (mM Q) k i := by
    intro k hk i hi
    rw [blk_hi kh hk, blk_cp _ _ _ _ hi]
    by_cases e : k = 10
    · rw [if_pos e, if_pos e, blk_0]
    · rw [if_neg e, if_neg e]
  have fin : ∀ (Mz : Nat → Int32), (∀ k, 1 ≤ k → k ≤ 8 → ∀ i, i < 129 → blk Mz k i = if k = (if s = 8 then 8 else s + 1) then mM Q i else if s = 8 then blk (mM Q) (k + 1) i else blk (mM Q) k i) →
      ∀ i, i < (if s = 8 then 8 else s + 1) → okM B' (blk Mz ((if s = 8 then 8 else s + 1) - i)) ∧ eqF (dF (sF (hKp D (hJ D)) 0 F') (3 + (hJ (sF (hKp D (hJ D)) 0 F') + 7 - i) % 8)) (blk Mz ((if s = 8 then 8 else s + 1) - i)) := by
    intro Mz hz i hi
    have hs8 : (if s = 8 then 8 else s + 1) ≤ 8 := by split <;> omega
    obtain ⟨s', hs'⟩ : ∃ s', s' = (if s = 8 then 8 else s + 1) := ⟨_, rfl⟩
    rw [← hs'] at hz hi hs8 ⊢
    rw [hJ', eF, if_neg (by omega)]
    by_cases e0 : i = 0
    · subst e0
      have hzz : ∀ j, j < 129 → blk Mz (s' - 0) j = mM Q j := fun j hj => by rw [hz _ (by omega) (by omega) j hj, if_pos (by omega)]
      rw [if_pos (by omega)]
      exact ⟨okM_mono (okM_congr hzz hM) hB, eqF_congr hzz hM hF⟩
    · have his : i - 1 < s := by
        by_cases e8 : s = 8
        · rw [if_pos e8] at hs'; omega
        · rw [if_neg e8] at hs'; omega
      obtain ⟨a, b⟩ := s4 (i - 1) his
      have hzz : ∀ j, j < 129 → blk Mz (s' - i) j = blk (mM Q) (s - (i - 1)) j := fun j hj => by
        rw [hz _ (by omega) (by omega) j hj, if_neg (by omega)]
        by_cases e8 : s = 8
        · rw [if_pos e8] at hs'
          rw [if_pos e8, show s' - i + 1 = s - (i - 1) by omega]
        · rw [if_neg e8] at hs'
          rw [if_neg e8, show s' - i = s - (i - 1) by omega]
      have hi8 : i < 8 := by omega
      rw [if_neg (by omega), show ((hJ D + 1) % 8 + 7 - i) % 8 = (hJ D + 7 - (i - 1)) % 8 by omega]
      exact ⟨okM_mono (okM_congr hzz a) hB, eqF_congr hzz a b⟩
  unfold qEnd
  rw [if_pos (b8_1 x y z), k1, s2]
  by_cases e8 : s = 8
  · rw [if_pos (show nI s = 8 by rw [e8]; rfl)]
    rw [if_pos e8] at e6 fin
    have hcl : (nI s).toNatClampNeg = 8 := by rw [nI_clamp (by omega), e8]
    rw [hcl]
    refine ⟨⟨8, by omega, ?_, e6, ?_⟩, fun i hi => ?_, fun i hi => ?_, fun k a b => ?_, rfl, ⟨rfl, rfl⟩, rfl⟩
    · show nI s - 1 + 1 = nI 8
      rw [e8]; rfl
    · refine fin _ (fun k a b i hi => ?_)
      show blk (cpM (shf (mM Q1) 7) 10 8) k i = _
      rw [blk_cp _ _ _ _ hi, blk_shf _ 7 (by omega) _ i hi, blk_shf _ 7 (by omega) _ i hi, if_neg (show ¬ (1 ≤ 10 ∧ 10 ≤ 7) by omega), if_pos e8]
      by_cases e : k = 8
      · rw [if_pos e, if_pos e, hb 10 (by omega) i hi, if_pos rfl]
      · rw [if_neg e, if_neg e, if_pos (by omega), hb (k + 1) (by omega) i hi, if_neg (by omega)]
    · show cpM (shf (mM Q1) 7) 10 8 i = _
      rw [cp_lo _ _ (by omega) hi]
      have := blk_shf (mM Q1) 7 (by omega) 0 i hi
      rw [if_neg (by omega), blk_0, blk_0] at this
      exact this
    · show blk (cpM (shf (mM Q1) 7) 10 8) 9 i = _
      rw [blk_cp _ _ _ _ hi, if_neg (by omega), blk_shf _ 7 (by omega) _ i hi, if_neg (by omega), hb 9 (by omega) i hi, if_neg (by omega)]
    · show mI (sMI (sMI (sMM (sMI Q1 0 0) (shf (mM Q1) 7)) 2 (nI s - 1)) 2 (nI s - 1 + 1)) k = _
      rw [mI_sI, if_neg b, mI_sI, if_neg b, mI_sM, mI_sI, if_neg a]
  · rw [if_neg (show ¬ nI s = 8 from fun q => e8 (nI_inj3 (b := 8) (by omega) (by decide) q)), nI_1, nI_clamp (by omega)]
    rw [if_neg e8] at e6 fin
    refine ⟨⟨s + 1, by omega, rfl, e6, ?_⟩, fun i hi => ?_, fun i hi => ?_, fun k a b => ?_, rfl, ⟨rfl, rfl⟩, rfl⟩
    · refine fin _ (fun k a b i hi => ?_)
      show blk (cpM (mM Q1) 10 (s + 1)) k i = _
      rw [blk_cp _ _ _ _ hi, if_neg e8]
      by_cases e : k = s + 1
      · rw [if_pos e, if_pos e, hb 10 (by omega) i hi, if_pos rfl]
      · rw [if_neg e, if_neg e, hb k (by omega) i hi, if_neg (by omega)]
    · show cpM (mM Q1) 10 (s + 1) i = _
      exact cp_lo _ _ (by omega) hi
    · show blk (cpM (mM Q1) 10 (s + 1)) 9 i = _
      rw [blk_cp _ _ _ _ hi, if_neg (by omega), hb 9 (by omega) i hi, if_neg (by omega)]
    · show mI (sMI (sMI Q1 0 0) 2 (nI (s + 1))) k = _
      rw [mI_sI, if_neg b, mI_sI, if_neg a]
/-- a change that is not made: the present row is put back -/
theorem end_back {Q1 : MM} {b x y z : Int32} (h : ¬ thr b x y z = 0) : qEnd Q1 b x y z = (sMM (sMI Q1 0 (thr b x y z)) (cpM (mM Q1) 10 0), 0) := by
  unfold qEnd
  exact if_neg h
section CHG
variable {B q : Nat} {D : DM} {Q : MM}
theorem nF_of {F : FM} {M : Nat → Int32} (h : eqF F M) : nF F := h.2.2.2.2.2.2.2.2
/-- rejected, whatever the reason: what is left -/
theorem back_rel (h : Rel B q D Q) {Q1 : MM} (D' : DM) (hq : mM Q1 = cpM (mM Q) 0 10) (hI : ∀ k, k ≠ 4 → k ≠ 5 → k ≠ 6 → k ≠ 7 → mI Q1 k = mI Q k) (hL : mL Q1 = mL Q ∧ mN Q1 = mN Q) (hD : D'.1 = D.1 ∧ (∀ k, k ≠ 2 → k ≠ 3 → k ≠ 4 → dI D' k = dI D k) ∧ D'.2.2 = D.2.2) (hr : rejR D' Q1) (k : Int32) :
    Rel B q D' (sMM (sMI Q1 0 k) (cpM (mM Q1) 10 0)) := by
  obtain ⟨⟨a1, a2, a3, a4, a5⟩, ⟨b1, b2⟩, c, d, e, f, g, o⟩ := h
  have e0 : ∀ i, i < 129 → cpM (mM Q1) 10 0 i = mM Q i := fun i hi => by rw [cp_0 _ _ hi, hq, blk_cp _ _ _ _ hi, if_pos rfl, blk_0]
  have eb : ∀ k, 1 ≤ k → k < 10 → ∀ i, i < 129 → blk (cpM (mM Q1) 10 0) k i = blk (mM Q) k i := fun k k1 k2 i hi => by rw [blk_cp _ _ _ _ hi, if_neg (by omega), hq, blk_cp _ _ _ _ hi, if_neg (by omega)]
  have eF : ∀ k, dF D' k = dF D k := fun k => congrFun hD.1 k
  have eR : ∀ k, dR D' k = dR D k := fun k => congrFun hD.2.2 k
  have e5 : dI D' 5 = dI D 5 := hD.2.1 5 (by decide) (by decide) (by decide)
  have eJ : hJ D' = hJ D := by unfold hJ; rw [e5]
  refine ⟨⟨fun k hk => by rw [eF]; exact a1 k hk, by rw [e5, eJ]; exact a2, by rw [eJ]; exact a3, by rw [eR]; exact a4, by rw [eR]; exact a5⟩, ⟨okM_congr e0 b1, by rw [eF]; exact eqF_congr e0 b1 b2⟩, c.row (hI 2 (by decide) (by decide) (by decide) (by decide)) (hD.2.1 6 (by decide) (by decide) (by decide)) e5 (fun k _ => eF k) (fun k k1 k2 => eb k k1 (by omega)), d.row (hI 3 (by decide) (by decide) (by decide) (by decide)) (hD.2.1 0 (by decide) (by decide) (by decide)) (eF 2) (eb 9 (by omega) (by omega)), hr, ?_, ?_, ?_⟩
  · obtain ⟨f1, f2⟩ := f
    have e14 : mI Q1 14 = mI Q 14 := hI 14 (by decide) (by decide) (by decide) (by decide)
    exact ⟨(hD.2.1 1 (by decide) (by decide) (by decide)).trans (f1.trans e14.symm), by show mI Q1 14 = -1 ∨ ∃ p, p ≤ 60 ∧ mI Q1 14 = nI p; rw [e14]; exact f2⟩
  · obtain ⟨g1, g2, g3, g4⟩ := g
    refine ⟨g1, (hI 11 (by decide) (by decide) (by decide) (by decide)).trans g2, (hD.2.1 10 (by decide) (by decide) (by decide)).trans g3, fun i hi => ?_⟩
    show dR D' 1 i = mN Q1 i ∧ _
    rw [eR, show mN (sMM (sMI Q1 0 k) (cpM (mM Q1) 10 0)) = mN Q from hL.2, hL.2]
    exact g4 i hi
  · obtain ⟨⟨p, o1, o2, o3, o4⟩, o5⟩ := o
    refine ⟨⟨p, o1, (hI 9 (by decide) (by decide) (by decide) (by decide)).trans o2, (hD.2.1 11 (by decide) (by decide) (by decide)).trans o3, fun i hi => ?_⟩, fun i => ?_⟩
    · show dR D' 2 i = mL Q1 i
      rw [eR, hL.1]
      exact o4 i hi
    · show isCh (mL Q1 i)
      rw [hL.1]
      exact o5 i
/-- a public change: which exceptions it may throw, and by which numbers -/
theorem ch_rel (h : Rel B q D Q) {o a b c x y z : Int32} {ns : List String} {r : MM × Int32} (hs : step (B + 48) (qB Q) r (jud (dF D 0) o a b c) (det (dF D 0) (jud (dF D 0) o a b c) a b) (fCar (dF D 0) o a b c).1 (fCar (dF D 0) o a b c).2)
    (hx : jud (dF D 0) o a b c = -1 → ∃ i, i < 3 ∧ ns[i]? = some eI ∧ x = nI (i + 1)) (hy : jud (dF D 0) o a b c = -2 → ∃ i, i < 3 ∧ ns[i]? = some eA ∧ y = nI (i + 1)) (hz : ¬ jud (dF D 0) o a b c = 0 → ¬ jud (dF D 0) o a b c = -1 → ¬ jud (dF D 0) o a b c = -2 → ∃ i, i < 3 ∧ ns[i]? = some eU ∧ z = nI (i + 1)) :
    Rel (B + 48) q (zCh D o a b c).2 (qCh r x y z).1 ∧ agr ns (zCh D o a b c).1 (mI (qCh r x y z).1 0) (qCh r x y z).2 := by
  have hv := h.v
  rcases hs with ⟨hv1, hr⟩ | ⟨hv1, hr⟩ | ⟨hv0, hv1, hv2, hp, hp2, hr⟩ | ⟨hv0, hr, h1, h2, h3, h4⟩
  · obtain ⟨i, i3, hi, hxi⟩ := hx hv1
    have ht : thr 1 x y z = x := if_pos rfl
    have hz : zCh D o a b c = (.inr eI, D) := by
      unfold zCh
      rw [if_neg (by rw [hv1]; decide), zBad, if_pos hv1]
    have hne : ¬ thr 1 x y z = 0 := by rw [ht, hxi]; exact nI_ne0 (by omega) (by omega)
    subst hr
    unfold qCh
    rw [hz, end_back hne]
    exact ⟨(back_rel h (Q1 := qB Q) D rfl (fun _ _ _ _ _ => rfl) ⟨rfl, rfl⟩ ⟨rfl, fun _ _ _ _ => rfl, rfl⟩ h.2.2.2.2.1 _).mono (by omega), Or.inr ⟨i, eI, hi, rfl, ht.trans hxi⟩⟩
  · obtain ⟨i, i3, hi, hxi⟩ := hy hv1
    have ht : thr 2 x y z = y := (if_neg (by decide)).trans (if_pos rfl)
    have hz : zCh D o a b c = (.inr eA, D) := by
      unfold zCh
      rw [if_neg (by rw [hv1]; decide), zBad, if_neg (by rw [hv1]; decide), if_pos hv1]
    have hne : ¬ thr 2 x y z = 0 := by rw [ht, hxi]; exact nI_ne0 (by omega) (by omega)
    subst hr
    unfold qCh
    rw [hz, end_back hne]
    exact ⟨(back_rel h (Q1 := qB Q) D rfl (fun _ _ _ _ _ => rfl) ⟨rfl, rfl⟩ ⟨rfl, fun _ _ _ _ => rfl, rfl⟩ h.2.2.2.2.1 _).mono (by omega), Or.inr ⟨i, eA, hi, rfl, ht.trans hxi⟩⟩
  · obtain ⟨i, i3, hi, hxi⟩ := hz hv0 hv1 hv2
    have ht : thr 3 x y z = z := (if_neg (by decide)).trans ((if_neg (by decide)).trans (if_pos rfl))
    have hzc : zCh D o a b c = (.inr eU, zRej D (jud (dF D 0) o a b c) (det (dF D 0) (jud (dF D 0) o a b c) a b) 0) := by
      unfold zCh
      rw [if_neg hv0, zBad, if_neg hv1, if_neg hv2]
    have hne : ¬ thr 3 x y z = 0 := by rw [ht, hxi]; exact nI_ne0 (by omega) (by omega)
    subst hr
    unfold qCh
    rw [hzc, end_back hne]
    obtain ⟨V, hV⟩ : ∃ V, V = jud (dF D 0) o a b c := ⟨_, rfl⟩
    rw [← hV] at hp2 ⊢
    refine ⟨(back_rel h (Q1 := qRej (qB Q) V (det (dF D 0) V a b)) (zRej D V (det (dF D 0) V a b) 0) rfl (fun k k4 k5 k6 k7 => ?_) ⟨rfl, rfl⟩ ⟨rfl, fun k k2 k3 k4 => ?_, rfl⟩ ⟨rfl, rfl, rfl, ?_⟩ _).mono (by omega), Or.inr ⟨i, eU, hi, rfl, ht.trans hxi⟩⟩
    · unfold qRej
      rw [mI_sI, if_neg k7, mI_sI, if_neg k6, mI_sI, if_neg k5]
      rfl
    · unfold zRej
      rw [dI_sD, if_neg k4, dI_sD, if_neg k3, dI_sD, if_neg k2]
    · refine ⟨fun _ e => ?_, fun _ => rfl⟩
      have e2 : V = 10 := e
      rw [e2] at hp2
      exact absurd hp2 (by decide)
  · obtain ⟨⟨a1, a2, a3, a4, a5⟩, ⟨b1, b2⟩, c', d, e, f, g, o'⟩ := h
    have hzc : zCh D o a b c = (.inl (some (.int (fCar (dF D 0) o a b c).2)), sF (hKp D (hJ D)) 0 (fCar (dF D 0) o a b c).1) := if_pos hv0
    rw [hzc]
    obtain ⟨r1, r2⟩ := r
    have hr' : r2 = 0 := hr
    subst hr'
    obtain ⟨k1, k2, k3, k4, k5⟩ := h4
    obtain ⟨p1, p2, p3, p4, p5, p6, p7⟩ := hist_push (F' := (fCar (dF D 0) o a b c).1) x y z (show B ≤ B + 48 by omega) c' a2 a3 b1 b2 (Q1 := r1) (k1 2 (by decide)) k2
    have hm : ∀ k, k ≠ 0 → k ≠ 2 → k ≠ 4 → mI (qEnd r1 0 x y z).1 k = mI Q k := fun k i j l => (p4 k i j).trans (k1 k l)
    unfold qCh
    refine ⟨⟨⟨fun k hk => ?_, ?_, ?_, a4, a5⟩, ⟨okM_congr p2 h1, ?_⟩, p1, (d.mono (by omega)).row (hm 3 (by decide) (by decide) (by decide)) rfl ?_ p3, ?_, ?_, ?_, ?_⟩, Or.inl ⟨?_, p5⟩⟩
    · show nF (if k = 0 then (fCar (dF D 0) o a b c).1 else if k = 3 + hJ D then dF D 0 else dF D k)
      by_cases e0 : k = 0
      · rw [if_pos e0]; exact nF_of h2
      · rw [if_neg e0]
        by_cases e3 : k = 3 + hJ D
        · rw [if_pos e3]; exact a1 0 (by omega)
        · rw [if_neg e3]; exact a1 k hk
    · show nI ((hJ D + 1) % 8) = nI (nI ((hJ D + 1) % 8)).toNatClampNeg
      rw [nI_clamp (by omega)]
    · show (nI ((hJ D + 1) % 8)).toNatClampNeg < 8
      rw [nI_clamp (by omega)]
      omega
    · show eqF (fCar (dF D 0) o a b c).1 _
      exact eqF_congr p2 h1 h2
    · show (if 2 = 0 then (fCar (dF D 0) o a b c).1 else if 2 = 3 + hJ D then dF D 0 else dF D 2) = dF D 2
      rw [if_neg (by omega), if_neg (by omega)]
    · obtain ⟨e1, e2, e3, e4⟩ := e
      have m5 := hm 5 (by decide) (by decide) (by decide)
      have m7 := hm 7 (by decide) (by decide) (by decide)
      exact ⟨e1.trans m5.symm, e2.trans (hm 6 (by decide) (by decide) (by decide)).symm, e3.trans m7.symm, by rw [m5, m7]; exact e4⟩
    · obtain ⟨f1, f2⟩ := f
      have m := hm 14 (by decide) (by decide) (by decide)
      exact ⟨f1.trans m.symm, by rw [m]; exact f2⟩
    · obtain ⟨g1, g2, g3, g4⟩ := g
      refine ⟨g1, (hm 11 (by decide) (by decide) (by decide)).trans g2, g3, fun i hi => ?_⟩
      rw [p6.2, k4]
      exact g4 i hi
    · obtain ⟨⟨p, o1, o2, o3, o4⟩, o5⟩ := o'
      refine ⟨⟨p, o1, (hm 9 (by decide) (by decide) (by decide)).trans o2, o3, fun i hi => ?_⟩, fun i => ?_⟩
      · rw [p6.1, k3]
        exact o4 i hi
      · rw [p6.1, k3]
        exact o5 i
    · rw [p7]
      exact congrArg (fun v => Sum.inl (some (Value.int v))) h3.symm
end CHG
