/-! THE READER OF COMMANDS, the class's and the reference's, side by side. -/
def pkM (Q Q' : MM) : Prop := mM Q' = mM Q ∧ mL Q' = mL Q ∧ mN Q' = mN Q ∧ ∀ k, k ≠ 12 → k ≠ 13 → k ≠ 16 → mI Q' k = mI Q k
theorem pkM.rf (Q : MM) : pkM Q Q := ⟨rfl, rfl, rfl, fun _ _ _ _ => rfl⟩
theorem pkM.tr' {A C E : MM} (h : pkM A C) (k : pkM C E) : pkM A E := ⟨k.1.trans h.1, k.2.1.trans h.2.1, k.2.2.1.trans h.2.2.1, fun i a b c => (k.2.2.2 i a b c).trans (h.2.2.2 i a b c)⟩
theorem pkM_I (Q : MM) {k : Nat} {v : Int32} (hk : k = 12 ∨ k = 13 ∨ k = 16) : pkM Q (sMI Q k v) := ⟨rfl, rfl, rfl, fun i a b c => by rw [mI_sI, if_neg (by omega)]⟩
theorem pkM_C (Q : MM) (f : Nat → Int32) : pkM Q (sMC Q f) := ⟨rfl, rfl, rfl, fun _ _ _ _ => rfl⟩
theorem pkM_Put {Q : MM} {r : MM × Int32} (h : pkM Q r.1) (i : Int32) : pkM Q (qPut r i) := h.tr' (pkM_C _ _)
theorem pkM_Er (Q : MM) : pkM Q (qEr Q) := pkM_I Q (Or.inr (Or.inl rfl))
theorem pkM_Ad (Q : MM) : pkM Q (qAd1 Q) := pkM_I Q (Or.inl rfl)
theorem pkM_Ne (Q : MM) (c : Int32) : pkM Q (qNe Q c) := by
  unfold qNe
  split
  · exact pkM.rf Q
  · split
    · exact pkM_Ad Q
    · exact pkM_Er Q
theorem pkM_Nl : ∀ (n : Nat) (Q : MM) (v : Int32), pkM Q (qNl n Q v).1
  | 0, Q, _ => pkM.rf Q
  | n + 1, Q, v => by
    unfold qNl
    split
    · exact (pkM_Ad Q).tr' (pkM_Nl n _ _)
    · exact pkM.rf Q
theorem pkM_Nu (d : Nat) (Q : MM) : pkM Q (qNu d Q).1 := by
  unfold qNu
  split
  · exact pkM.rf Q
  · split
    · exact pkM_Nl d Q 0
    · exact pkM_Er Q
theorem pkM_Be (c : Int32) (Q : MM) : pkM Q (qBe c Q).1 := (pkM_Ne Q c).tr' (pkM_Nu 3 _)
theorem pkM_Wa (Q : MM) : pkM Q (qWa Q).1 := by
  unfold qWa
  split
  · exact pkM_Er Q
  · exact pkM_Ad Q
theorem pkM_A3 (Q : MM) (i : Int32) : ∀ n, pkM Q (qA3 Q i n)
  | 0 => pkM.rf Q
  | n + 1 => (pkM_A3 Q i n).tr' (pkM_Put (pkM_Nu 1 _) _)
theorem pkM_C4 (Q : MM) : pkM Q (qC4 Q) := (((pkM_I Q (Or.inr (Or.inr rfl))).tr' (pkM_C _ _)).tr' (pkM_Ad _)).tr' (pkM_C _ _)
theorem pkM_Ki (k i : Int32) (Q : MM) : pkM Q (qKi k i Q) := by
  unfold qKi
  split
  · exact pkM_A3 Q i 3
  · split
    · exact ((pkM_Put (pkM_Nu 3 Q) _).tr' (pkM_Put (pkM_Be _ _) _)).tr' (pkM_Put (pkM_Be _ _) _)
    · split
      · exact (pkM_Put (pkM_Nu 3 Q) _).tr' (pkM_Put (pkM_Be _ _) _)
      · split
        · exact pkM.rf Q
        · split
          · exact (pkM_Put (pkM_Nu 3 Q) _).tr' (pkM_Put (pkM_Be _ _) _)
          · split
            · exact pkM.rf Q
            · split
              · exact (pkM_Put (pkM_Wa Q) _).tr' (pkM_Put (pkM_Nu 3 _) _)
              · exact pkM_Put (pkM_Nu 3 Q) _
theorem pkM_Co (Q : MM) : pkM Q (qCo Q) := by
  unfold qCo
  split
  · exact (pkM_C4 Q).tr' (pkM_Ki _ _ _)
  · exact ((pkM_I Q (Or.inr (Or.inr rfl))).tr' (pkM_C _ _)).tr' (pkM_Er _)
theorem inpR.of {q : Nat} {D D' : DM} {Q Q' : MM} (h : inpR q D Q) (s : Sm D D') (k : pkM Q Q') : inpR q D' Q' :=
  ⟨h.1, (k.2.2.2 11 (by decide) (by decide) (by decide)).trans h.2.1, (s.2.1 10 (by decide)).trans h.2.2.1, by rw [s.2.2 1 (by decide), k.2.2.1]; exact h.2.2.2⟩
theorem inpR.back {q : Nat} {D : DM} {Q R : MM} (h : inpR q D R) (k : pkM Q R) : inpR q D Q :=
  ⟨h.1, (k.2.2.2 11 (by decide) (by decide) (by decide)).symm.trans h.2.1, h.2.2.1, by rw [← k.2.2.1]; exact h.2.2.2⟩
/-- both stand at p -/
def pr (p q : Nat) (D : DM) (Q : MM) : Prop := inpR q D Q ∧ p ≤ q ∧ dI D 8 = nI p ∧ mI Q 12 = nI p ∧ mI Q 13 = -1
theorem sgc {p q : Nat} {D : DM} {Q : MM} (h : pr p q D Q) : (p < q ∧ ∃ ch, 32 ≤ ch ∧ ch ≤ 126 ∧ rSg D = nI ch ∧ qSg Q = nI ch) ∨ (p = q ∧ rSg D = 0 ∧ qSg Q = -1) := by
  obtain ⟨⟨g1, g2, g3, g4⟩, h1, h2, h3, h4⟩ := h
  have e1 : rSg D = if nI p < 0 then 0 else if nI q ≤ nI p then 0 else if nI 60 ≤ nI p then 0 else dR D 1 (nI p).toNatClampNeg := by
    show tSig (dI D 10, dR D 1) (dI D 8) = _
    rw [h2, g3]
    rfl
  have e2 : qSg Q = if nI q ≤ nI p then -1 else mN Q (nI p).toNatClampNeg := by
    unfold qSg
    rw [g2, h3]
  rw [e1, e2]
  rcases Nat.lt_or_ge p q with z | z
  · obtain ⟨e, ch, c1, c2, c3⟩ := g4 p z
    refine Or.inl ⟨z, ch, c1, c2, ?_, ?_⟩
    · rw [if_neg (nI_pos (by omega)), if_neg (nI_ge z (by omega)), if_neg (nI_ge (by omega) (by decide)), nI_clamp (by omega), e, c3]
    · rw [if_neg (nI_ge z (by omega)), nI_clamp (by omega), c3]
  · have : p = q := by omega
    subst this
    refine Or.inr ⟨rfl, ?_, ?_⟩
    · rw [if_neg (nI_pos (by omega)), if_pos (nI_le (Nat.le_refl _) (by omega))]
    · rw [if_pos (nI_le (Nat.le_refl _) (by omega))]
theorem sg_is {p q : Nat} {D : DM} {Q : MM} (h : pr p q D Q) {c : Nat} (c0 : 0 < c) (c1 : c < 2 ^ 31) : (rSg D = nI c ∧ qSg Q = nI c ∧ p < q) ∨ (¬ rSg D = nI c ∧ ¬ qSg Q = nI c) := by
  rcases sgc h with ⟨z, ch, a1, a2, a3, a4⟩ | ⟨z, a3, a4⟩
  · by_cases e : ch = c
    · subst e
      exact Or.inl ⟨a3, a4, z⟩
    · exact Or.inr ⟨fun y => e (nI_inj3 (by omega) c1 (a3.symm.trans y)), fun y => e (nI_inj3 (by omega) c1 (a4.symm.trans y))⟩
  · exact Or.inr ⟨fun y => nI_ne0 c0 c1 (a3.symm.trans y).symm, fun y => nI_pos c1 (by rw [← a4.symm.trans y]; exact m1_neg)⟩
theorem sgd {p q : Nat} {D : DM} {Q : MM} (h : pr p q D Q) : (∃ d, d < 10 ∧ p < q ∧ rSg D = nI (48 + d) ∧ qSg Q = nI (48 + d) ∧ wIn (rSg D) 48 57 = true ∧ wIn (qSg Q) 48 57 = true) ∨ (wIn (rSg D) 48 57 = false ∧ wIn (qSg Q) 48 57 = false) := by
  rcases sgc h with ⟨z, ch, a1, a2, a3, a4⟩ | ⟨z, a3, a4⟩
  · rcases b_tf (b := wIn (nI ch) 48 57) with e | e
    · obtain ⟨j, j1, j2, j3, j4⟩ := wIn_nat (a := 48) (b := 57) e (by decide)
      have hj : ch = j := nI_inj3 (by omega) j3 j4
      refine Or.inl ⟨ch - 48, by omega, z, ?_, ?_, by rw [a3]; exact e, by rw [a4]; exact e⟩
      · rw [a3, show 48 + (ch - 48) = ch by omega]
      · rw [a4, show 48 + (ch - 48) = ch by omega]
    · exact Or.inr ⟨by rw [a3]; exact e, by rw [a4]; exact e⟩
  · exact Or.inr ⟨by rw [a3]; decide, by rw [a4]; decide⟩
theorem pr.ad {p q : Nat} {D : DM} {Q : MM} (h : pr p q D Q) (hp : p < q) : pr (p + 1) q (rAd D) (qAd1 Q) :=
  ⟨h.1.of (Sm_Ad D) (pkM_Ad Q), hp, by unfold rAd; rw [dI_sD, if_pos rfl, h.2.2.1, nI_1], by unfold qAd1; rw [mI_sI, if_pos rfl, h.2.2.2.1, nI_1], by unfold qAd1; rw [mI_sI, if_neg (by decide)]; exact h.2.2.2.2⟩
theorem dig_s (a : Nat) : nI (a + 48) - nI 48 = nI a := by
  rw [← nI_add]
  exact Int32.add_sub_cancel _ _
theorem dig_v (t d : Nat) : nI t * 10 + nI (48 + d) - 48 = nI (t * 10 + d) := by
  show nI t * nI 10 + nI (48 + d) - nI 48 = _
  rw [pk_mul, nI_add, show t * 10 + (48 + d) = t * 10 + d + 48 by omega, dig_s]
theorem dig_w (t d : Nat) : 10 * nI t + nI (48 + d) - 48 = nI (t * 10 + d) := by
  show nI 10 * nI t + nI (48 + d) - nI 48 = _
  rw [pk_mul, nI_add, show 10 * t + (48 + d) = t * 10 + d + 48 by omega, dig_s]
/-- nothing has been kept -/
def un (D : DM) (Q : MM) (D' : DM) (Q' : MM) : Prop := dR D' 0 = dR D 0 ∧ dI D' 7 = dI D 7 ∧ dI D' 9 = dI D 9 ∧ mC Q' = mC Q ∧ mI Q' 16 = mI Q 16
theorem un.rf (D : DM) (Q : MM) : un D Q D Q := ⟨rfl, rfl, rfl, rfl, rfl⟩
theorem un.tr' {D D1 D2 : DM} {Q Q1 Q2 : MM} (h : un D Q D1 Q1) (k : un D1 Q1 D2 Q2) : un D Q D2 Q2 := ⟨k.1.trans h.1, k.2.1.trans h.2.1, k.2.2.1.trans h.2.2.1, k.2.2.2.1.trans h.2.2.2.1, k.2.2.2.2.trans h.2.2.2.2⟩
theorem un.ad (D : DM) (Q : MM) : un D Q (rAd D) (qAd1 Q) := ⟨rfl, by unfold rAd; rw [dI_sD, if_neg (by decide)], by unfold rAd; rw [dI_sD, if_neg (by decide)], rfl, by unfold qAd1; rw [mI_sI, if_neg (by decide)]⟩
theorem dgs {q : Nat} : ∀ (k p t n : Nat) (D : DM) (Q : MM), pr p q D Q → ∃ p' t' n', p ≤ p' ∧ n ≤ n' ∧ pr p' q (rDl k D (nI t) (nI n)).1 (qNl k Q (nI t)).1 ∧ (rDl k D (nI t) (nI n)).2.1 = nI t' ∧ (qNl k Q (nI t)).2 = nI t' ∧ (rDl k D (nI t) (nI n)).2.2 = nI n' ∧ n' ≤ n + k ∧ t' < (t + 1) * 10 ^ k ∧ un D Q (rDl k D (nI t) (nI n)).1 (qNl k Q (nI t)).1
  | 0, p, t, n, D, Q, h => ⟨p, t, n, Nat.le_refl _, Nat.le_refl _, h, rfl, rfl, rfl, by omega, by omega, un.rf D Q⟩
  | k + 1, p, t, n, D, Q, h => by
    unfold rDl qNl
    rcases sgd h with ⟨d, d1, d2, d3, d4, w1, w2⟩ | ⟨w1, w2⟩
    · rw [if_pos w1, if_pos w2, d3, d4, dig_v, dig_w, nI_1]
      obtain ⟨p', t', n', a1, a2, a3, a4, a5, a6, a7, a8, a9⟩ := dgs k (p + 1) (t * 10 + d) (n + 1) _ _ (h.ad d2)
      refine ⟨p', t', n', by omega, by omega, a3, a4, a5, a6, by omega, Nat.lt_of_lt_of_le a8 ?_, (un.ad D Q).tr' a9⟩
      have := Nat.mul_le_mul_right (10 ^ k) (show t * 10 + d + 1 ≤ (t + 1) * 10 by omega)
      rwa [Nat.mul_assoc, Nat.mul_comm 10, ← Nat.pow_succ] at this
    · rw [if_neg (by rw [w1]; exact Bool.false_ne_true), if_neg (by rw [w2]; exact Bool.false_ne_true)]
      exact ⟨p, t, n, Nat.le_refl _, Nat.le_refl _, h, rfl, rfl, rfl, by omega, Nat.lt_of_lt_of_le (Nat.lt_succ_self t) (Nat.le_mul_of_pos_right _ (Nat.pow_pos (by decide))), un.rf D Q⟩
/-! what has been kept -/
def ag (c : Int32) (k : Nat) (a b : Int32) : Prop := if c = 119 ∧ k = 0 then b = qWay a else b = a
def TS (c : Int32) (m na : Nat) (Q0 : MM) (p q : Nat) (D : DM) (Q : MM) : Prop := pr p q D Q ∧ dI D 7 = nI na ∧ dI D 9 = c ∧ mI Q 16 = nI (m + 1) ∧ mC Q (4 * m) = c ∧ (∀ k, k < na → ag c k (dR D 0 k) (mC Q (4 * m + 1 + k)) ∧ ∃ t, t < 1000 ∧ dR D 0 k = nI t) ∧ (∀ k, na ≤ k → k < 3 → mC Q (4 * m + 1 + k) = 0) ∧ ∀ i, i < 4 * m → mC Q i = mC Q0 i
def er (q : Nat) (D : DM) (Q : MM) : Prop := ∃ p, p ≤ q ∧ dI D 8 = nI p ∧ mI Q 13 = nI p
section PSR
variable {c : Int32} {m na p q : Nat} {Q0 Q : MM} {D : DM}
theorem TS.mv {p' : Nat} {D' : DM} {Q' : MM} (h : TS c m na Q0 p q D Q) (hp : pr p' q D' Q') (u : un D Q D' Q') : TS c m na Q0 p' q D' Q' := by
  obtain ⟨h1, h2, h3, h4, h5, h6, h7, h8⟩ := h
  obtain ⟨u1, u2, u3, u4, u5⟩ := u
  exact ⟨hp, u2.trans h2, u3.trans h3, u5.trans h4, by rw [u4]; exact h5, by rw [u1, u4]; exact h6, by rw [u4]; exact h7, by rw [u4]; exact h8⟩
theorem TS.put (h : TS c m na Q0 p q D Q) (hna : na < 3) (hm : m ≤ 60) {v w : Int32} (hv : ∃ t, t < 1000 ∧ v = nI t) (hg : ag c na v w) : TS c m (na + 1) Q0 p q (rKp D v) (qPut (Q, w) (nI (4 * m + 1 + na))) := by
  obtain ⟨⟨g, p1, p2, p3, p4⟩, h2, h3, h4, h5, h6, h7, h8⟩ := h
  have eR : dR (rKp D v) 0 = upd (dR D 0) na v := by unfold rKp; rw [dR_sD, dR_sR, if_pos rfl, h2, sAt_nI hna (by decide)]
  have eC : mC (qPut (Q, w) (nI (4 * m + 1 + na))) = upd (mC Q) (4 * m + 1 + na) w := by
    show upd (mC Q) (nI (4 * m + 1 + na)).toNatClampNeg w = _
    rw [nI_clamp (by omega)]
  refine ⟨⟨g.of (Sm_Kp D v) (pkM_Put (r := (Q, w)) (pkM.rf Q) _), p1, ?_, p3, p4⟩, ?_, ?_, h4, ?_, fun k hk => ?_, fun k a b => ?_, fun i hi => ?_⟩
  · unfold rKp
    rw [dI_sD, if_neg (by decide), dI_sR]
    exact p2
  · unfold rKp
    rw [dI_sD, if_pos rfl, h2, nI_1]
  · unfold rKp
    rw [dI_sD, if_neg (by decide), dI_sR]
    exact h3
  · rw [eC, upd_at, if_neg (by omega)]
    exact h5
  · rw [eR, eC, upd_at, upd_at]
    by_cases e : k = na
    · subst e
      rw [if_pos rfl, if_pos rfl]
      exact ⟨hg, hv⟩
    · rw [if_neg e, if_neg (by omega)]
      exact h6 k (by omega)
  · rw [eC, upd_at, if_neg (by omega)]
    exact h7 k (by omega) b
  · rw [eC, upd_at, if_neg (by omega)]
    exact h8 i hi
theorem ng13 (h : pr p q D Q) : ¬ 0 ≤ mI Q 13 := by rw [h.2.2.2.2]; decide
/-- a number -/
theorem s_num (h : TS c m na Q0 p q D Q) (hna : na < 3) (hm : m ≤ 60) (hw : ¬ (c = 119 ∧ na = 0)) {d : Nat} (hd : d ≤ 2) {i : Int32} (hi : i = nI (4 * m + 1 + na)) :
    ((rDg (d + 1) D).2 = true ∧ ∃ p', p ≤ p' ∧ TS c m (na + 1) Q0 p' q (rDg (d + 1) D).1 (qPut (qNu (d + 1) Q) i)) ∨ ((rDg (d + 1) D).2 = false ∧ er q (rDg (d + 1) D).1 (qPut (qNu (d + 1) Q) i)) := by
  subst hi
  have hp := h.1
  have hq := hp.1.1
  rcases sgd hp with ⟨g, d1, d2, d3, d4, w1, w2⟩ | ⟨w1, w2⟩
  · obtain ⟨p', t', n', a1, a2, a3, a4, a5, a6, a7, a8, a9⟩ := dgs (q := q) d (p + 1) g 1 _ _ (hp.ad d2)
    have hx : rDl (d + 1) D 0 0 = rDl d (rAd D) (nI g) (nI 1) := by
      have e : rDl (d + 1) D 0 0 = rDl d (rAd D) (nI 0 * 10 + rSg D - 48) (0 + 1) := if_pos w1
      rw [e, d3, dig_v, show 0 * 10 + g = g by omega]
      rfl
    have hy : qNu (d + 1) Q = qNl d (qAd1 Q) (nI g) := by
      have e : qNu (d + 1) Q = qNl (d + 1) Q 0 := (if_neg (ng13 hp)).trans (if_pos w2)
      have e2 : qNl (d + 1) Q 0 = qNl d (qAd1 Q) (10 * nI 0 + qSg Q - 48) := if_pos w2
      rw [e, e2, d4, dig_w, show 0 * 10 + g = g by omega]
    have ht : t' < 1000 := by
      have h10 : 10 ^ d ≤ 100 := by
        have : d = 0 ∨ d = 1 ∨ d = 2 := by omega
        rcases this with rfl | rfl | rfl <;> decide
      exact Nat.lt_of_lt_of_le a8 (Nat.mul_le_mul (show g + 1 ≤ 10 by omega) h10)
    have hG : rDg (d + 1) D = (rKp (rDl d (rAd D) (nI g) (nI 1)).1 (rDl d (rAd D) (nI g) (nI 1)).2.1, true) := by
      unfold rDg
      rw [hx, a6, if_neg (nI_nle (by omega) (by omega))]
    rw [hG, hy]
    refine Or.inl ⟨rfl, p', by omega, ?_⟩
    exact (h.mv a3 ((un.ad D Q).tr' a9)).put hna hm ⟨t', ht, a4⟩ (show ag c na _ _ by unfold ag; rw [if_neg hw, a4]; exact a5)
  · have hx : rDl (d + 1) D 0 0 = (D, 0, 0) := if_neg (by rw [w1]; exact Bool.false_ne_true)
    have hy : qNu (d + 1) Q = (qEr Q, 0) := (if_neg (ng13 hp)).trans (if_neg (by rw [w2]; exact Bool.false_ne_true))
    have hG : rDg (d + 1) D = (rKp D 0, false) := by
      unfold rDg
      rw [hx]
      rfl
    rw [hG, hy]
    refine Or.inr ⟨rfl, p, hp.2.1, ?_, ?_⟩
    · show dI (rKp D 0) 8 = _
      unfold rKp
      rw [dI_sD, if_neg (by decide), dI_sR]
      exact hp.2.2.1
    · show mI (qEr Q) 13 = _
      unfold qEr
      rw [mI_sI, if_pos rfl]
      exact hp.2.2.2.1
/-- a sign -/
theorem s_sn (h : TS c m na Q0 p q D Q) {x : Nat} (x0 : 0 < x) (x1 : x < 2 ^ 31) :
    ((rSn D (nI x)).2 = true ∧ TS c m na Q0 (p + 1) q (rSn D (nI x)).1 (qNe Q (nI x))) ∨ ((rSn D (nI x)).2 = false ∧ er q (rSn D (nI x)).1 (qNe Q (nI x))) := by
  have hp := h.1
  have e1 : qNe Q (nI x) = if qSg Q = nI x then qAd1 Q else qEr Q := if_neg (ng13 hp)
  rw [e1]
  unfold rSn
  rcases sg_is hp x0 x1 with ⟨a, b, z⟩ | ⟨a, b⟩
  · rw [if_pos a, if_pos b]
    exact Or.inl ⟨rfl, h.mv (hp.ad z) (un.ad D Q)⟩
  · rw [if_neg a, if_neg b]
    refine Or.inr ⟨rfl, p, hp.2.1, hp.2.2.1, ?_⟩
    unfold qEr
    rw [mI_sI, if_pos rfl]
    exact hp.2.2.2.1
theorem dir_way : ∀ ch, ch < 127 → isDir' (nI ch) = if qWay (nI ch) < 0 then false else true := by decide +kernel
/-- a direction -/
theorem s_dr (h : TS 119 m 0 Q0 p q D Q) (hm : m ≤ 60) :
    ((rDr D).2 = true ∧ TS 119 m 1 Q0 (p + 1) q (rDr D).1 (qPut (qWa Q) (nI (4 * m + 1)))) ∨ ((rDr D).2 = false ∧ er q (rDr D).1 (qPut (qWa Q) (nI (4 * m + 1)))) := by
  have hp := h.1
  unfold rDr qWa
  have bad : isDir' (rSg D) = false → qWay (qSg Q) < 0 → (((if isDir' (rSg D) then (rAd (rKp D (rSg D)), true) else (D, false)).2 = false) ∧ er q (if isDir' (rSg D) then (rAd (rKp D (rSg D)), true) else (D, false)).1 (qPut (if qWay (qSg Q) < 0 then (qEr Q, 0) else (qAd1 Q, qWay (qSg Q))) (nI (4 * m + 1)))) := fun a b => by
    rw [if_neg (by rw [a]; exact Bool.false_ne_true), if_pos b]
    refine ⟨rfl, p, hp.2.1, hp.2.2.1, ?_⟩
    show mI (qEr Q) 13 = _
    unfold qEr
    rw [mI_sI, if_pos rfl]
    exact hp.2.2.2.1
  rcases sgc hp with ⟨z, ch, a1, a2, a3, a4⟩ | ⟨z, a3, a4⟩
  · have e := dir_way ch (by omega)
    by_cases y : qWay (nI ch) < 0
    · rw [if_pos y] at e
      exact Or.inr (bad (by rw [a3]; exact e) (by rw [a4]; exact y))
    · rw [if_neg y] at e
      rw [a3, a4, if_pos e, if_neg y]
      refine Or.inl ⟨rfl, ?_⟩
      have t := h.put (v := nI ch) (w := qWay (nI ch)) (by decide) hm ⟨ch, by omega, rfl⟩ (by unfold ag; rw [if_pos ⟨rfl, rfl⟩])
      exact t.mv (t.1.ad z) (un.ad _ _)
  · exact Or.inr (bad (by rw [a3]; decide) (by rw [a4]; decide))
end PSR
