/-! the reference's text, parser and execute: what keeps standing, and what execute leaves behind -/
theorem in_40 {x : Int32} {p n : Nat} (h : x = nI p) (hp : p < n) (hn : n ≤ 2000) : vp_in x n := by rw [h]; exact nJ_in hp hn
theorem wIn_lt {x : Int32} {p : Nat} (h : wIn x 0 (nI p - 1) = true) (hp : p < 2 ^ 31) : vp_in x p := by
  cases p with
  | zero =>
    exfalso
    unfold wIn at h
    by_cases h1 : x < 0
    · rw [if_pos h1] at h; cases h
    · rw [if_neg h1] at h
      by_cases h2 : nI 0 - 1 < x
      · rw [if_pos h2] at h; cases h
      · obtain ⟨j, hj, rfl⟩ := nI_of h1
        exact h2 (Int32.lt_of_lt_of_le (show nI 0 - 1 < nI 0 by decide) (nI_le (Nat.zero_le j) hj))
  | succ p => exact wIn_in (a := p) h rfl (by rw [← nI_1]; exact Int32.add_sub_cancel _ _) (by omega) hp
theorem in_mono {x : Int32} {p n : Nat} (h : vp_in x p) (hp : p ≤ n) (hn : n ≤ 2000) : vp_in x n := by
  obtain ⟨j, hj, rfl⟩ := vp_in_of h (by omega)
  exact nJ_in (by omega) hn
theorem ten_lt {t : Int32} (h : vp_in t 12) : t / 10 ≤ 9 := by
  obtain ⟨j, hj, rfl⟩ := vp_in_of h (by decide)
  rw [show (10 : Int32) = nI 10 from rfl, pk_div (by omega) (by decide) (by decide)]
  exact nI_le (b := 9) (by omega) (by decide)
/-! the parser -/
theorem qSg_lt {Q : MM} {p q : Nat} (h : hP Q p q) (hs : qSg Q ≠ -1) : p < q := by
  rcases Nat.lt_or_ge p q with a | a
  · exact a
  · exfalso
    apply hs
    unfold qSg
    rw [h.1, h.2.1, if_pos (nI_le a (by have := h.2.2; omega))]
theorem hP_Ad {Q : MM} {p q : Nat} (h : hP Q p q) (hl : p < q) : hP (qAd1 Q) (p + 1) q :=
  ⟨by show mI Q 12 + 1 = _; rw [h.1, nI_1], h.2.1, hl, h.2.2.2⟩
theorem hP_Er {Q : MM} {p q : Nat} (h : hP Q p q) : hP (qEr Q) p q := h
theorem hP_Ne {Q : MM} {p q : Nat} (h : hP Q p q) {c : Int32} (hc : c ≠ -1) : ∃ p', p ≤ p' ∧ hP (qNe Q c) p' q := by
  unfold qNe
  split
  · exact ⟨p, Nat.le_refl _, h⟩
  · split
    · next e => exact ⟨p + 1, by omega, hP_Ad h (qSg_lt h (by rw [e]; exact hc))⟩
    · exact ⟨p, Nat.le_refl _, hP_Er h⟩
theorem wIn_ne {x : Int32} (h : wIn x 48 57 = true) : x ≠ -1 := by
  intro e
  rw [e] at h
  exact absurd h (by decide)
theorem hP_Nl {q : Nat} : ∀ (n : Nat) (Q : MM) (v : Int32) (p : Nat), hP Q p q → ∃ p', p ≤ p' ∧ hP (qNl n Q v).1 p' q
  | 0, _, _, p, h => ⟨p, Nat.le_refl _, h⟩
  | n + 1, Q, v, p, h => by
    unfold qNl
    split
    · next e =>
      obtain ⟨p', h1, h2⟩ := hP_Nl n (qAd1 Q) (10 * v + qSg Q - 48) (p + 1) (hP_Ad h (qSg_lt h (wIn_ne e)))
      exact ⟨p', by omega, h2⟩
    · exact ⟨p, Nat.le_refl _, h⟩
theorem hP_Nu {Q : MM} {p q : Nat} (h : hP Q p q) (d : Nat) : ∃ p', p ≤ p' ∧ hP (qNu d Q).1 p' q := by
  unfold qNu
  split
  · exact ⟨p, Nat.le_refl _, h⟩
  · split
    · exact hP_Nl d Q 0 p h
    · exact ⟨p, Nat.le_refl _, hP_Er h⟩
theorem hP_Be {Q : MM} {p q : Nat} (h : hP Q p q) {c : Int32} (hc : c ≠ -1) : ∃ p', p ≤ p' ∧ hP (qBe c Q).1 p' q := by
  obtain ⟨p1, h1, h2⟩ := hP_Ne h hc
  obtain ⟨p2, h3, h4⟩ := hP_Nu h2 3
  exact ⟨p2, by omega, h4⟩
theorem qWay_ne {x : Int32} (h : ¬ qWay x < 0) : x ≠ -1 := by
  intro e
  rw [e] at h
  exact absurd (by decide) h
theorem hP_Wa {Q : MM} {p q : Nat} (h : hP Q p q) : ∃ p', p ≤ p' ∧ hP (qWa Q).1 p' q := by
  unfold qWa
  split
  · exact ⟨p, Nat.le_refl _, hP_Er h⟩
  · next e => exact ⟨p + 1, by omega, hP_Ad h (qSg_lt h (qWay_ne e))⟩
theorem isLet_ne {x : Int32} (h : isLet x = true) : x ≠ -1 := by
  intro e
  rw [e] at h
  exact absurd h (by decide)
theorem hP_A3 {Q : MM} {i : Int32} {q : Nat} : ∀ (n p : Nat), hP Q p q → ∃ p', p ≤ p' ∧ hP (qA3 Q i n) p' q
  | 0, p, h => ⟨p, Nat.le_refl _, h⟩
  | n + 1, p, h => by
    obtain ⟨p1, h1, h2⟩ := hP_A3 (Q := Q) (i := i) n p h
    obtain ⟨p2, h3, h4⟩ := hP_Nu h2 1
    exact ⟨p2, by omega, h4⟩
theorem hP_sC {Q : MM} {f : Nat → Int32} {p q : Nat} (h : hP Q p q) : hP (sMC Q f) p q := h
theorem hP_s16 {Q : MM} {v : Int32} {p q : Nat} (h : hP Q p q) : hP (sMI Q 16 v) p q := h
theorem hP_Put {r : MM × Int32} {p q : Nat} (h : hP r.1 p q) (i : Int32) : hP (qPut r i) p q := hP_sC h
theorem hP_C4 {Q : MM} {p q : Nat} (h : hP Q p q) (hl : p < q) : hP (qC4 Q) (p + 1) q := by
  unfold qC4
  exact hP_sC (hP_Ad (hP_sC (hP_s16 h)) hl)
def eP (Q : MM) (p q : Nat) : Prop := ∃ p', p ≤ p' ∧ hP Q p' q
theorem ite_eP {c : Prop} [Decidable c] {a b : MM} {p q : Nat} (h1 : eP a p q) (h2 : eP b p q) : eP (if c then a else b) p q := by
  by_cases h : c
  · rw [if_pos h]; exact h1
  · rw [if_neg h]; exact h2
theorem eP_Put {r : MM × Int32} {p q : Nat} (h : eP r.1 p q) (i : Int32) : eP (qPut r i) p q := by
  obtain ⟨p', h1, h2⟩ := h
  exact ⟨p', h1, hP_Put h2 i⟩
theorem eP_Nu {Q : MM} {p q : Nat} (h : eP Q p q) (d : Nat) : eP (qNu d Q).1 p q := by
  obtain ⟨p', h1, h2⟩ := h
  obtain ⟨p2, h3, h4⟩ := hP_Nu h2 d
  exact ⟨p2, by omega, h4⟩
theorem eP_Be {Q : MM} {p q : Nat} (h : eP Q p q) {c : Int32} (hc : c ≠ -1) : eP (qBe c Q).1 p q := by
  obtain ⟨p', h1, h2⟩ := h
  obtain ⟨p2, h3, h4⟩ := hP_Be h2 hc
  exact ⟨p2, by omega, h4⟩
theorem eP_Wa {Q : MM} {p q : Nat} (h : eP Q p q) : eP (qWa Q).1 p q := by
  obtain ⟨p', h1, h2⟩ := h
  obtain ⟨p2, h3, h4⟩ := hP_Wa h2
  exact ⟨p2, by omega, h4⟩
theorem hP_Ki {Q : MM} {k i : Int32} {p q : Nat} (h : hP Q p q) : ∃ p', p ≤ p' ∧ hP (qKi k i Q) p' q := by
  have h0 : eP Q p q := ⟨p, Nat.le_refl _, h⟩
  have h3 := eP_Put (eP_Nu h0 3) (i + 1)
  have h4 := eP_Put (eP_Be h3 (c := 58) (by decide)) (i + 2)
  show eP (qKi k i Q) p q
  unfold qKi
  exact ite_eP (hP_A3 3 p h) (ite_eP (eP_Put (eP_Be h4 (by decide)) _) (ite_eP h4 (ite_eP h0 (ite_eP h4 (ite_eP h0 (ite_eP (eP_Put (eP_Nu (eP_Put (eP_Wa h0) _) 3) _) h3))))))
theorem hP_Co {Q : MM} {p q : Nat} (h : hP Q p q) : ∃ p', p ≤ p' ∧ hP (qCo Q) p' q := by
  unfold qCo
  split
  · next e =>
    obtain ⟨p', h1, h2⟩ := hP_Ki (k := qSg Q) (i := 4 * mI Q 16) (hP_C4 h (qSg_lt h (isLet_ne e)))
    exact ⟨p', by omega, h2⟩
  · exact ⟨p, Nat.le_refl _, h⟩
/-! how many commands -/
theorem qNe_16 (Q : MM) (c : Int32) : mI (qNe Q c) 16 = mI Q 16 := by
  unfold qNe
  repeat' split
  all_goals rfl
theorem qNl_16 : ∀ (n : Nat) (Q : MM) (v : Int32), mI (qNl n Q v).1 16 = mI Q 16
  | 0, _, _ => rfl
  | n + 1, Q, v => by
    unfold qNl
    split
    · exact qNl_16 n _ _
    · rfl
theorem qNu_16 (d : Nat) (Q : MM) : mI (qNu d Q).1 16 = mI Q 16 := by
  unfold qNu
  split
  · rfl
  · split
    · exact qNl_16 _ _ _
    · rfl
theorem qBe_16 (c : Int32) (Q : MM) : mI (qBe c Q).1 16 = mI Q 16 := (qNu_16 3 _).trans (qNe_16 _ _)
theorem qWa_16 (Q : MM) : mI (qWa Q).1 16 = mI Q 16 := by
  unfold qWa
  split <;> rfl
theorem qPut_16 (r : MM × Int32) (i : Int32) : mI (qPut r i) 16 = mI r.1 16 := rfl
theorem qA3_16 (Q : MM) (i : Int32) : ∀ n : Nat, mI (qA3 Q i n) 16 = mI Q 16
  | 0 => rfl
  | n + 1 => by rw [qA3, qPut_16, qNu_16, qA3_16 Q i n]
theorem ite_16 {c : Prop} [Decidable c] {a b : MM} {x : Int32} (h1 : mI a 16 = x) (h2 : mI b 16 = x) : mI (if c then a else b) 16 = x := by
  by_cases h : c
  · rw [if_pos h]; exact h1
  · rw [if_neg h]; exact h2
theorem qKi_16 (k i : Int32) (Q : MM) : mI (qKi k i Q) 16 = mI Q 16 := by
  have h3 : mI (qPut (qNu 3 Q) (i + 1)) 16 = mI Q 16 := (qPut_16 _ _).trans (qNu_16 3 Q)
  have h4 : mI (qPut (qBe 58 (qPut (qNu 3 Q) (i + 1))) (i + 2)) 16 = mI Q 16 := (qPut_16 _ _).trans ((qBe_16 _ _).trans h3)
  unfold qKi
  exact ite_16 (qA3_16 _ _ _) (ite_16 ((qPut_16 _ _).trans ((qBe_16 _ _).trans h4)) (ite_16 h4 (ite_16 rfl (ite_16 h4 (ite_16 rfl (ite_16 ((qPut_16 _ _).trans ((qNu_16 3 _).trans ((qPut_16 _ _).trans (qWa_16 Q)))) h3))))))
theorem qCo_16 (Q : MM) : mI (qCo Q) 16 = mI Q 16 + 1 := by
  unfold qCo
  split
  · rw [qKi_16]; rfl
  · rfl
theorem ix_C {m : Nat} {y : Int32} (hm : y = nI m) (h : m ≤ 60) {k : Nat} (hk : k < 4) : vp_in (4 * y + nI k) 244 := by
  rw [hm, show (4 : Int32) = nI 4 from rfl, pk_mul, nI_add]
  exact nJ_in (by omega) (by decide)
theorem ix_C0 {m : Nat} {y : Int32} (hm : y = nI m) (h : m ≤ 60) : vp_in (4 * y) 244 := by
  rw [hm, show (4 : Int32) = nI 4 from rfl, pk_mul]
  exact nJ_in (by omega) (by decide)
theorem ix_D {x : Int32} (hx : vp_in x 241) {k : Nat} (hk : k < 4) : vp_in (x + nI k) 244 := by
  obtain ⟨j, hj, rfl⟩ := vp_in_of hx (by decide)
  rw [nI_add]
  exact nJ_in (by omega) (by decide)
/-! execute -/
def dnN (r : MM × Int32) : Nat → Nat
  | 0 => 0
  | n + 1 => if (qEl n r).2 = 0 then n + 1 else dnN r n
theorem qEl_stop (r : MM × Int32) {j : Nat} (h : ¬ (qEl j r).2 = 0) : ∀ k : Nat, qEl (j + k) r = qEl j r ∧ dnN r (j + k) = dnN r j
  | 0 => ⟨rfl, rfl⟩
  | k + 1 => by
    obtain ⟨h1, h2⟩ := qEl_stop r h k
    constructor
    · show (if (qEl (j + k) r).2 = 0 then _ else qEl (j + k) r) = _
      rw [if_neg (by rw [h1]; exact h), h1]
    · show (if (qEl (j + k) r).2 = 0 then _ else dnN r (j + k)) = _
      rw [if_neg (by rw [h1]; exact h), h2]
def qXf (r : MM × Int32) (d : Nat) : MM := if r.2 = 3 then sMI (sMI (sMI r.1 7 (mI r.1 5)) 5 10) 6 (nI d - 1) else r.1
/-- from what the parser has left -/
def qXm (P : MM) : Nat := (mI P 16).toNatClampNeg
def qXr (P : MM) : MM × Int32 := (qB (sMI P 11 0), 0)
def qXe (P : MM) : MM × Int32 :=
  if 0 ≤ mI P 13 then (sMI (sMI (sMI P 11 0) 14 (mI P 13)) 0 1, 0)
  else qEnd (sMI (qXf (qEl (qXm P) (qXr P)) (dnN (qXr P) (qXm P))) 4 (mI P 16)) (qEl (qXm P) (qXr P)).2 2 2 3
theorem mI_s11 (P : MM) (v : Int32) {k : Nat} (h : k ≠ 11) : mI (sMI P 11 v) k = mI P k := by rw [mI_sI, if_neg h]
/-- what the changes leave -/
def kp (Q Q2 : MM) : Prop := mI Q2 2 = mI Q 2 ∧ mI Q2 16 = mI Q 16 ∧ mC Q2 = mC Q
theorem kp.rf {Q : MM} : kp Q Q := ⟨rfl, rfl, rfl⟩
theorem kp.tr {A B C : MM} (h : kp A B) (k : kp B C) : kp A C := ⟨k.1.trans h.1, k.2.1.trans h.2.1, k.2.2.trans h.2.2⟩
theorem kp_Dr : ∀ (d : Nat) (Q : MM), kp Q (qDr d Q)
  | 0, _ => kp.rf
  | d + 1, Q => by
    rw [qDr]
    split
    · exact kp.rf
    · exact kp.tr ⟨rfl, rfl, rfl⟩ (kp_Dr d _)
theorem kp_Ra (Q : MM) : ∀ n : Nat, kp Q (qRa Q n)
  | 0 => ⟨rfl, rfl, rfl⟩
  | n + 1 => kp.tr (kp_Ra Q n) ⟨rfl, rfl, rfl⟩
theorem kp_Add (Q : MM) (x y z : Int32) : kp Q (qAdd Q x y z).1 := by
  unfold qAdd
  repeat' split
  all_goals exact ⟨rfl, rfl, rfl⟩
theorem kp_Fai (Q : MM) (x : Int32) : kp Q (qFai Q x).1 := by
  unfold qFai
  repeat' split
  all_goals exact ⟨rfl, rfl, rfl⟩
theorem kp_Snd (Q : MM) (x y : Int32) : kp Q (qSnd Q x y).1 := by
  unfold qSnd
  repeat' split
  all_goals exact ⟨rfl, rfl, rfl⟩
theorem kp_Rcl (Q : MM) (x : Int32) : kp Q (qRcl Q x).1 := by
  unfold qRcl
  repeat' split
  all_goals exact ⟨rfl, rfl, rfl⟩
theorem kp_Cur (Q : MM) (x y : Int32) : kp Q (qCur Q x y).1 := by
  unfold qCur
  repeat' split
  all_goals exact ⟨rfl, rfl, rfl⟩
theorem kp_Rel (Q : MM) (x : Int32) : kp Q (qRel Q x).1 := by
  unfold qRel
  repeat' split
  all_goals exact ⟨rfl, rfl, rfl⟩
theorem kp_Blo (Q : MM) (x y : Int32) : kp Q (qBlo Q x y).1 := by
  unfold qBlo
  repeat' split
  all_goals exact ⟨rfl, rfl, rfl⟩
theorem kp_Lim (Q : MM) (x : Int32) : kp Q (qLim Q x).1 := by
  unfold qLim
  repeat' split
  all_goals exact ⟨rfl, rfl, rfl⟩
theorem kp_Pla (Q : MM) (x y z : Int32) : kp Q (qPla Q x y z).1 := by
  unfold qPla
  repeat' split
  all_goals exact ⟨rfl, rfl, rfl⟩
theorem kp_Wdr (Q : MM) (x : Int32) : kp Q (qWdr Q x).1 := by
  unfold qWdr
  repeat' split
  all_goals exact ⟨rfl, rfl, rfl⟩
theorem kp_Ph (Q : MM) (x : Int32) : kp Q (qPh Q x).1 := by
  unfold qPh
  repeat' split
  all_goals exact ⟨rfl, rfl, rfl⟩
theorem ite_kp {c : Prop} [Decidable c] {Q : MM} {a b : MM × Int32} (h1 : kp Q a.1) (h2 : kp Q b.1) : kp Q (if c then a else b).1 := by
  by_cases h : c
  · rw [if_pos h]; exact h1
  · rw [if_neg h]; exact h2
theorem kp_Do (Q : MM) (i : Int32) : kp Q (qDo Q i).1 := by
  unfold qDo
  exact ite_kp (kp_Add _ _ _ _) (ite_kp (kp_Pla _ _ _ _) (ite_kp (kp_Cur _ _ _) (ite_kp (kp.tr ⟨rfl, rfl, rfl⟩ (kp_Dr 12 (sMI Q 4 0))) (ite_kp (kp_Fai _ _) (ite_kp (kp_Lim _ _) (ite_kp (kp_Wdr _ _) (ite_kp (kp_Rcl _ _) (ite_kp (kp_Snd _ _ _) (ite_kp (kp_Rel _ _) (ite_kp (kp_Ra _ _) (ite_kp (kp_Blo _ _ _) (kp_Ph _ _))))))))))))
theorem kp_El (r : MM × Int32) : ∀ n : Nat, kp r.1 (qEl n r).1
  | 0 => kp.rf
  | n + 1 => by
    unfold qEl
    split
    · exact kp.tr (kp_El r n) (kp_Do _ _)
    · exact kp_El r n
theorem qXf_2 (r : MM × Int32) (d : Nat) : mI (qXf r d) 2 = mI r.1 2 := by unfold qXf; split <;> rfl
/-! what the parser leaves -/
def ps (Q Q2 : MM) : Prop := (∀ k, k ≠ 12 → k ≠ 13 → k ≠ 16 → mI Q2 k = mI Q k) ∧ mM Q2 = mM Q ∧ mL Q2 = mL Q ∧ mN Q2 = mN Q
theorem ps.rf {Q : MM} : ps Q Q := ⟨fun _ _ _ _ => rfl, rfl, rfl, rfl⟩
theorem ps.tr {A B C : MM} (h : ps A B) (k : ps B C) : ps A C := ⟨fun i a b c => (k.1 i a b c).trans (h.1 i a b c), k.2.1.trans h.2.1, k.2.2.1.trans h.2.2.1, k.2.2.2.trans h.2.2.2⟩
theorem ps_I (Q : MM) {k : Nat} (v : Int32) (h : k = 12 ∨ k = 13 ∨ k = 16) : ps Q (sMI Q k v) := ⟨fun i a b c => by rw [mI_sI, if_neg (by omega)], rfl, rfl, rfl⟩
theorem ps_C (Q : MM) (f : Nat → Int32) : ps Q (sMC Q f) := ⟨fun _ _ _ _ => rfl, rfl, rfl, rfl⟩
theorem ps_Ad (Q : MM) : ps Q (qAd1 Q) := ps_I Q _ (by decide)
theorem ps_Er (Q : MM) : ps Q (qEr Q) := ps_I Q _ (by decide)
theorem ps_Ne (Q : MM) (c : Int32) : ps Q (qNe Q c) := by
  unfold qNe
  split
  · exact ps.rf
  · split
    · exact ps_Ad Q
    · exact ps_Er Q
theorem ps_Nl : ∀ (n : Nat) (Q : MM) (v : Int32), ps Q (qNl n Q v).1
  | 0, _, _ => ps.rf
  | n + 1, Q, v => by
    unfold qNl
    split
    · exact ps.tr (ps_Ad Q) (ps_Nl n _ _)
    · exact ps.rf
theorem ps_Nu (d : Nat) (Q : MM) : ps Q (qNu d Q).1 := by
  unfold qNu
  split
  · exact ps.rf
  · split
    · exact ps_Nl _ _ _
    · exact ps_Er Q
theorem ps_Be (c : Int32) (Q : MM) : ps Q (qBe c Q).1 := ps.tr (ps_Ne Q c) (ps_Nu 3 _)
theorem ps_Wa (Q : MM) : ps Q (qWa Q).1 := by
  unfold qWa
  split
  · exact ps_Er Q
  · exact ps_Ad Q
theorem ps_Put {Q : MM} {r : MM × Int32} (h : ps Q r.1) (i : Int32) : ps Q (qPut r i) := ps.tr h (ps_C _ _)
theorem ps_A3 (Q : MM) (i : Int32) : ∀ n : Nat, ps Q (qA3 Q i n)
  | 0 => ps.rf
  | n + 1 => ps_Put (ps.tr (ps_A3 Q i n) (ps_Nu 1 _)) _
theorem ite_ps {c : Prop} [Decidable c] {Q a b : MM} (h1 : ps Q a) (h2 : ps Q b) : ps Q (if c then a else b) := by
  by_cases h : c
  · rw [if_pos h]; exact h1
  · rw [if_neg h]; exact h2
theorem ps_Ki (k i : Int32) (Q : MM) : ps Q (qKi k i Q) := by
  have h3 := ps_Put (ps_Nu 3 Q) (i + 1)
  have h4 := ps_Put (ps.tr h3 (ps_Be 58 _)) (i + 2)
  unfold qKi
  exact ite_ps (ps_A3 _ _ _) (ite_ps (ps_Put (ps.tr h4 (ps_Be _ _)) _) (ite_ps h4 (ite_ps ps.rf (ite_ps h4 (ite_ps ps.rf (ite_ps (ps_Put (ps.tr (ps_Put (ps_Wa Q) _) (ps_Nu 3 _)) _) h3))))))
theorem ps_C4 (Q : MM) : ps Q (qC4 Q) := ps.tr (ps.tr (ps.tr (ps_I Q (k := 16) _ (by decide)) (ps_C _ _)) (ps_Ad _)) (ps_C _ _)
theorem ps_Co (Q : MM) : ps Q (qCo Q) := by
  unfold qCo
  split
  · exact ps.tr (ps_C4 Q) (ps_Ki _ _ _)
  · exact ps.tr (ps.tr (ps_I Q (k := 16) _ (by decide)) (ps_C _ _)) (ps_Er _)
theorem ps_Pl : ∀ (n : Nat) (Q : MM), ps Q (qPl n Q)
  | 0, _ => ps.rf
  | n + 1, Q => by
    unfold qPl
    split
    · exact ps.rf
    · split
      · exact ps.tr (ps.tr (ps_Ad Q) (ps_Co _)) (ps_Pl n _)
      · exact ps.rf
theorem ps_Pa (Q : MM) : ps Q (qPa Q) := by
  have h : ps Q (qPl 61 (qCo (sMI (sMI (sMI Q 12 0) 13 (-1)) 16 0))) := ps.tr (ps.tr (ps.tr (ps.tr (ps_I Q (k := 12) 0 (by decide)) (ps_I _ (k := 13) (-1) (by decide))) (ps_I _ (k := 16) 0 (by decide))) (ps_Co _)) (ps_Pl 61 _)
  unfold qPa
  split
  · exact h
  · split
    · exact h
    · exact ps.tr h (ps_Er _)
theorem qPl_16 {q : Nat} : ∀ (n : Nat) (Q : MM) (p m : Nat), hP Q p q → mI Q 16 = nI m → m ≤ p + 1 → ∃ p' m', hP (qPl n Q) p' q ∧ mI (qPl n Q) 16 = nI m' ∧ m' ≤ p' + 1
  | 0, _, p, m, h1, h2, h3 => ⟨p, m, h1, h2, h3⟩
  | n + 1, Q, p, m, h1, h2, h3 => by
    unfold qPl
    split
    · exact ⟨p, m, h1, h2, h3⟩
    · split
      · next e =>
        obtain ⟨p2, h4, h5⟩ := hP_Co (hP_Ad h1 (qSg_lt h1 (by rw [e]; decide)))
        exact qPl_16 n _ p2 (m + 1) h5 (by rw [qCo_16]; show mI Q 16 + 1 = _; rw [h2, nI_1]) (by omega)
      · exact ⟨p, m, h1, h2, h3⟩
theorem qPa_16 {Q : MM} {q : Nat} (h : mI Q 11 = nI q) (hq : q ≤ 60) : mI (qPa Q) 16 = nI (qXm (qPa Q)) ∧ qXm (qPa Q) ≤ 61 := by
  have hp0 : hP (sMI (sMI (sMI Q 12 0) 13 (-1)) 16 0) 0 q := ⟨rfl, h, Nat.zero_le _, hq⟩
  obtain ⟨p1, h1, h2⟩ := hP_Co hp0
  obtain ⟨p2, m, h3, h4, h5⟩ := qPl_16 61 _ p1 1 h2 (by rw [qCo_16]; rfl) (by omega)
  have h6 : mI (qPa Q) 16 = nI m := by
    unfold qPa
    split
    · exact h4
    · split
      · exact h4
      · exact h4
  have h7 := h3.2.2
  have h8 : qXm (qPa Q) = m := by unfold qXm; rw [h6]; exact nI_clamp (by omega)
  rw [h8]
  exact ⟨h6, by omega⟩
