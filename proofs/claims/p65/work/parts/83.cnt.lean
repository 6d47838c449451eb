/-! HOW MANY TURBINES: never fewer. -/
theorem dRun_I0 : ∀ (k : Nat) (F : FM) (c : Int32), fI (dRun k F c).1 0 = fI F 0
  | 0, _, _ => rfl
  | k + 1, F, c => by
    unfold dRun
    split
    · rw [dRun_I0 k (fDst F) (c + 1)]
      rfl
    · rfl
def nI0 (F : FM) (r : FM × Int32) : Prop := fI r.1 0 = fI F 0 ∨ fI r.1 0 = fI F 0 + 1
theorem ite_n {F : FM} {c : Prop} [Decidable c] {a b : FM × Int32} (h1 : nI0 F a) (h2 : nI0 F b) : nI0 F (if c then a else b) := by
  split
  · exact h1
  · exact h2
theorem fCar_I0 (F : FM) (o a b c : Int32) : nI0 F (fCar F o a b c) := by
  unfold fCar
  refine ite_n (Or.inr rfl) (ite_n (Or.inl rfl) (ite_n (Or.inl rfl) (ite_n (Or.inl (dRun_I0 _ _ _)) (ite_n (Or.inl rfl) (ite_n (Or.inl rfl) (ite_n (Or.inl rfl) (ite_n (Or.inl rfl) (ite_n (Or.inl rfl) (ite_n (Or.inl rfl) (ite_n (Or.inl (fEal_I _ _ _)) (ite_n (Or.inl rfl) (Or.inl (fPas_I _ _ _ (by decide))))))))))))))
theorem zCh_ok {D : DM} {o a b c : Int32} (h : jud (dF D 0) o a b c = 0) : dF (zCh D o a b c).2 0 = (fCar (dF D 0) o a b c).1 := by
  unfold zCh
  rw [if_pos h]
  show dF (sF _ 0 _) 0 = _
  rw [dF_sF, if_pos rfl]
theorem zCh_no {D : DM} {o a b c : Int32} (h : ¬ jud (dF D 0) o a b c = 0) : dF (zCh D o a b c).2 0 = dF D 0 := by
  unfold zCh zBad
  rw [if_neg h]
  split
  · rfl
  · split <;> rfl
theorem zCh_cnt {B q B1 q1 : Nat} {D : DM} {Q Q1 : MM} {o a b c : Int32} (h : Rel B q D Q) (h1 : Rel B1 q1 (zCh D o a b c).2 Q1) (h0 : 0 < fN (dF D 0)) : 0 < fN (dF (zCh D o a b c).2 0) := by
  by_cases e : jud (dF D 0) o a b c = 0
  · have w0 := h.v.2.2.1
    have w1 := h1.v.2.2.1
    rw [zCh_ok e] at w1 ⊢
    rcases fCar_I0 (dF D 0) o a b c with q | q
    · rw [fN.of q]
      exact h0
    · have q2 := w1.1
      rw [q, w0.1, nI_1] at q2
      have := (nI_eq (by have := w0.2; omega) (by have := w1.2; omega)).mp q2
      omega
  · rw [zCh_no e]
    exact h0
/-- a farm without turbines takes the first -/
def empF (F : FM) : Prop := fI F 0 = 0 ∧ ∀ i, fA F 6 i = 0
theorem emp_add {F : FM} (h : empF F) {r c p : Nat} (hr : r < 5) (hc : c < 6) (hp : 1 ≤ p ∧ p ≤ 9) : jud F 97 (nI r) (nI c) (nI p) = 0 := by
  show jAdd F (nI r) (nI c) (nI p) = 0
  unfold jAdd
  have h1 : wIn (nI p) (nI 1) (nI 9) = true := wIn_ok hp.1 hp.2 (by decide)
  have h2 : tIn F (nI r) (nI c) = -1 := by
    unfold tIn vAt
    have e : ∀ x : Int32, (if x < 0 then 0 else if nI 90 ≤ x then 0 else fA F 6 x.toNatClampNeg) = (0 : Int32) := fun x => by
      rw [h.2]
      repeat' split
      all_goals rfl
    rw [e]
    decide
  rw [if_pos (cell_ok hr hc), if_pos (show wIn (nI p) 1 9 = true from h1), h.1, if_pos (by decide), h2, if_pos (by decide)]
theorem emp_cnt {B q : Nat} {D : DM} {Q : MM} (h : empF (dF D 0)) {r c p : Nat} (hr : r < 5) (hc : c < 6) (hp : 1 ≤ p ∧ p ≤ 9) (h1 : Rel B q (zCh D 97 (nI r) (nI c) (nI p)).2 Q) : 0 < fN (dF (zCh D 97 (nI r) (nI c) (nI p)).2 0) := by
  have w1 := h1.v.2.2.1
  rw [zCh_ok (emp_add h hr hc hp)] at w1 ⊢
  have e : fI (fCar (dF D 0) 97 (nI r) (nI c) (nI p)).1 0 = 1 := by
    show fI (fAdd (dF D 0) (nI r) (nI c) (nI p)) 0 = 1
    show fI (dF D 0) 0 + 1 = 1
    rw [h.1]
    decide
  have q := w1.1
  rw [e] at q
  have := (nI_eq (a := 1) (by decide) (by have := w1.2; omega)).mp q
  omega
