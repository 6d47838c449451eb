/-! the answers -/
def agr (ns : List String) (o : RO) (k v : Int32) : Prop := (o = .inl (some (.int v)) ∧ k = 0) ∨ ∃ (i : Nat) (E : String), ns[i]? = some E ∧ o = .inr E ∧ k = nI (i + 1)
/-- an answer that leaves all but the number of the throw alone -/
def rdr (ns : List String) (o : RO) (r : MM × Int32) (Q : MM) : Prop := ∃ k, r.1 = sMI Q 0 k ∧ agr ns o k r.2
theorem rdr.ok {ns : List String} {o : RO} {Q : MM} {v x : Int32} (ho : o = .inl (some (.int x))) (hv : x = v) : rdr ns o (qR Q 0 v) Q := ⟨0, rfl, Or.inl ⟨by rw [ho, hv]; rfl, rfl⟩⟩
theorem rdr.no {ns : List String} {o : RO} {Q : MM} {v : Int32} (i : Nat) (E : String) (hE : ns[i]? = some E) (ho : o = .inr E) : rdr ns o (qR Q (nI (i + 1)) v) Q := ⟨_, rfl, Or.inr ⟨i, E, hE, ho, rfl⟩⟩
theorem rdr.of {ns : List String} {o : RO} {Q : MM} {r r' : MM × Int32} (e : r = r') (h : rdr ns o r' Q) : rdr ns o r Q := by rw [e]; exact h
section READ
variable {B : Nat} {F : FM} {Q : MM}
/-- of a turbine -/
theorem rd_T (hM : okM B (mM Q)) (hF : eqF F (mM Q)) {t x v : Int32} (h : ∀ j, j < qN (mM Q) → t = nI j → x = v) : rdr [eI] (if hasT F t then .inl (some (.int x)) else .inr eI) (qIf Q (qIT (mM Q) t) (if qIT (mM Q) t then v else 0)) Q := by
  rw [hasT_eq hM.1 hF.1]
  unfold qIf
  rcases b_tf (b := qIT (mM Q) t) with e | e
  · obtain ⟨j, hj, ht⟩ := qIT_nat hM.1 e
    rw [if_pos e, if_pos e, if_pos e]
    exact rdr.ok rfl (h j hj ht)
  · rw [if_neg (ntrue e), if_neg (ntrue e)]
    exact rdr.no 0 eI rfl rfl
theorem rd_row (hM : okM B (mM Q)) (hF : eqF F (mM Q)) (t : Int32) : rdr [eI] (if hasT F t then .inl (some (.int (vAt 12 (fA F 0) t))) else .inr eI) (qIf Q (qIT (mM Q) t) (if qIT (mM Q) t then qT (mM Q) t 0 else 0)) Q :=
  rd_T hM hF (fun j hj e => by have := hM.1.2; rw [e, vAt_nI (by omega) (by decide), qT0 (by omega)]; exact (hF.1.2.1 j hj).1)
theorem rd_col (hM : okM B (mM Q)) (hF : eqF F (mM Q)) (t : Int32) : rdr [eI] (if hasT F t then .inl (some (.int (vAt 12 (fA F 1) t))) else .inr eI) (qIf Q (qIT (mM Q) t) (if qIT (mM Q) t then qT (mM Q) t 1 else 0)) Q :=
  rd_T hM hF (fun j hj e => by have := hM.1.2; rw [e, vAt_nI (by omega) (by decide), qT1 (by omega)]; exact (hF.1.2.1 j hj).2.1)
theorem rd_rat (hM : okM B (mM Q)) (hF : eqF F (mM Q)) (t : Int32) : rdr [eI] (if hasT F t then .inl (some (.int (vAt 12 (fA F 2) t))) else .inr eI) (qIf Q (qIT (mM Q) t) (if qIT (mM Q) t then qT (mM Q) t 2 else 0)) Q :=
  rd_T hM hF (fun j hj e => by have := hM.1.2; rw [e, vAt_nI (by omega) (by decide), qT2 (by omega)]; exact (hF.1.2.1 j hj).2.2.1)
theorem rd_st (hM : okM B (mM Q)) (hF : eqF F (mM Q)) (t : Int32) {k : Nat} (hk : k < 3) {s s' : Int32} (hs : s = nI (k + 1)) (hs' : s' = nI k) : rdr [eI] (if hasT F t then .inl (some (.int (b2i (inSt F t s)))) else .inr eI) (qIf Q (qIT (mM Q) t) (if qIT (mM Q) t then (if qT (mM Q) t 3 = s' then 1 else 0) else 0)) Q := by
  subst hs
  subst hs'
  refine rd_T hM hF (fun j hj e => ?_)
  have := hM.1.2
  rw [e, inSt_eq hM hF.1 hj hk, qT3 (by omega)]
  by_cases z : tv (mM Q) j 3 = nI k
  · rw [if_pos z, if_pos z]; rfl
  · rw [if_neg z, if_neg z]; rfl
theorem wak_b : ∀ a b : Bool, wak' a b = 3 * b2i a + b2i b := by decide +kernel
theorem los_cur (hM : okM B (mM Q)) (hF : eqF F (mM Q)) {j : Nat} (hj : j < qN (mM Q)) : los F (nI j) (fI F 1) = qLo (mM Q) (nI j) := by
  obtain ⟨a, b, h1, h2⟩ := los_eq hM hF.1 hj hM.2.2.2.2.1.2
  rw [h2 (mM Q) rfl hM.2.2.2.2.1.1 (fun _ _ _ _ => rfl), hF.2.1, hM.2.2.2.2.1.1, h1, wak_b]
theorem rd_wake (hM : okM B (mM Q)) (hF : eqF F (mM Q)) (t : Int32) : rdr [eI] (if hasT F t then .inl (some (.int (los F t (fI F 1)))) else .inr eI) (qIf Q (qIT (mM Q) t) (if qIT (mM Q) t then qLo (mM Q) t else 0)) Q :=
  rd_T hM hF (fun j hj e => by rw [e]; exact los_cur hM hF hj)
theorem pwr_cur (hM : okM B (mM Q)) (hF : eqF F (mM Q)) {j : Nat} (hj : j < qN (mM Q)) : pwr F (nI j) (fI F 2) (los F (nI j) (fI F 1)) = qAv (mM Q) (nI j) := by
  have h12 := hM.1.2
  have ht := hM.2.1 j hj
  have hT := hF.1.2.1 j hj
  obtain ⟨s, hs, h2⟩ := hM.2.2.2.2.2.1
  obtain ⟨a, b, l1, l2⟩ := los_eq hM hF.1 hj hM.2.2.2.2.1.2
  have l2 := l2 (mM Q) rfl hM.2.2.2.2.1.1 (fun _ _ _ _ => rfl)
  have hp := pow_eq s hs a b (tn (mM Q) j 2) (by have := ht.2.2.2.2.1; omega)
  have hs1 : inSt F (nI j) 1 = if tv (mM Q) j 3 = 0 then true else false := inSt_eq hM hF.1 hj (k := 0) (by decide)
  unfold pwr qAv
  rw [hF.2.1, hF.2.2.1, h2, hM.2.2.2.2.1.1, l1, l2, hs1, vAt_nI (by omega) (by decide), hT.2.2.1, qT3 (by omega), qT2 (by omega), ht.1 2 (by decide)]
  by_cases z : tv (mM Q) j 3 = 0
  · rw [if_pos z, if_pos z, if_pos rfl]
    exact hp
  · rw [if_neg z, if_neg z]
    split <;> rfl
theorem rd_av (hM : okM B (mM Q)) (hF : eqF F (mM Q)) (t : Int32) : rdr [eI] (if hasT F t then .inl (some (.int (pwr F t (fI F 2) (los F t (fI F 1))))) else .inr eI) (qIf Q (qIT (mM Q) t) (if qIT (mM Q) t then qAv (mM Q) t else 0)) Q :=
  rd_T hM hF (fun j hj e => by rw [e]; exact pwr_cur hM hF hj)
theorem rd_out (hM : okM B (mM Q)) (hF : eqF F (mM Q)) (t : Int32) : rdr [eI] (if hasT F t then .inl (some (.int (outp F t (fI F 1) (fI F 2)))) else .inr eI) (qIf Q (qIT (mM Q) t) (if qIT (mM Q) t then qOu (mM Q) t else 0)) Q :=
  rd_T hM hF (fun j hj e => by obtain ⟨-, o2, o3, -⟩ := out_oN hM hF hj; rw [e, o2, o3])
theorem rd_lim (hM : okM B (mM Q)) (hF : eqF F (mM Q)) (t : Int32) : rdr [eI, eN] (if hasT F t then (if curt F t then .inl (some (.int (vAt 12 (fA F 4) t))) else .inr eN) else .inr eI) (qLOf Q t) Q := by
  rw [hasT_eq hM.1 hF.1]
  unfold qLOf
  have h12 := hM.1.2
  rcases b_tf (b := qIT (mM Q) t) with e | e
  · obtain ⟨j, hj, rfl⟩ := qIT_nat hM.1 e
    rw [if_pos e, if_pos e, curt_eq hM hF.1 hj, qT5 (by omega), vAt_nI (by omega) (by decide), (hF.1.2.1 j hj).2.2.2.2.2]
    by_cases z : tv (mM Q) j 5 = 0
    · rw [if_pos z, if_pos z, if_neg Bool.false_ne_true]
      exact rdr.no 1 eN rfl rfl
    · rw [if_neg z, if_neg z, if_pos rfl]
      exact rdr.ok rfl rfl
  · rw [if_neg (ntrue e), if_neg (ntrue e)]
    exact rdr.no 0 eI rfl rfl
theorem rd_sh (hM : okM B (mM Q)) (hF : eqF F (mM Q)) (t : Int32) : rdr [eI, eN] (if hasT F t then (if inSt F t 3 then .inl (some (.int (vAt 12 (fA F 5) t))) else .inr eN) else .inr eI) (qSH Q t) Q := by
  rw [hasT_eq hM.1 hF.1]
  unfold qSH
  have h12 := hM.1.2
  rcases b_tf (b := qIT (mM Q) t) with e | e
  · obtain ⟨j, hj, rfl⟩ := qIT_nat hM.1 e
    have hs : inSt F (nI j) 3 = if tv (mM Q) j 3 = 2 then true else false := inSt_eq hM hF.1 hj (k := 2) (by decide)
    rw [if_pos e, if_pos e, hs, qT3 (by omega), qT4 (by omega), vAt_nI (by omega) (by decide), (hF.1.2.1 j hj).2.2.2.2.1]
    by_cases z : tv (mM Q) j 3 = 2
    · rw [if_pos z, if_pos z, if_pos rfl]
      exact rdr.ok rfl rfl
    · rw [if_neg z, if_neg z, if_neg Bool.false_ne_true]
      exact rdr.no 1 eN rfl rfl
  · rw [if_neg (ntrue e), if_neg (ntrue e)]
    exact rdr.no 0 eI rfl rfl
theorem rd_ta (hM : okM B (mM Q)) (hF : eqF F (mM Q)) (r c : Int32) : rdr [eI, eN] (if isCell' r c then (if tIn F r c < 0 then .inr eN else .inl (some (.int (tIn F r c)))) else .inr eI) (qTA Q r c) Q := by
  unfold qTA
  rcases b_tf (b := isCell' r c) with e | e
  · obtain ⟨x, y, hx, hy, rfl, rfl⟩ := cell_nat e
    rw [if_pos e, if_pos e, tIn_eq hF.1.2.2 hx hy]
    by_cases z : qIn (mM Q) (nI x) (nI y) < 0
    · rw [if_pos z, if_pos z]
      exact rdr.no 1 eN rfl rfl
    · rw [if_neg z, if_neg z]
      exact rdr.ok rfl rfl
  · rw [if_neg (ntrue e), if_neg (ntrue e)]
    exact rdr.no 0 eI rfl rfl
theorem rd_ow (hM : okM B (mM Q)) (hF : eqF F (mM Q)) (d x : Int32) : rdr [eA] (if isWind' d x then .inl (some (.int (sumI F d x (fN F)))) else .inr eA) (qOW Q d x) Q := by
  unfold qOW isWind'
  rcases way_of d with ⟨h, w, hw, e1, e2, e3⟩ | ⟨h, e1⟩
  · rw [h, e1, ← e2, if_neg (nI_pos (by omega))]
    rcases b_tf (b := wIn x 0 30) with hy | hy
    · obtain ⟨s, -, s2, s3, rfl⟩ := wIn_nat (a := 0) (b := 30) hy (by decide)
      obtain ⟨v, v1, v2, v3⟩ := qTw_eq hM hF.1 hw (s := s) (by omega)
      rw [hy, v3, fN_eq hF.1, v2]
      exact rdr.ok rfl rfl
    · rw [hy]
      exact rdr.no 0 eA rfl rfl
  · rw [h, e1]
    exact rdr.no 0 eA rfl rfl
/-! bids -/
theorem rd_hb (hM : okM B (mM Q)) (hF : eqF F (mM Q)) (x : Int32) : rdr [eI] (if isHour' x then .inl (some (.int (b2i (bidF F x)))) else .inr eI) (qHB Q x) Q := by
  unfold qHB qIf
  rcases b_tf (b := isHour' x) with e | e
  · obtain ⟨j, hj, rfl⟩ := hour_nat e
    obtain ⟨p, u, p1, p2, p3, p4, p5, p6, p7, p8⟩ := bid_eq hM hF hj
    rw [if_pos e, if_pos e, p8, p4]
    refine rdr.ok rfl ?_
    by_cases z : p = 0
    · rw [decide_eq_false (by omega), z]; rfl
    · rw [decide_eq_true (by omega), if_neg (nI_nle (by omega) (by omega))]; rfl
  · rw [if_neg (ntrue e), if_neg (ntrue e)]
    exact rdr.no 0 eI rfl rfl
theorem rd_bp (hM : okM B (mM Q)) (hF : eqF F (mM Q)) (x : Int32) : rdr [eI, eN] (if isHour' x then (if bidF F x then .inl (some (.int (vAt 24 (fA F 7) x))) else .inr eN) else .inr eI) (qBk Q x (qPr (mM Q) x)) Q := by
  unfold qBk
  rcases b_tf (b := isHour' x) with e | e
  · obtain ⟨j, hj, rfl⟩ := hour_nat e
    obtain ⟨p, u, p1, p2, p3, p4, p5, p6, p7, p8⟩ := bid_eq hM hF hj
    rw [if_pos e, if_pos e, p8, p4, p6]
    by_cases z : p = 0
    · rw [decide_eq_false (by omega), if_neg Bool.false_ne_true, if_pos (by rw [z]; rfl)]
      exact rdr.no 1 eN rfl rfl
    · rw [decide_eq_true (by omega), if_pos rfl, if_neg (nI_ne0 (by omega) (by omega))]
      exact rdr.ok rfl rfl
  · rw [if_neg (ntrue e), if_neg (ntrue e)]
    exact rdr.no 0 eI rfl rfl
theorem rd_bq (hM : okM B (mM Q)) (hF : eqF F (mM Q)) (x : Int32) : rdr [eI, eN] (if isHour' x then (if bidF F x then .inl (some (.int (vAt 24 (fA F 8) x))) else .inr eN) else .inr eI) (qBk Q x (qQu (mM Q) x)) Q := by
  unfold qBk
  rcases b_tf (b := isHour' x) with e | e
  · obtain ⟨j, hj, rfl⟩ := hour_nat e
    obtain ⟨p, u, p1, p2, p3, p4, p5, p6, p7, p8⟩ := bid_eq hM hF hj
    rw [if_pos e, if_pos e, p8, p4, p7, p5]
    by_cases z : p = 0
    · rw [decide_eq_false (by omega), if_neg Bool.false_ne_true, if_pos (by rw [z]; rfl)]
      exact rdr.no 1 eN rfl rfl
    · rw [decide_eq_true (by omega), if_pos rfl, if_neg (nI_ne0 (by omega) (by omega))]
      exact rdr.ok rfl rfl
  · rw [if_neg (ntrue e), if_neg (ntrue e)]
    exact rdr.no 0 eI rfl rfl
theorem tri (x y : Int32) (b : Bool) : (if x = 0 then (if y = 0 then b else (if y ≤ 0 then false else true)) else (if x ≤ 0 then false else true)) = (if 0 < x then true else if x = 0 then (if 0 < y then true else if y = 0 then b else false) else false) := by
  have key : ∀ z : Int32, ¬ z = 0 → (z ≤ 0 ∧ ¬ 0 < z) ∨ (¬ z ≤ 0 ∧ 0 < z) := fun z hz => by
    by_cases h : z ≤ 0
    · exact Or.inl ⟨h, Int32.not_lt.mpr h⟩
    · exact Or.inr ⟨h, Int32.not_le.mp h⟩
  by_cases hx : x = 0
  · rw [if_pos hx, if_neg (show ¬ 0 < x by rw [hx]; decide), if_pos hx]
    by_cases hy : y = 0
    · rw [if_pos hy, if_neg (show ¬ 0 < y by rw [hy]; decide), if_pos hy]
    · rcases key y hy with ⟨a, c⟩ | ⟨a, c⟩
      · rw [if_neg hy, if_pos a, if_neg c, if_neg hy]
      · rw [if_neg hy, if_neg a, if_pos c]
  · rcases key x hx with ⟨a, c⟩ | ⟨a, c⟩
    · rw [if_neg hx, if_pos a, if_neg c, if_neg hx]
    · rw [if_neg hx, if_neg a, if_pos c]
theorem add_b (c : Int32) (b : Bool) : (if b = true then c + 1 else c) = c + b2i b := by
  cases b
  · exact (Int32.add_zero _).symm
  · rfl
theorem bAo_eq (hM : okM B (mM Q)) (hF : eqF F (mM Q)) {k : Nat} (hk : k < 24) : ∀ n, n ≤ 24 → bAo F (nI k) n = qBA (mM Q) (nI k) n
  | 0, _ => rfl
  | n + 1, h => by
    obtain ⟨p, u, p1, p2, p3, p4, p5, p6, p7, p8⟩ := bid_eq hM hF (x := n) (by omega)
    obtain ⟨p', u', -, -, -, p4', p5', p6', p7', -⟩ := bid_eq hM hF hk
    unfold bAo qBA
    rw [bAo_eq hM hF hk n (by omega), p8]
    unfold qBA1 bAh
    rw [p4, p4', p5, p5', p6, p6', p7, p7', tri]
    by_cases z : p = 0
    · rw [decide_eq_false (by omega), if_neg Bool.false_ne_true, if_pos (by rw [z]; decide)]
      exact (Int32.add_zero _).symm
    · rw [decide_eq_true (by omega), if_pos rfl, if_neg (nI_nle (by omega) (by omega))]
      exact add_b _ _
theorem rd_byp (hM : okM B (mM Q)) (hF : eqF F (mM Q)) (x : Int32) : ∀ (n j : Nat), j + n ≤ 24 → rdr [eN] (zBP F x j n) (qBP Q x j n) Q
  | 0, _, _ => rdr.no 0 eN rfl rfl
  | n + 1, j, h => by
    obtain ⟨p, u, p1, p2, p3, p4, p5, p6, p7, p8⟩ := bid_eq hM hF (x := j) (by omega)
    unfold zBP qBP
    rw [p8, p4, bAo_eq hM hF (by omega) 24 (Nat.le_refl _)]
    by_cases z : p = 0
    · rw [decide_eq_false (by omega), if_neg Bool.false_ne_true, if_pos (by rw [z]; rfl)]
      exact rd_byp hM hF x n (j + 1) (by omega)
    · rw [decide_eq_true (by omega), if_pos rfl, if_neg (nI_ne0 (by omega) (by omega))]
      by_cases y : qBA (mM Q) (nI j) 24 = x
      · rw [if_pos y, if_pos y]
        exact rdr.ok rfl rfl
      · rw [if_neg y, if_neg y]
        exact rd_byp hM hF x n (j + 1) (by omega)
theorem rd_htb (hM : okM B (mM Q)) (hF : eqF F (mM Q)) {t : Nat} (h4 : mM Q 4 = nI t) (ht : t < 2 ^ 30) : ∀ (n j : Nat), j + n ≤ 24 → rdr [eN] (zHT F j n) (qHT Q j n) Q
  | 0, _, _ => rdr.no 0 eN rfl rfl
  | n + 1, j, h => by
    have e : nI t + nI j - (nI t + nI j) / 24 * 24 = nI ((t + j) % 24) := by rw [nI_add]; exact hr_nI (by omega)
    obtain ⟨p, u, p1, p2, p3, p4, p5, p6, p7, p8⟩ := bid_eq hM hF (x := (t + j) % 24) (Nat.mod_lt _ (by decide))
    unfold zHT qHT
    rw [hF.2.2.2.2.1, h4, e, p8, p4]
    by_cases z : p = 0
    · rw [decide_eq_false (by omega), if_neg Bool.false_ne_true, if_pos (by rw [z]; decide)]
      exact rd_htb hM hF h4 ht n (j + 1) (by omega)
    · rw [decide_eq_true (by omega), if_pos rfl, if_neg (nI_nle (by omega) (by omega))]
      exact rdr.ok rfl rfl
theorem tAo_eq (hM : okM B (mM Q)) (hF : eqF F (mM Q)) {k : Nat} (hk : k < qN (mM Q)) : ∀ n, n ≤ qN (mM Q) → tAo F (nI k) n = qTAh (mM Q) (nI k) n
  | 0, _ => rfl
  | n + 1, h => by
    have h12 := hM.1.2
    obtain ⟨-, o2, o3, -⟩ := out_oN hM hF (j := n) (by omega)
    obtain ⟨-, p2, p3, -⟩ := out_oN hM hF hk
    unfold tAo qTAh
    rw [tAo_eq hM hF hk n (by omega)]
    unfold qTA1 tAh
    rw [o2, o3, p2, p3, vAt_nI (by omega) (by decide), vAt_nI (by omega) (by decide), (hF.1.2.1 n (by omega)).2.2.1, (hF.1.2.1 k hk).2.2.1, qT2 (by omega), qT2 (by omega), tri]
    exact add_b _ _
theorem rd_tbo (hM : okM B (mM Q)) (hF : eqF F (mM Q)) (x : Int32) : ∀ (n j : Nat), j + n ≤ qN (mM Q) → rdr [eN] (zTP F x j n) (qTP Q x j n) Q
  | 0, _, _ => rdr.no 0 eN rfl rfl
  | n + 1, j, h => by
    unfold zTP qTP
    rw [fN_eq hF.1, tAo_eq hM hF (by omega) _ (Nat.le_refl _)]
    by_cases y : qTAh (mM Q) (nI j) (qN (mM Q)) = x
    · rw [if_pos y, if_pos y]
      exact rdr.ok rfl rfl
    · rw [if_neg y, if_neg y]
      exact rd_tbo hM hF x n (j + 1) (by omega)
/-! the best direction -/
theorem sCh_sgn : ∀ n, n < 4 → sCh 0 n = qSgn (nI n) := by decide +kernel
theorem bd_eq (hM : okM B (mM Q)) (hF : eqF F (mM Q)) : ∀ k, k < 4 → ∃ i v, i ≤ k ∧ v ≤ 1080 ∧ qBD (mM Q) k = nI i ∧ qTw (mM Q) (nI i) (mM Q 2) = nI v ∧ zBd F (k + 1) = (qSgn (nI i), nI v)
  | 0, _ => by
    obtain ⟨s, hs, h2⟩ := hM.2.2.2.2.2.1
    obtain ⟨v, v1, v2, v3⟩ := qTw_eq hM hF.1 (w := 0) (by decide) hs
    refine ⟨0, v, Nat.le_refl _, v1, rfl, by rw [h2]; exact v3, ?_⟩
    show (if sumI F (sCh 0 0) (fI F 2) (fN F) ≤ -1 then _ else _) = _
    rw [sCh_sgn 0 (by decide), fN_eq hF.1, hF.2.2.1, h2, v2, if_neg (fun z => nI_pos (n := v) (by omega) (Int32.lt_of_le_of_lt z (by decide)))]
  | k + 1, h => by
    obtain ⟨i, v, i1, i2, i3, i4, i5⟩ := bd_eq hM hF k (by omega)
    obtain ⟨s, hs, h2⟩ := hM.2.2.2.2.2.1
    obtain ⟨v', v1, v2, v3⟩ := qTw_eq hM hF.1 (w := k + 1) (by omega) hs
    unfold zBd qBD
    rw [i5, i3, i4, sCh_sgn (k + 1) (by omega), fN_eq hF.1, hF.2.2.1, h2, v2, v3]
    by_cases z : v' ≤ v
    · rw [if_pos (nI_le z (by omega)), if_pos (nI_le z (by omega))]
      exact ⟨i, v, by omega, i2, rfl, by rw [← h2]; exact i4, rfl⟩
    · rw [if_neg (nI_ge (by omega) (by omega)), if_neg (nI_ge (by omega) (by omega))]
      exact ⟨k + 1, v', Nat.le_refl _, v1, rfl, v3, rfl⟩
theorem bd_cur (hM : okM B (mM Q)) (hF : eqF F (mM Q)) : (zBd F 4).1 = qSgn (qBD (mM Q) 3) := by
  obtain ⟨i, v, -, -, i3, -, i5⟩ := bd_eq hM hF 3 (by decide)
  rw [i5, i3]
end READ
