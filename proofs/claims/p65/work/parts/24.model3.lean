/-! the rest of the reference: dispatch, release of all, hours; forecasts; what its public methods answer -/
theorem qSet_lo {M : Nat → Int32} {t : Int32} (ht : vp_in t 12) {w v : Int32} (k : Nat) (hw : w = nI k) (hk : k < 6) {i : Nat} (hi : i < 57) : qSet M t w v i = M i := by
  subst hw
  obtain ⟨j, hj, rfl⟩ := vp_in_of ht (by decide)
  unfold qSet upd
  rw [show (57 : Int32) = nI 57 from rfl, show (6 : Int32) = nI 6 from rfl, pk_mul, nI_add, nI_add, nI_clamp (by omega), if_neg (by omega)]
theorem wM_of {M M2 : Nat → Int32} (h : wM M) (e : M2 0 = M 0) : wM M2 := by unfold wM qN at *; rw [e]; exact h
theorem qN_of {M M2 : Nat → Int32} (e : M2 0 = M 0) : qN M2 = qN M := by unfold qN; rw [e]
theorem nJ_in {j n : Nat} (h : j < n) (hn : n ≤ 2000) : vp_in (nI j) n := vp_in_nI h (by omega)
theorem qBs_rng (M : Nat → Int32) : ∀ n : Nat, ∃ i, i ≤ n ∧ qBs M n = nI i
  | 0 => ⟨0, Nat.le_refl _, rfl⟩
  | n + 1 => by
    unfold qBs
    split
    · obtain ⟨i, h1, h2⟩ := qBs_rng M n
      exact ⟨i, by omega, h2⟩
    · exact ⟨n + 1, Nat.le_refl _, rfl⟩
theorem qBs_in {M : Nat → Int32} {n : Nat} (h : n < 12) : vp_in (qBs M n) 12 := by
  obtain ⟨i, h1, h2⟩ := qBs_rng M n
  rw [h2]; exact nJ_in (by omega) (by decide)
theorem qDs_lo {M : Nat → Int32} (hw : wM M) {i : Nat} (hi : i < 57) : qDs M i = M i := by
  unfold qDs qBst
  exact qSet_lo (w := 5) (qBs_in (by have := hw.2; omega)) 5 rfl (by decide) hi
theorem qDr_stop {Q : MM} (n : Nat) (h : qEx (mM Q) ≤ 0) : qDr n Q = Q := by
  cases n with
  | zero => rfl
  | succ n => rw [qDr, if_pos h]
theorem qRa_lo {Q : MM} {i : Nat} (hi : i < 57) : ∀ n : Nat, n ≤ 12 → mM (qRa Q n) i = mM Q i
  | 0, _ => rfl
  | n + 1, h => by
    rw [qRa, mM_sM, qSet_lo (w := 5) (nJ_in (by omega) (by decide)) 5 rfl (by decide) hi]
    exact qRa_lo hi n (by omega)
theorem qW1_lo {M : Nat → Int32} {t : Int32} (ht : vp_in t 12) {i : Nat} (hi : i < 57) : qW1 M t i = M i := by
  unfold qW1
  split
  · rw [qSet_lo (w := 3) ht 3 rfl (by decide) hi, qSet_lo (w := 4) ht 4 rfl (by decide) hi]
  · rfl
theorem qWs_lo {M : Nat → Int32} {i : Nat} (hi : i < 57) : ∀ n : Nat, n ≤ 12 → qWs M n i = M i
  | 0, _ => rfl
  | n + 1, h => by
    rw [qWs, qW1_lo (nJ_in (by omega) (by decide)) hi]
    exact qWs_lo hi n (by omega)
theorem qAc_0 (M : Nat → Int32) (en : Int32) : qAc M en 0 = M 0 := rfl
theorem qAc_4 (M : Nat → Int32) (en : Int32) : qAc M en 4 = M 4 := rfl
theorem qPs_0 {M : Nat → Int32} (hw : wM M) : qPs M 0 = M 0 := by
  unfold qPs
  show qWs _ _ 0 = _
  rw [qWs_lo (by decide) _ hw.2]
  rfl
theorem qPs_4 {M : Nat → Int32} : qPs M 4 = M 4 + 1 := rfl
theorem qPas_0 {M : Nat → Int32} (hw : wM M) : ∀ n : Nat, qPas M n 0 = M 0
  | 0 => rfl
  | n + 1 => by rw [qPas, qPs_0 (wM_of hw (qPas_0 hw n)), qPas_0 hw n]
theorem qPas_4 {M : Nat → Int32} : ∀ (n t : Nat), M 4 = nI t → qPas M n 4 = nI (t + n)
  | 0, t, h => h
  | n + 1, t, h => by rw [qPas, qPs_4, qPas_4 n t h, nI_1, Nat.add_assoc]
/-- an hour of the day -/
theorem hr_nI {t : Nat} (ht : t < 2 ^ 31) : nI t - nI t / 24 * 24 = nI (t % 24) := pk_rem ht (by decide) (by decide)
theorem upd_upd_back (M : Nat → Int32) (w s : Int32) : upd (upd (upd (upd M 1 w) 2 s) 1 (M 1)) 2 (M 2) = M := by
  funext i
  unfold upd
  by_cases h2 : i = 2
  · rw [if_pos h2, h2]
  · by_cases h1 : i = 1
    · rw [if_neg h2, if_pos h1, h1]
    · rw [if_neg h2, if_neg h1, if_neg h2, if_neg h1]
def qTw (M : Nat → Int32) (w s : Int32) : Int32 := qTo (upd (upd M 1 w) 2 s) (qN M)
/-- a public change -/
def qB (Q : MM) : MM := sMM Q (cpM (mM Q) 0 10)
def qCh (o : MM × Int32) (x y z : Int32) : MM × Int32 := qEnd o.1 o.2 x y z
def hC (Q : MM) : Prop := mI Q 2 = nI (mI Q 2).toNatClampNeg ∧ (mI Q 2).toNatClampNeg ≤ 8
theorem hC_of {Q Q2 : MM} (h : hC Q) (e : mI Q2 2 = mI Q 2) : hC Q2 := by unfold hC at *; rw [e]; exact h
theorem wM_B {Q : MM} (hw : wM (mM Q)) : wM (mM (qB Q)) := wM_of hw (by unfold qB cpM; rw [mM_sM, if_neg (by omega)])
/-- an answer of a reader: the number of its throw, its answer -/
def qR (Q : MM) (k : Int32) (v : Int32) : MM × Int32 := (sMI Q 0 k, v)
def qTA (Q : MM) (r c : Int32) : MM × Int32 := if isCell' r c then (if qIn (mM Q) r c < 0 then qR Q 2 0 else qR Q 0 (qIn (mM Q) r c)) else qR Q 1 0
def qIf (Q : MM) (b : Bool) (v : Int32) : MM × Int32 := if b then qR Q 0 v else qR Q 1 0
def qLOf (Q : MM) (t : Int32) : MM × Int32 := if qIT (mM Q) t then (if qT (mM Q) t 5 = 0 then qR Q 2 0 else qR Q 0 (qT (mM Q) t 5 - 1)) else qR Q 1 0
def qSH (Q : MM) (t : Int32) : MM × Int32 := if qIT (mM Q) t then (if qT (mM Q) t 3 = 2 then qR Q 0 (qT (mM Q) t 4) else qR Q 2 0) else qR Q 1 0
def qOW (Q : MM) (d s : Int32) : MM × Int32 := if qWay d < 0 then qR Q 1 0 else if wIn s 0 30 then qR Q 0 (qTw (mM Q) (qWay d) s) else qR Q 1 0
def qBD (M : Nat → Int32) : Nat → Int32
  | 0 => 0
  | n + 1 => if qTw M (nI (n + 1)) (M 2) ≤ qTw M (qBD M n) (M 2) then qBD M n else nI (n + 1)
def qHB (Q : MM) (x : Int32) : MM × Int32 := qIf Q (isHour' x) (if qPr (mM Q) x ≤ 0 then 0 else 1)
def qBk (Q : MM) (x v : Int32) : MM × Int32 := if isHour' x then (if qPr (mM Q) x = 0 then qR Q 2 0 else qR Q 0 v) else qR Q 1 0
/-- how many bids stand ahead of hour k's -/
def qBA1 (M : Nat → Int32) (k j : Int32) : Bool :=
  if qPr M j ≤ 0 then false else if 0 < qPr M j - qPr M k then true else if qPr M j - qPr M k = 0 then
    (if 0 < qQu M j - qQu M k then true else if qQu M j - qQu M k = 0 then (if k ≤ j then false else true) else false) else false
def qBA (M : Nat → Int32) (k : Int32) : Nat → Int32
  | 0 => 0
  | n + 1 => qBA M k n + b2i (qBA1 M k (nI n))
/-- the first hour from j on whose bid stands at p -/
def qBP (Q : MM) (p : Int32) : Nat → Nat → MM × Int32
  | _, 0 => qR Q 1 0
  | j, n + 1 => if qPr (mM Q) (nI j) = 0 then qBP Q p (j + 1) n else if qBA (mM Q) (nI j) 24 = p then qR Q 0 (nI j) else qBP Q p (j + 1) n
def qHT (Q : MM) : Nat → Nat → MM × Int32
  | _, 0 => qR Q 1 0
  | j, n + 1 => if qPr (mM Q) (mM Q 4 + nI j - (mM Q 4 + nI j) / 24 * 24) ≤ 0 then qHT Q (j + 1) n else qR Q 0 (nI j)
def qTA1 (M : Nat → Int32) (k j : Int32) : Bool :=
  if 0 < qOu M j - qOu M k then true else if qOu M j - qOu M k = 0 then
    (if 0 < qT M j 2 - qT M k 2 then true else if qT M j 2 - qT M k 2 = 0 then (if k ≤ j then false else true) else false) else false
def qTAh (M : Nat → Int32) (k : Int32) : Nat → Int32
  | 0 => 0
  | n + 1 => qTAh M k n + b2i (qTA1 M k (nI n))
def qTP (Q : MM) (p : Int32) : Nat → Nat → MM × Int32
  | _, 0 => qR Q 1 0
  | j, n + 1 => if qTAh (mM Q) (nI j) (qN (mM Q)) = p then qR Q 0 (nI j) else qTP Q p (j + 1) n
def qInc (Q : MM) (x : Int32) : MM × Int32 :=
  if wIn x 1 48 then (sMM (sMI Q 0 0) (cpM (qPas (cpM (mM Q) 0 11) x.toNatClampNeg) 11 0), qPas (cpM (mM Q) 0 11) x.toNatClampNeg 8 - qPas (cpM (mM Q) 0 11) x.toNatClampNeg 1427) else (sMI Q 0 1, 0)
theorem wIn_in1 {x : Int32} (h : wIn x 1 48 = true) : vp_in x 49 := by
  unfold wIn at h
  by_cases h1 : x < 1
  · rw [if_pos h1] at h; cases h
  · by_cases h2 : 48 < x
    · rw [if_neg h1, if_pos h2] at h; cases h
    · have h3 : ¬ x < 0 := fun z => h1 (Int32.lt_trans z (by decide))
      obtain ⟨j, hj, rfl⟩ := nI_of h3
      have : ¬ 48 < j := fun z => h2 (nI_lt (a := 48) z hj)
      exact vp_in_nI (by omega) (by decide)
theorem qAdd_2 (Q : MM) (x y z : Int32) : mI (qAdd Q x y z).1 2 = mI Q 2 := by unfold qAdd; repeat' split
                                                                               all_goals rfl
theorem qFai_2 (Q : MM) (x : Int32) : mI (qFai Q x).1 2 = mI Q 2 := by unfold qFai; repeat' split
                                                                       all_goals rfl
theorem qSnd_2 (Q : MM) (x y : Int32) : mI (qSnd Q x y).1 2 = mI Q 2 := by unfold qSnd; repeat' split
                                                                           all_goals rfl
theorem qRcl_2 (Q : MM) (x : Int32) : mI (qRcl Q x).1 2 = mI Q 2 := by unfold qRcl; repeat' split
                                                                       all_goals rfl
theorem qCur_2 (Q : MM) (x y : Int32) : mI (qCur Q x y).1 2 = mI Q 2 := by unfold qCur; repeat' split
                                                                           all_goals rfl
theorem qRel_2 (Q : MM) (x : Int32) : mI (qRel Q x).1 2 = mI Q 2 := by unfold qRel; repeat' split
                                                                       all_goals rfl
theorem qBlo_2 (Q : MM) (x y : Int32) : mI (qBlo Q x y).1 2 = mI Q 2 := by unfold qBlo; repeat' split
                                                                           all_goals rfl
theorem qLim_2 (Q : MM) (x : Int32) : mI (qLim Q x).1 2 = mI Q 2 := by unfold qLim; repeat' split
                                                                       all_goals rfl
theorem qPla_2 (Q : MM) (x y z : Int32) : mI (qPla Q x y z).1 2 = mI Q 2 := by unfold qPla; repeat' split
                                                                               all_goals rfl
theorem qWdr_2 (Q : MM) (x : Int32) : mI (qWdr Q x).1 2 = mI Q 2 := by unfold qWdr; repeat' split
                                                                       all_goals rfl
theorem qPh_2 (Q : MM) (x : Int32) : mI (qPh Q x).1 2 = mI Q 2 := by unfold qPh; repeat' split
                                                                     all_goals rfl
theorem qDr_2 : ∀ (d : Nat) (Q : MM), mI (qDr d Q) 2 = mI Q 2
  | 0, _ => rfl
  | d + 1, Q => by
    rw [qDr]
    split
    · rfl
    · exact qDr_2 d _
theorem qRa_2 (Q : MM) : ∀ n : Nat, mI (qRa Q n) 2 = mI Q 2
  | 0 => rfl
  | n + 1 => qRa_2 Q n
theorem qDrP_2 (Q : MM) {d : Nat} : mI (qDr d (sMI (qB Q) 4 0)) 2 = mI Q 2 := qDr_2 d _
theorem qRaP_2 (Q : MM) {n : Nat} : mI (qRa (qB Q) n) 2 = mI Q 2 := qRa_2 _ n
theorem qPr_u {M : Nat → Int32} {x v : Int32} {k : Nat} (hx : vp_in x 24) (hk : k < 9) : qPr (upd M k v) x = qPr M x := by
  obtain ⟨j, hj, rfl⟩ := vp_in_of hx (by decide)
  unfold qPr upd
  rw [show (9 : Int32) = nI 9 from rfl, show (2 : Int32) = nI 2 from rfl, pk_mul, nI_add, nI_clamp (by omega), if_neg (by omega)]
