/-! the reference's changes: what is left behind, and the code that it answers -/
def qSet (M : Nat → Int32) (t w v : Int32) : Nat → Int32 := upd M (57 + 6 * t + w).toNatClampNeg v
def qRej (Q : MM) (b w : Int32) : MM := sMI (sMI (sMI Q 5 b) 6 w) 7 0
def cpM (M : Nat → Int32) (f t : Nat) : Nat → Int32 := fun i => if 129 * t ≤ i ∧ i < 129 * t + 129 then M (129 * f + (i - 129 * t)) else M i
def cpJ (M : Nat → Int32) (f t j : Nat) : Nat → Int32 := fun i => if 129 * t ≤ i ∧ i < 129 * t + j then M (129 * f + (i - 129 * t)) else M i
theorem cpJ_0 (M : Nat → Int32) (f t : Nat) : cpJ M f t 0 = M := by funext i; unfold cpJ; rw [if_neg (by omega)]
theorem cpJ_s (M : Nat → Int32) {f t j : Nat} (hne : f ≠ t) (hj : j < 129) : upd (cpJ M f t j) (129 * t + j) (cpJ M f t j (129 * f + j)) = cpJ M f t (j + 1) := by
  funext i
  unfold upd cpJ
  by_cases e : i = 129 * t + j
  · subst e
    rw [if_pos rfl, if_neg (by omega : ¬ (129 * t ≤ 129 * f + j ∧ 129 * f + j < 129 * t + j)), if_pos (by omega : 129 * t ≤ 129 * t + j ∧ 129 * t + j < 129 * t + (j + 1)), show 129 * t + j - 129 * t = j by omega]
  · rw [if_neg e]
    by_cases e2 : 129 * t ≤ i ∧ i < 129 * t + j
    · rw [if_pos e2, if_pos (by omega)]
    · rw [if_neg e2, if_neg (by omega)]
def shf (M : Nat → Int32) : Nat → Nat → Int32
  | 0 => M
  | k + 1 => cpM (shf M k) (k + 2) (k + 1)
def thr (b x y z : Int32) : Int32 := if b = 1 then x else if b = 2 then y else if b = 3 then z else 0
def qEnd (Q : MM) (b x y z : Int32) : MM × Int32 :=
  if thr b x y z = 0 then
    (if mI Q 2 = 8 then (sMM (sMI (sMI (sMM (sMI Q 0 0) (shf (mM Q) 7)) 2 (mI Q 2 - 1)) 2 (mI Q 2 - 1 + 1)) (cpM (shf (mM Q) 7) 10 (mI Q 2).toNatClampNeg), mI Q 4)
     else (sMM (sMI (sMI Q 0 0) 2 (mI Q 2 + 1)) (cpM (mM Q) 10 (mI Q 2 + 1).toNatClampNeg), mI Q 4))
  else (sMM (sMI Q 0 (thr b x y z)) (cpM (mM Q) 10 0), 0)
def zer (M : Nat → Int32) (t : Int32) : Nat → Nat → Int32
  | 0 => M
  | k + 1 => qSet (zer M t k) t (nI k) 0
def qAdd (Q : MM) (r c p : Int32) : MM × Int32 :=
  if isCell' r c then (if wIn p 1 9 then
    (if mM Q 0 = 12 then (qRej Q 1 12, 3) else if qIn (mM Q) r c < 0 then
      (sMI (sMM Q (qSet (qSet (qSet (zer (upd (mM Q) 0 (mM Q 0 + 1)) (mM Q 0) 6) (mM Q 0) 0 r) (mM Q 0) 1 c) (mM Q 0) 2 p)) 4 (mM Q 0), 0)
     else (qRej Q 2 (qIn (mM Q) r c), 3)) else (Q, 2)) else (Q, 1)
def qFai (Q : MM) (t : Int32) : MM × Int32 :=
  if qIT (mM Q) t then (if qT (mM Q) t 3 = 0 then
     (sMI (sMM Q (qSet (qSet (mM Q) t 3 1) t 5 0)) 4 (qIS (qSet (qSet (mM Q) t 3 1) t 5 0) 1 (qN (qSet (qSet (mM Q) t 3 1) t 5 0)) + qIS (qSet (qSet (mM Q) t 3 1) t 5 0) 2 (qN (qSet (qSet (mM Q) t 3 1) t 5 0))), 0)
   else (qRej Q 3 (qT (mM Q) t 4), 3)) else (Q, 1)
def qSnd (Q : MM) (t x : Int32) : MM × Int32 :=
  if qIT (mM Q) t then (if wIn x 1 12 then (if qT (mM Q) t 3 = 1 then (if qIS (mM Q) 2 (qN (mM Q)) = 2 then (qRej Q 5 (qFS (mM Q) 0 (qN (mM Q))), 3)
     else (sMI (sMM Q (qSet (qSet (mM Q) t 3 2) t 4 x)) 4 (2 - qIS (qSet (qSet (mM Q) t 3 2) t 4 x) 2 (qN (qSet (qSet (mM Q) t 3 2) t 4 x))), 0))
    else (qRej Q 4 (qOu (mM Q) t), 3)) else (Q, 2)) else (Q, 1)
def qRcl (Q : MM) (t : Int32) : MM × Int32 :=
  if qIT (mM Q) t then (if qT (mM Q) t 3 = 2 then (sMM (sMI Q 4 (qT (mM Q) t 4)) (qSet (qSet (mM Q) t 3 1) t 4 0), 0) else (qRej Q 6 (qOu (mM Q) t), 3)) else (Q, 1)
def qCur (Q : MM) (t x : Int32) : MM × Int32 :=
  if qIT (mM Q) t then (if wIn x 0 90 then (if qT (mM Q) t 3 = 0 then (sMI (sMM Q (qSet (mM Q) t 5 (x + 1))) 4 (qOu (qSet (mM Q) t 5 (x + 1)) t), 0) else (qRej Q 3 (qT (mM Q) t 4), 3)) else (Q, 2)) else (Q, 1)
def qRel (Q : MM) (t : Int32) : MM × Int32 :=
  if qIT (mM Q) t then (if qT (mM Q) t 3 = 0 then (if qT (mM Q) t 5 = 0 then (qRej Q 7 (qOu (mM Q) t), 3) else (sMI (sMM Q (qSet (mM Q) t 5 0)) 4 (qOu (qSet (mM Q) t 5 0) t), 0)) else (qRej Q 3 (qT (mM Q) t 4), 3)) else (Q, 1)
def qBlo (Q : MM) (w x : Int32) : MM × Int32 :=
  if w < 0 then (Q, 2) else if wIn x 0 30 then (sMI (sMM Q (upd (upd (mM Q) 1 w) 2 x)) 4 (qTo (upd (upd (mM Q) 1 w) 2 x) (qN (upd (upd (mM Q) 1 w) 2 x))), 0) else (Q, 2)
def qLim (Q : MM) (x : Int32) : MM × Int32 := if wIn x 0 999 then (sMM (sMI Q 4 (mM Q 3)) (upd (mM Q) 3 x), 0) else (Q, 2)
/-- the best of the first turbines, from 1 on -/
def qBs (M : Nat → Int32) : Nat → Int32
  | 0 => 0
  | n + 1 => if qOu M (nI (n + 1)) ≤ qOu M (qBs M n) then qBs M n else nI (n + 1)
def qEx (M : Nat → Int32) : Int32 := qTo M (qN M) - M 3
def qBst (M : Nat → Int32) : Int32 := qBs M (qN M - 1)
def qDs (M : Nat → Int32) : Nat → Int32 := qSet M (qBst M) 5 (if 0 ≤ qOu M (qBst M) - qEx M then qOu M (qBst M) - qEx M + 1 else 1)
def qDr : Nat → MM → MM
  | 0, Q => Q
  | k + 1, Q => if qEx (mM Q) ≤ 0 then Q else qDr k (sMI (sMM Q (qDs (mM Q))) 4 (mI Q 4 + 1))
def qRa (Q : MM) : Nat → MM
  | 0 => sMI Q 4 0
  | n + 1 => sMM (sMI (qRa Q n) 4 (mI (qRa Q n) 4 + (if qT (mM (qRa Q n)) (nI n) 5 ≤ 0 then 0 else 1))) (qSet (mM (qRa Q n)) (nI n) 5 0)
def qPla (Q : MM) (x p u : Int32) : MM × Int32 :=
  if isHour' x then (if wIn p 1 50 then (if wIn u 1 500 then (if qPr (mM Q) x ≤ 0 then
     (sMI (sMM Q (upd (upd (mM Q) (9 + 2 * x).toNatClampNeg p) (9 + 2 * x + 1).toNatClampNeg u)) 4 (qBd (upd (upd (mM Q) (9 + 2 * x).toNatClampNeg p) (9 + 2 * x + 1).toNatClampNeg u) 24), 0)
   else (qRej Q 8 (qPr (mM Q) x), 3)) else (Q, 2)) else (Q, 2)) else (Q, 1)
def qWdr (Q : MM) (x : Int32) : MM × Int32 :=
  if isHour' x then (if qPr (mM Q) x = 0 then (qRej Q 9 (qBd (mM Q) 24), 3) else (sMM (sMI Q 4 (qQu (mM Q) x)) (upd (upd (mM Q) (9 + 2 * x).toNatClampNeg 0) (9 + 2 * x + 1).toNatClampNeg 0), 0)) else (Q, 1)
def qW1 (M : Nat → Int32) (t : Int32) : Nat → Int32 :=
  if qT M t 3 = 2 then qSet (qSet M t 4 (qT M t 4 - 1)) t 3 (if qT (qSet M t 4 (qT M t 4 - 1)) t 4 = 0 then 0 else 2) else M
def qWs (M : Nat → Int32) : Nat → Nat → Int32
  | 0 => M
  | n + 1 => qW1 (qWs M n) (nI n)
def qHr (M : Nat → Int32) : Int32 := M 4 - M 4 / 24 * 24
def qSo (M : Nat → Int32) (en : Int32) : Int32 := if qQu M (qHr M) ≤ en - en / 20 then qQu M (qHr M) else en - en / 20
def qAc (M : Nat → Int32) (en : Int32) : Nat → Int32 :=
  upd (upd (upd (upd M 5 (M 5 + en)) 6 (M 6 + en / 20)) 7 (M 7 + qSo M en)) 8 (M 8 + (qSo M en * qPr M (qHr M) - (qQu M (qHr M) - qSo M en) * qPr M (qHr M)))
def qPs (M : Nat → Int32) : Nat → Int32 := upd (qWs (qAc M (qTo M (qN M))) (qN M)) 4 (M 4 + 1)
def qPas (M : Nat → Int32) : Nat → Nat → Int32
  | 0 => M
  | n + 1 => qPs (qPas M n)
def qPh (Q : MM) (x : Int32) : MM × Int32 := if wIn x 1 48 then (sMI (sMM Q (qPas (mM Q) x.toNatClampNeg)) 4 (qPas (mM Q) x.toNatClampNeg 7 - mM Q 7), 0) else (Q, 2)
