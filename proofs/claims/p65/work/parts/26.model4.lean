/-! more of the reference: what its readers need; its text, its parser, its commands -/
section CONSTS
variable {X : CX} {G : GX} {cc : ByteArray} {own : String} {nL N pc pc' : Nat} {lo : List (Nat × Value)} {st : List Value} {S : Nat → va_E} {a b : Nat} {rm : Nat × Nat × Nat × Nat}
theorem r_dconst0 (h : OK X G N cc own nL rm) (hd : decode cc pc = .ok (.dconst 0, 1)) (hp : pc + 1 = pc') (kk : AW X G nL N pc' lo (.double FP.dconst0 :: st) S a b) : AW X G nL N pc lo st S a b := by
  subst hp
  intro H locs ls hP hS hl
  exact lv_dconst0 h.1 h.2.1 hd (kk H locs ls hP hS hl)
theorem r_fconst0 (h : OK X G N cc own nL rm) (hd : decode cc pc = .ok (.fconst 0, 1)) (hp : pc + 1 = pc') (kk : AW X G nL N pc' lo (.float FP.fconst0 :: st) S a b) : AW X G nL N pc lo st S a b := by
  subst hp
  intro H locs ls hP hS hl
  exact lv_fconst0 h.1 h.2.1 hd (kk H locs ls hP hS hl)
theorem aw_st {st' : List Value} (e : st = st') (k : AW X G nL N pc lo st' S a b) : AW X G nL N pc lo st S a b := by rw [e]; exact k
end CONSTS
theorem sMI_self (Q : MM) (k : Nat) : sMI Q k (mI Q k) = Q := by
  obtain ⟨q, r⟩ := Q
  unfold sMI mI
  congr 1
  funext j
  split
  · next e => rw [e]
  · rfl
theorem sMI_twice (Q : MM) (k : Nat) (v w : Int32) : sMI (sMI Q k v) k w = sMI Q k w := by
  unfold sMI
  congr 1
  funext j
  by_cases e : j = k
  · simp [e]
  · simp [e]
theorem nar_qSgn (w : Int32) : narrow .char (.int (qSgn w)) = .int (qSgn w) := by
  unfold qSgn
  repeat' split
  all_goals rfl
def qUn (Q : MM) : MM × Int32 := if mI Q 2 ≤ 0 then qR Q 1 0 else (sMI (sMM (sMI Q 0 0) (cpM (mM Q) (mI Q 2).toNatClampNeg 0)) 2 (mI Q 2 - 1), mI Q 2 - 1)
def qSv (Q : MM) : MM × Int32 := (sMM (sMI (sMI Q 0 0) 3 1) (cpM (mM Q) 0 9), mM Q 0)
def qRs (Q : MM) : MM × Int32 := if mI Q 3 = 0 then qR Q 1 0 else (sMI (sMM (sMI Q 0 0) (cpM (mM Q) 9 0)) 2 0, mM Q (129 * 9))
def qNz (Q : MM) (x v : Int32) : MM × Int32 := if x = 0 then qR Q 1 0 else qR Q 0 v
/-! its text -/
def chr (x : Int32) : Int32 := (x.toUInt32 % 65536).toInt32
def qWr (Q : MM) (c : Int32) : MM := sMI (sML Q (upd (mL Q) (mI Q 9).toNatClampNeg (chr c))) 9 (mI Q 9 + 1)
def qWd (Q : MM) (v : Int32) : MM := qWr Q (48 + (v - v / 10 * 10))
def qWn (Q : MM) (v : Int32) : MM := if v ≤ 9 then qWd Q v else qWd (qWd Q (v / 10)) v
def qWb (Q : MM) (c v : Int32) : MM := qWn (qWr Q c) v
theorem mM_qWr (Q : MM) (c : Int32) : mM (qWr Q c) = mM Q := rfl
theorem mM_qWn (Q : MM) (v : Int32) : mM (qWn Q v) = mM Q := by unfold qWn; split <;> rfl
theorem mM_qWb (Q : MM) (c v : Int32) : mM (qWb Q c v) = mM Q := mM_qWn _ _
theorem qWr_9 {Q : MM} {p : Nat} (h : mI Q 9 = nI p) (c : Int32) : mI (qWr Q c) 9 = nI (p + 1) := by
  show mI Q 9 + 1 = _
  rw [h, nI_1]
theorem qWn_9 {Q : MM} {p : Nat} (h : mI Q 9 = nI p) (v : Int32) : ∃ q, q ≤ p + 2 ∧ mI (qWn Q v) 9 = nI q := by
  unfold qWn
  split
  · exact ⟨p + 1, by omega, qWr_9 h _⟩
  · exact ⟨p + 2, by omega, qWr_9 (qWr_9 h _) _⟩
theorem qWb_9 {Q : MM} {p : Nat} (h : mI Q 9 = nI p) (c v : Int32) : ∃ q, q ≤ p + 3 ∧ mI (qWb Q c v) 9 = nI q := by
  obtain ⟨q, h1, h2⟩ := qWn_9 (qWr_9 h c) v
  exact ⟨q, by omega, h2⟩
def qWt7 (Q : MM) (t : Int32) : MM := if qT (mM Q) t 5 ≤ 0 then Q else qWb Q 60 (qT (mM Q) t 5 - 1)
def qWt8 (Q : MM) (t : Int32) : MM := if qT (mM Q) t 3 = 1 then qWr Q 120 else Q
def qWt9 (Q : MM) (t : Int32) : MM := if qT (mM Q) t 3 = 2 then qWb Q 115 (qT (mM Q) t 4) else Q
def qWt6 (Q : MM) (t : Int32) : MM := qWb (qWb (qWb (qWb (qWn (sMI (sMI Q 0 0) 9 0) t) 64 (qT (mM Q) t 0)) 44 (qT (mM Q) t 1)) 112 (qT (mM Q) t 2)) 61 (qOu (mM Q) t)
def qWtt (Q : MM) (t : Int32) : MM × Int32 := if qIT (mM Q) t then (qWt9 (qWt8 (qWt7 (qWt6 Q t) t) t) t, mI (qWt9 (qWt8 (qWt7 (qWt6 Q t) t) t) t) 9) else qR Q 1 0
theorem mM_qWt6 (Q : MM) (t : Int32) : mM (qWt6 Q t) = mM Q := by unfold qWt6; rw [mM_qWb, mM_qWb, mM_qWb, mM_qWb, mM_qWn]; rfl
theorem mM_qWt7 (Q : MM) (t : Int32) : mM (qWt7 Q t) = mM Q := by
  unfold qWt7
  split
  · rfl
  · exact mM_qWb _ _ _
theorem mM_qWt8 (Q : MM) (t : Int32) : mM (qWt8 Q t) = mM Q := by unfold qWt8; split <;> rfl
theorem mM_qWt9 (Q : MM) (t : Int32) : mM (qWt9 Q t) = mM Q := by
  unfold qWt9
  split
  · exact mM_qWb _ _ _
  · rfl
/-- what it takes that a turbine can be written: its numbers have two digits at most -/
def hTen (M : Nat → Int32) (t : Int32) : Prop := qT M t 0 / 10 ≤ 9 ∧ qT M t 1 / 10 ≤ 9 ∧ qT M t 2 / 10 ≤ 9 ∧ qOu M t / 10 ≤ 9 ∧ (qT M t 5 - 1) / 10 ≤ 9 ∧ qT M t 4 / 10 ≤ 9
def qOA (Q : MM) (x : Int32) : MM × Int32 := if wIn x 0 (mI Q 9 - 1) then qR Q 0 (mL Q x.toNatClampNeg) else qR Q 1 0
def qAI (Q : MM) (c : Int32) : MM × Int32 := if wIn c 32 126 then (if mI Q 11 = 60 then qR Q 2 0 else (sMI (sMN (sMI Q 0 0) (upd (mN Q) (mI Q 11).toNatClampNeg (vp_nar .char c))) 11 (mI Q 11 + 1), mI Q 11 + 1)) else qR Q 1 0
/-! its parser -/
def qSg (Q : MM) : Int32 := if mI Q 11 ≤ mI Q 12 then -1 else mN Q (mI Q 12).toNatClampNeg
def qAd1 (Q : MM) : MM := sMI Q 12 (mI Q 12 + 1)
def qEr (Q : MM) : MM := sMI Q 13 (mI Q 12)
def qNe (Q : MM) (c : Int32) : MM := if 0 ≤ mI Q 13 then Q else if qSg Q = c then qAd1 Q else qEr Q
def qNl : Nat → MM → Int32 → MM × Int32
  | 0, Q, v => (Q, v)
  | n + 1, Q, v => if wIn (qSg Q) 48 57 then qNl n (qAd1 Q) (10 * v + qSg Q - 48) else (Q, v)
def qNu (d : Nat) (Q : MM) : MM × Int32 := if 0 ≤ mI Q 13 then (Q, 0) else if wIn (qSg Q) 48 57 then qNl d Q 0 else (qEr Q, 0)
def qBe (c : Int32) (Q : MM) : MM × Int32 := qNu 3 (qNe Q c)
def qWa (Q : MM) : MM × Int32 := if qWay (qSg Q) < 0 then (qEr Q, 0) else (qAd1 Q, qWay (qSg Q))
def isLet (c : Int32) : Bool := if c = 97 then true else if c = 102 then true else if c = 115 then true else if c = 114 then true else if c = 99 then true else if c = 117 then true else if c = 119 then true else if c = 103 then true else if c = 100 then true else if c = 118 then true else if c = 98 then true else if c = 113 then true else if c = 116 then true else false
def qPut (r : MM × Int32) (i : Int32) : MM := sMC r.1 (upd (mC r.1) i.toNatClampNeg r.2)
def zc (f : Nat → Int32) (i : Int32) : Nat → Nat → Int32
  | 0 => f
  | n + 1 => upd (zc f i n) (i + nI n).toNatClampNeg 0
def qA3 (Q : MM) (i : Int32) : Nat → MM
  | 0 => Q
  | n + 1 => qPut (qNu 1 (qA3 Q i n)) (i + nI (n + 1))
/-- behind the letter -/
def qC4 (Q : MM) : MM := sMC (qAd1 (sMC (sMI Q 16 (mI Q 16 + 1)) (zc (mC Q) (4 * mI Q 16) 4))) (upd (zc (mC Q) (4 * mI Q 16) 4) (4 * mI Q 16).toNatClampNeg (qSg Q))
def qKi (k i : Int32) (Q : MM) : MM :=
  if k = 97 then qA3 Q i 3
  else if k = 98 then qPut (qBe 42 (qPut (qBe 58 (qPut (qNu 3 Q) (i + 1))) (i + 2))) (i + 3)
  else if k = 99 then qPut (qBe 58 (qPut (qNu 3 Q) (i + 1))) (i + 2)
  else if k = 100 then Q
  else if k = 115 then qPut (qBe 58 (qPut (qNu 3 Q) (i + 1))) (i + 2)
  else if k = 118 then Q
  else if k = 119 then qPut (qNu 3 (qPut (qWa Q) (i + 1))) (i + 2)
  else qPut (qNu 3 Q) (i + 1)
def qCo (Q : MM) : MM := if isLet (qSg Q) then qKi (qSg Q) (4 * mI Q 16) (qC4 Q) else qEr (sMC (sMI Q 16 (mI Q 16 + 1)) (zc (mC Q) (4 * mI Q 16) 4))
def qPl : Nat → MM → MM
  | 0, Q => Q
  | n + 1, Q => if 0 ≤ mI Q 13 then Q else if qSg Q = 59 then qPl n (qCo (qAd1 Q)) else Q
def qPa (Q : MM) : MM :=
  if 0 ≤ mI (qPl 61 (qCo (sMI (sMI (sMI Q 12 0) 13 (-1)) 16 0))) 13 then qPl 61 (qCo (sMI (sMI (sMI Q 12 0) 13 (-1)) 16 0))
  else if mI (qPl 61 (qCo (sMI (sMI (sMI Q 12 0) 13 (-1)) 16 0))) 11 ≤ mI (qPl 61 (qCo (sMI (sMI (sMI Q 12 0) 13 (-1)) 16 0))) 12 then qPl 61 (qCo (sMI (sMI (sMI Q 12 0) 13 (-1)) 16 0))
  else qEr (qPl 61 (qCo (sMI (sMI (sMI Q 12 0) 13 (-1)) 16 0)))
/-- how the reader of the input stands -/
def hP (Q : MM) (p q : Nat) : Prop := mI Q 12 = nI p ∧ mI Q 11 = nI q ∧ p ≤ q ∧ q ≤ 60
/-! its commands -/
def cA (Q : MM) (i : Int32) : Int32 := mC Q i.toNatClampNeg
def qDo (Q : MM) (i : Int32) : MM × Int32 :=
  if cA Q i = 97 then qAdd Q (cA Q (i + 1)) (cA Q (i + 2)) (cA Q (i + 3))
  else if cA Q i = 98 then qPla Q (cA Q (i + 1)) (cA Q (i + 2)) (cA Q (i + 3))
  else if cA Q i = 99 then qCur Q (cA Q (i + 1)) (cA Q (i + 2))
  else if cA Q i = 100 then (qDr 12 (sMI Q 4 0), 0)
  else if cA Q i = 102 then qFai Q (cA Q (i + 1))
  else if cA Q i = 103 then qLim Q (cA Q (i + 1))
  else if cA Q i = 113 then qWdr Q (cA Q (i + 1))
  else if cA Q i = 114 then qRcl Q (cA Q (i + 1))
  else if cA Q i = 115 then qSnd Q (cA Q (i + 1)) (cA Q (i + 2))
  else if cA Q i = 117 then qRel Q (cA Q (i + 1))
  else if cA Q i = 118 then (qRa Q (qN (mM Q)), 0)
  else if cA Q i = 119 then qBlo Q (cA Q (i + 1)) (cA Q (i + 2))
  else qPh Q (cA Q (i + 1))
/-- the state before the next command, the code of the one before -/
def qEl : Nat → MM × Int32 → MM × Int32
  | 0, r => r
  | n + 1, r => if (qEl n r).2 = 0 then qDo (qEl n r).1 (4 * nI n) else qEl n r
