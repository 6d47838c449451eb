/-! the orders, one by one -/
theorem jud_97 (F : FM) (a b c : Int32) : jud F 97 a b c = (jAdd F a b c) := if_pos rfl
theorem jud_98 (F : FM) (a b c : Int32) : jud F 98 a b c = (if isHour' a then jBid F 98 a b c else -1) := (if_neg (by decide)).trans (if_pos rfl)
theorem jud_99 (F : FM) (a b c : Int32) : jud F 99 a b c = (if hasT F a then jTur F 99 a b else -1) := (if_neg (by decide)).trans ((if_neg (by decide)).trans (if_pos rfl))
theorem jud_102 (F : FM) (a b c : Int32) : jud F 102 a b c = (if hasT F a then jTur F 102 a b else -1) := (if_neg (by decide)).trans ((if_neg (by decide)).trans ((if_neg (by decide)).trans (if_pos rfl)))
theorem jud_103 (F : FM) (a b c : Int32) : jud F 103 a b c = (if wIn a 0 999 then 0 else -2) := (if_neg (by decide)).trans ((if_neg (by decide)).trans ((if_neg (by decide)).trans ((if_neg (by decide)).trans (if_pos rfl))))
theorem jud_113 (F : FM) (a b c : Int32) : jud F 113 a b c = (if isHour' a then jBid F 113 a b c else -1) := (if_neg (by decide)).trans ((if_neg (by decide)).trans ((if_neg (by decide)).trans ((if_neg (by decide)).trans ((if_neg (by decide)).trans (if_pos rfl)))))
theorem jud_114 (F : FM) (a b c : Int32) : jud F 114 a b c = (if hasT F a then jTur F 114 a b else -1) := (if_neg (by decide)).trans ((if_neg (by decide)).trans ((if_neg (by decide)).trans ((if_neg (by decide)).trans ((if_neg (by decide)).trans ((if_neg (by decide)).trans (if_pos rfl))))))
theorem jud_115 (F : FM) (a b c : Int32) : jud F 115 a b c = (if hasT F a then jTur F 115 a b else -1) := (if_neg (by decide)).trans ((if_neg (by decide)).trans ((if_neg (by decide)).trans ((if_neg (by decide)).trans ((if_neg (by decide)).trans ((if_neg (by decide)).trans ((if_neg (by decide)).trans (if_pos rfl)))))))
theorem jud_116 (F : FM) (a b c : Int32) : jud F 116 a b c = (if wIn a 1 48 then 0 else -2) := (if_neg (by decide)).trans ((if_neg (by decide)).trans ((if_neg (by decide)).trans ((if_neg (by decide)).trans ((if_neg (by decide)).trans ((if_neg (by decide)).trans ((if_neg (by decide)).trans ((if_neg (by decide)).trans (if_pos rfl))))))))
theorem jud_117 (F : FM) (a b c : Int32) : jud F 117 a b c = (if hasT F a then jTur F 117 a b else -1) := (if_neg (by decide)).trans ((if_neg (by decide)).trans ((if_neg (by decide)).trans ((if_neg (by decide)).trans ((if_neg (by decide)).trans ((if_neg (by decide)).trans ((if_neg (by decide)).trans ((if_neg (by decide)).trans ((if_neg (by decide)).trans (if_pos rfl)))))))))
theorem jud_119 (F : FM) (a b c : Int32) : jud F 119 a b c = (if isWind' a b then 0 else -2) := (if_neg (by decide)).trans ((if_neg (by decide)).trans ((if_neg (by decide)).trans ((if_neg (by decide)).trans ((if_neg (by decide)).trans ((if_neg (by decide)).trans ((if_neg (by decide)).trans ((if_neg (by decide)).trans ((if_neg (by decide)).trans ((if_neg (by decide)).trans (if_pos rfl))))))))))
theorem jud_100 (F : FM) (a b c : Int32) : jud F 100 a b c = 0 := (if_neg (by decide)).trans ((if_neg (by decide)).trans ((if_neg (by decide)).trans ((if_neg (by decide)).trans ((if_neg (by decide)).trans ((if_neg (by decide)).trans ((if_neg (by decide)).trans ((if_neg (by decide)).trans ((if_neg (by decide)).trans ((if_neg (by decide)).trans (if_neg (by decide)))))))))))
theorem jud_118 (F : FM) (a b c : Int32) : jud F 118 a b c = 0 := (if_neg (by decide)).trans ((if_neg (by decide)).trans ((if_neg (by decide)).trans ((if_neg (by decide)).trans ((if_neg (by decide)).trans ((if_neg (by decide)).trans ((if_neg (by decide)).trans ((if_neg (by decide)).trans ((if_neg (by decide)).trans ((if_neg (by decide)).trans (if_neg (by decide)))))))))))
theorem car_97 (F : FM) (a b c : Int32) : fCar F 97 a b c = (fAdd F a b c, fI F 0) := if_pos rfl
theorem car_98 (F : FM) (a b c : Int32) : fCar F 98 a b c = (fBid F a b c, cBd (fBid F a b c) 24) := (if_neg (by decide)).trans (if_pos rfl)
theorem car_99 (F : FM) (a b c : Int32) : fCar F 99 a b c = (fChg F a b, outp (fChg F a b) a (fI F 1) (fI F 2)) := (if_neg (by decide)).trans ((if_neg (by decide)).trans (if_pos rfl))
theorem car_100 (F : FM) (a b c : Int32) : fCar F 100 a b c = dRun (fN F) F 0 := (if_neg (by decide)).trans ((if_neg (by decide)).trans ((if_neg (by decide)).trans (if_pos rfl)))
theorem car_102 (F : FM) (a b c : Int32) : fCar F 102 a b c = (fBrk F a, fI F 0 - cSt (fBrk F a) 1 (fN F)) := (if_neg (by decide)).trans ((if_neg (by decide)).trans ((if_neg (by decide)).trans ((if_neg (by decide)).trans (if_pos rfl))))
theorem car_103 (F : FM) (a b c : Int32) : fCar F 103 a b c = (sI F 3 a, fI F 3) := (if_neg (by decide)).trans ((if_neg (by decide)).trans ((if_neg (by decide)).trans ((if_neg (by decide)).trans ((if_neg (by decide)).trans (if_pos rfl)))))
theorem car_113 (F : FM) (a b c : Int32) : fCar F 113 a b c = (fUnb F a, vAt 24 (fA F 8) a) := (if_neg (by decide)).trans ((if_neg (by decide)).trans ((if_neg (by decide)).trans ((if_neg (by decide)).trans ((if_neg (by decide)).trans ((if_neg (by decide)).trans (if_pos rfl))))))
theorem car_114 (F : FM) (a b c : Int32) : fCar F 114 a b c = (fSto F a, vAt 12 (fA F 5) a) := (if_neg (by decide)).trans ((if_neg (by decide)).trans ((if_neg (by decide)).trans ((if_neg (by decide)).trans ((if_neg (by decide)).trans ((if_neg (by decide)).trans ((if_neg (by decide)).trans (if_pos rfl)))))))
theorem car_115 (F : FM) (a b c : Int32) : fCar F 115 a b c = (fSta F a b, crews (fSta F a b)) := (if_neg (by decide)).trans ((if_neg (by decide)).trans ((if_neg (by decide)).trans ((if_neg (by decide)).trans ((if_neg (by decide)).trans ((if_neg (by decide)).trans ((if_neg (by decide)).trans ((if_neg (by decide)).trans (if_pos rfl))))))))
theorem car_117 (F : FM) (a b c : Int32) : fCar F 117 a b c = (fChg F a (-1), outp (fChg F a (-1)) a (fI F 1) (fI F 2)) := (if_neg (by decide)).trans ((if_neg (by decide)).trans ((if_neg (by decide)).trans ((if_neg (by decide)).trans ((if_neg (by decide)).trans ((if_neg (by decide)).trans ((if_neg (by decide)).trans ((if_neg (by decide)).trans ((if_neg (by decide)).trans (if_pos rfl)))))))))
theorem car_118 (F : FM) (a b c : Int32) : fCar F 118 a b c = fEal F (fN F) := (if_neg (by decide)).trans ((if_neg (by decide)).trans ((if_neg (by decide)).trans ((if_neg (by decide)).trans ((if_neg (by decide)).trans ((if_neg (by decide)).trans ((if_neg (by decide)).trans ((if_neg (by decide)).trans ((if_neg (by decide)).trans ((if_neg (by decide)).trans (if_pos rfl))))))))))
theorem car_119 (F : FM) (a b c : Int32) : fCar F 119 a b c = (fWnd F (chr' a) b, sumI (fWnd F (chr' a) b) (chr' a) b (fN F)) := (if_neg (by decide)).trans ((if_neg (by decide)).trans ((if_neg (by decide)).trans ((if_neg (by decide)).trans ((if_neg (by decide)).trans ((if_neg (by decide)).trans ((if_neg (by decide)).trans ((if_neg (by decide)).trans ((if_neg (by decide)).trans ((if_neg (by decide)).trans ((if_neg (by decide)).trans (if_pos rfl)))))))))))
theorem car_116 (F : FM) (a b c : Int32) : fCar F 116 a b c = (fPas F a.toNatClampNeg, (fL (fPas F a.toNatClampNeg) 2 - fL F 2).toInt32) := (if_neg (by decide)).trans ((if_neg (by decide)).trans ((if_neg (by decide)).trans ((if_neg (by decide)).trans ((if_neg (by decide)).trans ((if_neg (by decide)).trans ((if_neg (by decide)).trans ((if_neg (by decide)).trans ((if_neg (by decide)).trans ((if_neg (by decide)).trans ((if_neg (by decide)).trans (if_neg (by decide))))))))))))
def mOp (Q : MM) (o a b c : Int32) : MM × Int32 :=
  if o = 97 then qAdd Q a b c
  else if o = 98 then qPla Q a b c
  else if o = 99 then qCur Q a b
  else if o = 100 then (qDr 12 (sMI Q 4 0), 0)
  else if o = 102 then qFai Q a
  else if o = 103 then qLim Q a
  else if o = 113 then qWdr Q a
  else if o = 114 then qRcl Q a
  else if o = 115 then qSnd Q a b
  else if o = 117 then qRel Q a
  else if o = 118 then (qRa Q (qN (mM Q)), 0)
  else if o = 119 then qBlo Q (qWay a) b
  else qPh Q a
theorem mOp_97 (Q : MM) (a b c : Int32) : mOp Q 97 a b c = qAdd Q a b c := if_pos rfl
theorem mOp_98 (Q : MM) (a b c : Int32) : mOp Q 98 a b c = qPla Q a b c := (if_neg (by decide)).trans (if_pos rfl)
theorem mOp_99 (Q : MM) (a b c : Int32) : mOp Q 99 a b c = qCur Q a b := (if_neg (by decide)).trans ((if_neg (by decide)).trans (if_pos rfl))
theorem mOp_100 (Q : MM) (a b c : Int32) : mOp Q 100 a b c = (qDr 12 (sMI Q 4 0), 0) := (if_neg (by decide)).trans ((if_neg (by decide)).trans ((if_neg (by decide)).trans (if_pos rfl)))
theorem mOp_102 (Q : MM) (a b c : Int32) : mOp Q 102 a b c = qFai Q a := (if_neg (by decide)).trans ((if_neg (by decide)).trans ((if_neg (by decide)).trans ((if_neg (by decide)).trans (if_pos rfl))))
theorem mOp_103 (Q : MM) (a b c : Int32) : mOp Q 103 a b c = qLim Q a := (if_neg (by decide)).trans ((if_neg (by decide)).trans ((if_neg (by decide)).trans ((if_neg (by decide)).trans ((if_neg (by decide)).trans (if_pos rfl)))))
theorem mOp_113 (Q : MM) (a b c : Int32) : mOp Q 113 a b c = qWdr Q a := (if_neg (by decide)).trans ((if_neg (by decide)).trans ((if_neg (by decide)).trans ((if_neg (by decide)).trans ((if_neg (by decide)).trans ((if_neg (by decide)).trans (if_pos rfl))))))
theorem mOp_114 (Q : MM) (a b c : Int32) : mOp Q 114 a b c = qRcl Q a := (if_neg (by decide)).trans ((if_neg (by decide)).trans ((if_neg (by decide)).trans ((if_neg (by decide)).trans ((if_neg (by decide)).trans ((if_neg (by decide)).trans ((if_neg (by decide)).trans (if_pos rfl)))))))
theorem mOp_115 (Q : MM) (a b c : Int32) : mOp Q 115 a b c = qSnd Q a b := (if_neg (by decide)).trans ((if_neg (by decide)).trans ((if_neg (by decide)).trans ((if_neg (by decide)).trans ((if_neg (by decide)).trans ((if_neg (by decide)).trans ((if_neg (by decide)).trans ((if_neg (by decide)).trans (if_pos rfl))))))))
theorem mOp_117 (Q : MM) (a b c : Int32) : mOp Q 117 a b c = qRel Q a := (if_neg (by decide)).trans ((if_neg (by decide)).trans ((if_neg (by decide)).trans ((if_neg (by decide)).trans ((if_neg (by decide)).trans ((if_neg (by decide)).trans ((if_neg (by decide)).trans ((if_neg (by decide)).trans ((if_neg (by decide)).trans (if_pos rfl)))))))))
theorem mOp_118 (Q : MM) (a b c : Int32) : mOp Q 118 a b c = (qRa Q (qN (mM Q)), 0) := (if_neg (by decide)).trans ((if_neg (by decide)).trans ((if_neg (by decide)).trans ((if_neg (by decide)).trans ((if_neg (by decide)).trans ((if_neg (by decide)).trans ((if_neg (by decide)).trans ((if_neg (by decide)).trans ((if_neg (by decide)).trans ((if_neg (by decide)).trans (if_pos rfl))))))))))
theorem mOp_119 (Q : MM) (a b c : Int32) : mOp Q 119 a b c = qBlo Q (qWay a) b := (if_neg (by decide)).trans ((if_neg (by decide)).trans ((if_neg (by decide)).trans ((if_neg (by decide)).trans ((if_neg (by decide)).trans ((if_neg (by decide)).trans ((if_neg (by decide)).trans ((if_neg (by decide)).trans ((if_neg (by decide)).trans ((if_neg (by decide)).trans ((if_neg (by decide)).trans (if_pos rfl)))))))))))
theorem mOp_116 (Q : MM) (a b c : Int32) : mOp Q 116 a b c = qPh Q a := (if_neg (by decide)).trans ((if_neg (by decide)).trans ((if_neg (by decide)).trans ((if_neg (by decide)).trans ((if_neg (by decide)).trans ((if_neg (by decide)).trans ((if_neg (by decide)).trans ((if_neg (by decide)).trans ((if_neg (by decide)).trans ((if_neg (by decide)).trans ((if_neg (by decide)).trans (if_neg (by decide))))))))))))
theorem jTur_99 (F : FM) (t x : Int32) : jTur F 99 t x = (if wIn x 0 90 then (if inSt F t 1 then 0 else 3) else -2) := if_pos rfl
theorem jTur_114 (F : FM) (t x : Int32) : jTur F 114 t x = (if inSt F t 3 then 0 else 6) := (if_neg (by decide)).trans (if_pos rfl)
theorem jTur_115 (F : FM) (t x : Int32) : jTur F 115 t x = (jSnd F t x) := (if_neg (by decide)).trans ((if_neg (by decide)).trans (if_pos rfl))
theorem jTur_117 (F : FM) (t x : Int32) : jTur F 117 t x = (if inSt F t 1 then (if curt F t then 0 else 7) else 3) := (if_neg (by decide)).trans ((if_neg (by decide)).trans ((if_neg (by decide)).trans (if_pos rfl)))
theorem jTur_102 (F : FM) (t x : Int32) : jTur F 102 t x = (if inSt F t 1 then 0 else 3) := (if_neg (by decide)).trans ((if_neg (by decide)).trans ((if_neg (by decide)).trans (if_neg (by decide))))
theorem jBid_113 (F : FM) (x p q : Int32) : jBid F 113 x p q = (if bidF F x then 0 else 9) := if_pos rfl
theorem jBid_98 (F : FM) (x p q : Int32) : jBid F 98 x p q = (if wIn p 1 50 then (if wIn q 1 500 then (if bidF F x then 8 else 0) else -2) else -2) := if_neg (by decide)
theorem det_1 (F : FM) (a b : Int32) : det F 1 a b = 12 := if_pos rfl
theorem det_2 (F : FM) (a b : Int32) : det F 2 a b = tIn F a b := (if_neg (by decide)).trans (if_pos rfl)
theorem det_3 (F : FM) (a b : Int32) : det F 3 a b = vAt 12 (fA F 5) a := (if_neg (by decide)).trans ((if_neg (by decide)).trans (if_pos rfl))
theorem det_5 (F : FM) (a b : Int32) : det F 5 a b = fSv F 0 (fN F) := (if_neg (by decide)).trans ((if_neg (by decide)).trans ((if_neg (by decide)).trans (if_pos rfl)))
theorem det_8 (F : FM) (a b : Int32) : det F 8 a b = vAt 24 (fA F 7) a := (if_neg (by decide)).trans ((if_neg (by decide)).trans ((if_neg (by decide)).trans ((if_neg (by decide)).trans (if_pos rfl))))
theorem det_9 (F : FM) (a b : Int32) : det F 9 a b = cBd F 24 := (if_neg (by decide)).trans ((if_neg (by decide)).trans ((if_neg (by decide)).trans ((if_neg (by decide)).trans ((if_neg (by decide)).trans (if_pos rfl)))))
theorem det_4 (F : FM) (a b : Int32) : det F 4 a b = outp F a (fI F 1) (fI F 2) := (if_neg (by decide)).trans ((if_neg (by decide)).trans ((if_neg (by decide)).trans ((if_neg (by decide)).trans ((if_neg (by decide)).trans (if_neg (by decide))))))
theorem det_6 (F : FM) (a b : Int32) : det F 6 a b = outp F a (fI F 1) (fI F 2) := (if_neg (by decide)).trans ((if_neg (by decide)).trans ((if_neg (by decide)).trans ((if_neg (by decide)).trans ((if_neg (by decide)).trans (if_neg (by decide))))))
theorem det_7 (F : FM) (a b : Int32) : det F 7 a b = outp F a (fI F 1) (fI F 2) := (if_neg (by decide)).trans ((if_neg (by decide)).trans ((if_neg (by decide)).trans ((if_neg (by decide)).trans ((if_neg (by decide)).trans (if_neg (by decide))))))
section STEPS
variable {B : Nat} {F : FM} {Q : MM}
theorem b_tf {b : Bool} : b = true ∨ b = false := by cases b <;> simp
theorem ntrue {b : Bool} (h : b = false) : ¬ b = true := by rw [h]; decide
/-- out of range -/
theorem st_fail (hM : okM B (mM Q)) (hF : eqF F (mM Q)) (a y z : Int32) : step B Q (qFai Q a) (jud F 102 a y z) (det F (jud F 102 a y z) a y) (fCar F 102 a y z).1 (fCar F 102 a y z).2 := by
  have h12 := hM.1.2
  rw [jud_102, jTur_102, car_102, hasT_eq hM.1 hF.1]
  unfold qFai
  rcases b_tf (b := qIT (mM Q) a) with h | h
  · obtain ⟨j, hj, rfl⟩ := qIT_nat hM.1 h
    have hs : inSt F (nI j) 1 = if tv (mM Q) j 3 = nI 0 then true else false := inSt_eq hM hF.1 hj (k := 0) (by decide)
    have hT := hF.1.2.1 j hj
    rw [if_pos h, if_pos h, hs, qT3 (by omega)]
    by_cases e : tv (mM Q) j 3 = nI 0
    · obtain ⟨u1, u2⟩ := brk_upd hM hF hj e
      have hn : qN (qSet (qSet (mM Q) (nI j) 3 1) (nI j) 5 0) = qN (mM Q) := qN_of (by rw [lo_s5 _ (by omega) (by decide), lo_s3 _ (by omega) (by decide)])
      rw [if_pos e, if_pos rfl]
      refine step.ok rfl (if_pos e) u1 u2 ?_ (kq_M Q ((hi_s3 _ (by omega)).tr (hi_s5 _ (by omega))))
      show _ + _ = fI F 0 - cSt (fBrk F (nI j)) 1 (fN F)
      have c0 := cSt_eq u1 u2.1 (s := 0) (by decide) _ (Nat.le_refl _)
      have cs := cnt_sum u1 _ (Nat.le_refl _)
      rw [hn] at c0 cs
      have c1 : cSt (fBrk F (nI j)) 1 (qN (mM Q)) = nI (cnt (qSet (qSet (mM Q) (nI j) 3 1) (nI j) 5 0) 0 (qN (mM Q))) := c0
      have q1 : qIS (qSet (qSet (mM Q) (nI j) 3 1) (nI j) 5 0) 1 (qN (mM Q)) = nI (cnt (qSet (qSet (mM Q) (nI j) 3 1) (nI j) 5 0) 1 (qN (mM Q))) := qIS_cnt _ 1 _ h12
      have q2 : qIS (qSet (qSet (mM Q) (nI j) 3 1) (nI j) 5 0) 2 (qN (mM Q)) = nI (cnt (qSet (qSet (mM Q) (nI j) 3 1) (nI j) 5 0) 2 (qN (mM Q))) := qIS_cnt _ 2 _ h12
      rw [fN_eq hF.1, hF.1.1, hM.1.1, hn, c1, q1, q2, nI_add, pk_sub (by omega)]
      congr 1
      omega
    · rw [if_neg e, if_neg Bool.false_ne_true]
      refine step.rej 3 (by decide) rfl ?_
      rw [show det F 3 (nI j) y = tv (mM Q) j 4 by rw [det_3, vAt_nI (by omega) (by decide), hT.2.2.2.2.1], qT4 (by omega)]
      exact if_neg e
  · rw [if_neg (ntrue h), if_neg (ntrue h)]
    exact step.no rfl rfl
theorem st_send (hM : okM B (mM Q)) (hF : eqF F (mM Q)) (a y z : Int32) : step B Q (qSnd Q a y) (jud F 115 a y z) (det F (jud F 115 a y z) a y) (fCar F 115 a y z).1 (fCar F 115 a y z).2 := by
  have h12 := hM.1.2
  rw [jud_115, jTur_115, car_115, hasT_eq hM.1 hF.1]
  unfold qSnd jSnd
  rcases b_tf (b := qIT (mM Q) a) with h | h
  · obtain ⟨j, hj, rfl⟩ := qIT_nat hM.1 h
    have hs : inSt F (nI j) 2 = if tv (mM Q) j 3 = nI 1 then true else false := inSt_eq hM hF.1 hj (k := 1) (by decide)
    obtain ⟨o1, o2, o3, -⟩ := out_oN hM hF hj
    rw [if_pos h, if_pos h]
    rcases b_tf (b := wIn y 1 12) with hw | hw
    · obtain ⟨x, x1, x2, x3, rfl⟩ := wIn_nat (a := 1) (b := 12) hw (by decide)
      rw [if_pos hw, if_pos hw, hs, qT3 (by omega)]
      by_cases e : tv (mM Q) j 3 = nI 1
      · have hc : cSt F 3 (fN F) = nI (cnt (mM Q) 2 (qN (mM Q))) := by rw [fN_eq hF.1]; exact cSt_eq hM hF.1 (s := 2) (by decide) _ (Nat.le_refl _)
        have hq : qIS (mM Q) 2 (qN (mM Q)) = nI (cnt (mM Q) 2 (qN (mM Q))) := qIS_cnt _ 2 _ h12
        have h2 := hM.2.2.2.1
        rw [if_pos e, if_pos rfl, hc, hq]
        by_cases e2 : cnt (mM Q) 2 (qN (mM Q)) = 2
        · rw [e2, if_pos (show (2 : Int32) ≤ nI 2 by decide)]
          refine step.rej 5 (by decide) rfl ?_
          rw [if_pos (show tv (mM Q) j 3 = 1 from e), if_pos (show nI 2 = 2 from rfl)]
          rw [show det F 5 (nI j) (nI x) = qFS (mM Q) 0 (qN (mM Q)) by
            rw [det_5, fN_eq hF.1]
            obtain ⟨i, i1, i2⟩ := cnt_ex (M := mM Q) (s := 2) (qN (mM Q)) (by omega)
            exact fSv_eq hM hF.1 _ 0 (by omega) ⟨i, by omega, by omega, i2⟩]
          rfl
        · obtain ⟨u1, u2⟩ := sta_upd hM hF hj e (by omega) ⟨x1, x2⟩
          have hn : qN (qSet (qSet (mM Q) (nI j) 3 2) (nI j) 4 (nI x)) = qN (mM Q) := qN_of (by rw [lo_s4 _ (by omega) (by decide), lo_s3 _ (by omega) (by decide)])
          rw [if_neg (show ¬ (2 : Int32) ≤ nI (cnt (mM Q) 2 (qN (mM Q))) from nI_ge (b := 2) (by omega) (by decide))]
          refine step.ok rfl ((if_pos (show tv (mM Q) j 3 = 1 from e)).trans (if_neg (fun q => e2 (nI_inj3 (by omega) (by decide) q)))) u1 u2 ?_ (kq_M Q ((hi_s3 _ (by omega)).tr (hi_s4 _ (by omega))))
          show _ = crews (fSta F (nI j) (nI x))
          rw [crews_eq u1 u2.1]
          rfl
      · rw [if_neg e, if_neg Bool.false_ne_true]
        refine step.rej 4 (by decide) rfl ?_
        rw [show det F 4 (nI j) (nI x) = qOu (mM Q) (nI j) by rw [det_4, o2, o3]]
        exact if_neg e
    · rw [if_neg (ntrue hw), if_neg (ntrue hw)]
      exact step.bad rfl rfl
  · rw [if_neg (ntrue h), if_neg (ntrue h)]
    exact step.no rfl rfl
theorem st_recall (hM : okM B (mM Q)) (hF : eqF F (mM Q)) (a y z : Int32) : step B Q (qRcl Q a) (jud F 114 a y z) (det F (jud F 114 a y z) a y) (fCar F 114 a y z).1 (fCar F 114 a y z).2 := by
  have h12 := hM.1.2
  rw [jud_114, jTur_114, car_114, hasT_eq hM.1 hF.1]
  unfold qRcl
  rcases b_tf (b := qIT (mM Q) a) with h | h
  · obtain ⟨j, hj, rfl⟩ := qIT_nat hM.1 h
    have hs : inSt F (nI j) 3 = if tv (mM Q) j 3 = nI 2 then true else false := inSt_eq hM hF.1 hj (k := 2) (by decide)
    have hT := hF.1.2.1 j hj
    obtain ⟨o1, o2, o3, -⟩ := out_oN hM hF hj
    rw [if_pos h, if_pos h, hs, qT3 (by omega)]
    by_cases e : tv (mM Q) j 3 = nI 2
    · obtain ⟨u1, u2⟩ := sto_upd hM hF hj e
      rw [if_pos e, if_pos rfl]
      refine step.ok rfl (if_pos e) u1 u2 ?_ (kq_M' Q ((hi_s3 _ (by omega)).tr (hi_s4 _ (by omega))))
      show qT (mM Q) (nI j) 4 = vAt 12 (fA F 5) (nI j)
      rw [qT4 (by omega), vAt_nI (by omega) (by decide), hT.2.2.2.2.1]
    · rw [if_neg e, if_neg Bool.false_ne_true]
      refine step.rej 6 (by decide) rfl ?_
      rw [show det F 6 (nI j) y = qOu (mM Q) (nI j) by rw [det_6, o2, o3]]
      exact if_neg e
  · rw [if_neg (ntrue h), if_neg (ntrue h)]
    exact step.no rfl rfl
theorem st_curtail (hM : okM B (mM Q)) (hF : eqF F (mM Q)) (a y z : Int32) : step B Q (qCur Q a y) (jud F 99 a y z) (det F (jud F 99 a y z) a y) (fCar F 99 a y z).1 (fCar F 99 a y z).2 := by
  have h12 := hM.1.2
  rw [jud_99, jTur_99, car_99, hasT_eq hM.1 hF.1]
  unfold qCur
  rcases b_tf (b := qIT (mM Q) a) with h | h
  · obtain ⟨j, hj, rfl⟩ := qIT_nat hM.1 h
    have hs : inSt F (nI j) 1 = if tv (mM Q) j 3 = nI 0 then true else false := inSt_eq hM hF.1 hj (k := 0) (by decide)
    have hT := hF.1.2.1 j hj
    rw [if_pos h, if_pos h]
    rcases b_tf (b := wIn y 0 90) with hw | hw
    · obtain ⟨x, x1, x2, x3, rfl⟩ := wIn_nat (a := 0) (b := 90) hw (by decide)
      rw [if_pos hw, if_pos hw, hs, qT3 (by omega)]
      by_cases e : tv (mM Q) j 3 = nI 0
      · obtain ⟨u1, u2⟩ := lim_upd (l := x + 1) (x := nI x) hM hF hj (fun _ => e) (by omega) (nI_pred x).symm
        rw [← nI_1] at u1 u2
        have hn : qN (qSet (mM Q) (nI j) 5 (nI x + 1)) = qN (mM Q) := qN_of (lo_s5 _ (by omega) (by decide))
        rw [if_pos e, if_pos rfl]
        refine step.ok rfl (if_pos e) u1 u2 ?_ (kq_M Q (hi_s5 _ (by omega)))
        obtain ⟨v1, v2, v3, -⟩ := out_oN u1 u2 (j := j) (by rw [hn]; exact hj)
        exact v3.trans v2.symm
      · rw [if_neg e, if_neg Bool.false_ne_true]
        refine step.rej 3 (by decide) rfl ?_
        rw [show det F 3 (nI j) (nI x) = tv (mM Q) j 4 by rw [det_3, vAt_nI (by omega) (by decide), hT.2.2.2.2.1], qT4 (by omega)]
        exact if_neg e
    · rw [if_neg (ntrue hw), if_neg (ntrue hw)]
      exact step.bad rfl rfl
  · rw [if_neg (ntrue h), if_neg (ntrue h)]
    exact step.no rfl rfl
theorem st_release (hM : okM B (mM Q)) (hF : eqF F (mM Q)) (a y z : Int32) : step B Q (qRel Q a) (jud F 117 a y z) (det F (jud F 117 a y z) a y) (fCar F 117 a y z).1 (fCar F 117 a y z).2 := by
  have h12 := hM.1.2
  rw [jud_117, jTur_117, car_117, hasT_eq hM.1 hF.1]
  unfold qRel
  rcases b_tf (b := qIT (mM Q) a) with h | h
  · obtain ⟨j, hj, rfl⟩ := qIT_nat hM.1 h
    have hs : inSt F (nI j) 1 = if tv (mM Q) j 3 = nI 0 then true else false := inSt_eq hM hF.1 hj (k := 0) (by decide)
    have hT := hF.1.2.1 j hj
    obtain ⟨o1, o2, o3, -⟩ := out_oN hM hF hj
    rw [if_pos h, if_pos h, hs, qT3 (by omega), curt_eq hM hF.1 hj, qT5 (by omega)]
    by_cases e : tv (mM Q) j 3 = nI 0
    · rw [if_pos e, if_pos rfl]
      by_cases e5 : tv (mM Q) j 5 = 0
      · rw [if_pos e5, if_pos e5, if_neg Bool.false_ne_true]
        refine step.rej 7 (by decide) rfl ?_
        rw [show det F 7 (nI j) y = qOu (mM Q) (nI j) by rw [det_7, o2, o3]]
        exact if_pos e
      · obtain ⟨u1, u2⟩ := lim_upd (l := 0) (x := -1) hM hF hj (fun q => absurd q (by omega)) (by omega) (by decide)
        have hn : qN (qSet (mM Q) (nI j) 5 0) = qN (mM Q) := qN_of (lo_s5 _ (by omega) (by decide))
        rw [if_neg e5, if_neg e5, if_pos rfl]
        refine step.ok rfl (if_pos e) u1 u2 ?_ (kq_M Q (hi_s5 _ (by omega)))
        obtain ⟨v1, v2, v3, -⟩ := out_oN u1 u2 (j := j) (by rw [show nI 0 = 0 from rfl, hn]; exact hj)
        exact v3.trans v2.symm
    · rw [if_neg e, if_neg Bool.false_ne_true]
      refine step.rej 3 (by decide) rfl ?_
      rw [show det F 3 (nI j) y = tv (mM Q) j 4 by rw [det_3, vAt_nI (by omega) (by decide), hT.2.2.2.2.1], qT4 (by omega)]
      exact if_neg e
  · rw [if_neg (ntrue h), if_neg (ntrue h)]
    exact step.no rfl rfl
/-! a number of the row changes -/
theorem tv_lo {M : Nat → Int32} {k j w : Nat} {v : Int32} (hk : k < 57) : tv (upd M k v) j w = tv M j w := by
  unfold tv upd
  rw [if_neg (by omega)]
theorem qIn_lo {M : Nat → Int32} {k : Nat} {v : Int32} (hw : wM M) (hk : k < 57) (h0 : k ≠ 0) (r c : Int32) : qIn (upd M k v) r c = qIn M r c :=
  qIn_congr hw (by unfold upd; rw [if_neg (fun z => h0 z.symm)]) (fun _ _ => ⟨tv_lo hk, tv_lo hk⟩) r c
theorem eqP_lo {M : Nat → Int32} {F' : FM} {k : Nat} {v : Int32} (hw : wM M) (hk : k < 57) (h0 : k ≠ 0) (hI : fI F' 0 = fI F 0) (hA : ∀ i, i < 7 → fA F' i = fA F i) (hF : eqP F M) : eqP F' (upd M k v) := by
  have e0 : upd M k v 0 = M 0 := by unfold upd; rw [if_neg (fun z => h0 z.symm)]
  have hn : qN (upd M k v) = qN M := qN_of e0
  refine ⟨by rw [hI, e0]; exact hF.1, fun j hj => ?_, fun x y hx hy => by rw [hA 6 (by decide), qIn_lo hw hk h0]; exact hF.2.2 x y hx hy⟩
  have q := hF.2.1 j (by omega)
  unfold eqT
  rw [hA 0 (by decide), hA 1 (by decide), hA 2 (by decide), hA 3 (by decide), hA 4 (by decide), hA 5 (by decide), tv_lo hk, tv_lo hk, tv_lo hk, tv_lo hk, tv_lo hk, tv_lo hk]
  exact q
theorem u_ne {f : Nat → Int32} {k i : Nat} {v : Int32} (h : i ≠ k) : upd f k v i = f i := by unfold upd; rw [if_neg h]
theorem u_eq {f : Nat → Int32} {k : Nat} {v : Int32} : upd f k v k = v := by unfold upd; rw [if_pos rfl]
theorem wnd_upd {M : Nat → Int32} {w s : Nat} (hM : okM B M) (hF : eqF F M) (hw : w < 4) (hs : s < 31) : okM B (upd (upd M 1 (nI w)) 2 (nI s)) ∧ eqF (fWnd F (qSgn (nI w)) (nI s)) (upd (upd M 1 (nI w)) 2 (nI s)) := by
  have P1 := eqP_lo (F' := fWnd F (qSgn (nI w)) (nI s)) (k := 1) (v := nI w) hM.1 (by decide) (by decide) rfl (fun _ _ => rfl) hF.1
  have P2 := eqP_lo (F := fWnd F (qSgn (nI w)) (nI s)) (F' := fWnd F (qSgn (nI w)) (nI s)) (k := 2) (v := nI s) (wM_of hM.1 (u_ne (by decide))) (by decide) (by decide) rfl (fun _ _ => rfl) P1
  obtain ⟨h1, h2, h3, h4, h5, h6, h7, h8, h9⟩ := hM
  obtain ⟨f0, f1, f2, f3, f4, f5, f6, f7, f8⟩ := hF
  have hT : ∀ j k, tv (upd (upd M 1 (nI w)) 2 (nI s)) j k = tv M j k := fun j k => by rw [tv_lo (by decide), tv_lo (by decide)]
  have hy : wy (upd (upd M 1 (nI w)) 2 (nI s)) = w := by unfold wy; rw [u_ne (by decide), u_eq, nI_clamp (by omega)]
  have hg : ∀ i, i ≠ 1 → i ≠ 2 → upd (upd M 1 (nI w)) 2 (nI s) i = M i := fun i a b => by rw [u_ne b, u_ne a]
  have hn : qN (upd (upd M 1 (nI w)) 2 (nI s)) = qN M := qN_of (hg 0 (by decide) (by decide))
  refine ⟨⟨wM_of h1 (hg 0 (by decide) (by decide)), fun j hj => okT_congr (fun k _ => hT j k) (h2 j (by omega)), fun i j hi hj e1 e2 => ?_, ?_, ⟨by rw [hy, u_ne (by decide), u_eq], by rw [hy]; exact hw⟩, ⟨s, hs, u_eq⟩, by rw [hg 3 (by decide) (by decide)]; exact h7, ?_, fun x hx => ?_⟩, P2, ?_, ?_, by rw [hg 3 (by decide) (by decide)]; exact f3, by rw [hg 4 (by decide) (by decide)]; exact f4, fun j hj => f5 j (by omega), fun x hx => ?_, ?_, f8⟩
  · rw [hT, hT] at e1 e2
    exact h3 i j (by omega) (by omega) e1 e2
  · rw [hn, cnt_congr _ (fun j _ => hT j 3)]; exact h4
  · obtain ⟨t, t1, t2, m, l, s', c, a1, a2, a3, a4, a5⟩ := h8
    exact ⟨t, t1, by rw [hg 4 (by decide) (by decide)]; exact t2, m, l, s', c, by rw [hg 5 (by decide) (by decide)]; exact a1, by rw [hg 6 (by decide) (by decide)]; exact a2, by rw [hg 7 (by decide) (by decide)]; exact a3, by rw [hg 8 (by decide) (by decide)]; exact a4, a5⟩
  · obtain ⟨p, u, b1, b2, b3⟩ := h9 x hx
    exact ⟨p, u, (hg _ (by omega) (by omega)).trans b1, (hg _ (by omega) (by omega)).trans b2, b3⟩
  · rw [u_ne (by decide), u_eq]; rfl
  · rw [u_eq]; rfl
  · exact ⟨(f6 x hx).1.trans (hg _ (by omega) (by omega)).symm, (f6 x hx).2.trans (hg _ (by omega) (by omega)).symm⟩
  · obtain ⟨a0, a1, a2, a3, a4⟩ := f7
    refine ⟨?_, ?_, ?_, ?_, ?_⟩
    · rw [hg 5 (by decide) (by decide)]; exact a0
    · rw [hg 6 (by decide) (by decide)]; exact a1
    · rw [hg 7 (by decide) (by decide)]; exact a2
    · rw [hg 5 (by decide) (by decide), hg 6 (by decide) (by decide), hg 7 (by decide) (by decide)]; exact a3
    · rw [hg 8 (by decide) (by decide)]; exact a4
/-- a direction -/
theorem way_of (d : Int32) : (isDir' d = true ∧ ∃ w, w < 4 ∧ qWay d = nI w ∧ qSgn (nI w) = d ∧ chr' d = d) ∨ (isDir' d = false ∧ qWay d = -1) := by
  unfold isDir' qWay
  by_cases h1 : d = 78
  · subst h1; exact Or.inl ⟨rfl, 0, by decide, by decide, by decide, by decide⟩
  · by_cases h2 : d = 69
    · subst h2; exact Or.inl ⟨rfl, 1, by decide, by decide, by decide, by decide⟩
    · by_cases h3 : d = 83
      · subst h3; exact Or.inl ⟨rfl, 2, by decide, by decide, by decide, by decide⟩
      · by_cases h4 : d = 87
        · subst h4; exact Or.inl ⟨rfl, 3, by decide, by decide, by decide, by decide⟩
        · rw [if_neg h1, if_neg h2, if_neg h3, if_neg h4, if_neg h1, if_neg h2, if_neg h3, if_neg h4]
          exact Or.inr ⟨rfl, rfl⟩
theorem st_wind (hM : okM B (mM Q)) (hF : eqF F (mM Q)) (a y z : Int32) : step B Q (qBlo Q (qWay a) y) (jud F 119 a y z) (det F (jud F 119 a y z) a y) (fCar F 119 a y z).1 (fCar F 119 a y z).2 := by
  have h12 := hM.1.2
  rw [jud_119, car_119]
  unfold qBlo isWind'
  rcases way_of a with ⟨h, w, hw, e1, e2, e3⟩ | ⟨h, e1⟩
  · rw [h, e1, e3, ← e2, if_neg (nI_pos (by omega))]
    rcases b_tf (b := wIn y 0 30) with hy | hy
    · obtain ⟨x, -, x2, x3, rfl⟩ := wIn_nat (a := 0) (b := 30) hy (by decide)
      obtain ⟨u1, u2⟩ := wnd_upd hM hF hw (s := x) (by omega)
      have hn : qN (upd (upd (mM Q) 1 (nI w)) 2 (nI x)) = qN (mM Q) := qN_of (by rw [u_ne (by decide), u_ne (by decide)])
      rw [hy]
      refine step.ok rfl rfl u1 u2 ?_ (kq_M Q ((hiE_upd _ (by decide)).tr (hiE_upd _ (by decide))))
      obtain ⟨v1, v2⟩ := sum_cur u1 u2 _ (Nat.le_refl _)
      show qTo _ _ = sumI (fWnd F (qSgn (nI w)) (nI x)) (qSgn (nI w)) (nI x) (fN F)
      rw [fN_eq hF.1, ← hn]
      exact v2.trans v1.symm
    · rw [hy]
      exact step.bad rfl rfl
  · rw [h, e1]
    exact step.bad rfl rfl
theorem grd_upd {M : Nat → Int32} {x : Nat} (hM : okM B M) (hF : eqF F M) (x2 : x ≤ 999) : okM B (upd M 3 (nI x)) ∧ eqF (sI F 3 (nI x)) (upd M 3 (nI x)) := by
  have P1 := eqP_lo (F' := sI F 3 (nI x)) (k := 3) (v := nI x) hM.1 (by decide) (by decide) rfl (fun _ _ => rfl) hF.1
  obtain ⟨h1, h2, h3, h4, h5, h6, h7, h8, h9⟩ := hM
  obtain ⟨f0, f1, f2, f3, f4, f5, f6, f7, f8⟩ := hF
  have hT : ∀ j k, tv (upd M 3 (nI x)) j k = tv M j k := fun j k => tv_lo (by decide)
  have hg : ∀ i, i ≠ 3 → upd M 3 (nI x) i = M i := fun i a => u_ne a
  have hy : wy (upd M 3 (nI x)) = wy M := by unfold wy; rw [hg 1 (by decide)]
  have hn : qN (upd M 3 (nI x)) = qN M := qN_of (hg 0 (by decide))
  refine ⟨⟨wM_of h1 (hg 0 (by decide)), fun j hj => okT_congr (fun k _ => hT j k) (h2 j (by omega)), fun i j hi hj e1 e2 => ?_, ?_, by rw [hy, hg 1 (by decide)]; exact h5, by rw [hg 2 (by decide)]; exact h6, ⟨x, x2, u_eq⟩, ?_, fun x hx => ?_⟩, P1, ?_, ?_, ?_, ?_, fun j hj => f5 j (by omega), fun x hx => ?_, ?_, f8⟩
  · rw [hT, hT] at e1 e2
    exact h3 i j (by omega) (by omega) e1 e2
  · rw [hn, cnt_congr _ (fun j _ => hT j 3)]; exact h4
  · obtain ⟨t, t1, t2, m, l, s', c, a1, a2, a3, a4, a5⟩ := h8
    exact ⟨t, t1, t2, m, l, s', c, a1, a2, a3, a4, a5⟩
  · obtain ⟨p, u, b1, b2, b3⟩ := h9 x hx
    exact ⟨p, u, (hg _ (by omega)).trans b1, (hg _ (by omega)).trans b2, b3⟩
  · exact f1
  · exact f2
  · rw [u_eq]; rfl
  · exact f4
  · exact ⟨(f6 x hx).1.trans (hg _ (by omega)).symm, (f6 x hx).2.trans (hg _ (by omega)).symm⟩
  · exact f7
theorem st_grid (hM : okM B (mM Q)) (hF : eqF F (mM Q)) (a y z : Int32) : step B Q (qLim Q a) (jud F 103 a y z) (det F (jud F 103 a y z) a y) (fCar F 103 a y z).1 (fCar F 103 a y z).2 := by
  rw [jud_103, car_103]
  unfold qLim
  rcases b_tf (b := wIn a 0 999) with h | h
  · obtain ⟨x, -, x2, x3, rfl⟩ := wIn_nat (a := 0) (b := 999) h (by decide)
    obtain ⟨u1, u2⟩ := grd_upd hM hF x2
    rw [if_pos h, if_pos h]
    exact step.ok rfl rfl u1 u2 hF.2.2.2.1.symm (kq_M' Q (hiE_upd _ (by decide)))
  · rw [if_neg (ntrue h), if_neg (ntrue h)]
    exact step.bad rfl rfl
end STEPS

