/-! more changes: bids, a new turbine, hours -/
section STEP2
variable {B : Nat} {F : FM} {Q : MM}
theorem bid_upd {M : Nat → Int32} {x p u : Nat} (hM : okM B M) (hF : eqF F M) (hx : x < 24) (hp : p ≤ 50) (hu : u ≤ 500) (hpu : p = 0 ↔ u = 0) :
    okM B (upd (upd M (9 + 2 * x) (nI p)) (9 + 2 * x + 1) (nI u)) ∧ eqF (fBid F (nI x) (nI p) (nI u)) (upd (upd M (9 + 2 * x) (nI p)) (9 + 2 * x + 1) (nI u)) := by
  have hg : ∀ i, i ≠ 9 + 2 * x → i ≠ 9 + 2 * x + 1 → upd (upd M (9 + 2 * x) (nI p)) (9 + 2 * x + 1) (nI u) i = M i := fun i a b => by rw [u_ne b, u_ne a]
  have hT : ∀ j k, tv (upd (upd M (9 + 2 * x) (nI p)) (9 + 2 * x + 1) (nI u)) j k = tv M j k := fun j k => by rw [tv_lo (by omega), tv_lo (by omega)]
  have hA : ∀ i, i < 7 → fA (fBid F (nI x) (nI p) (nI u)) i = fA F i := fun i hi => by unfold fBid; rw [fA_sA, fA_sA, if_neg (by omega), if_neg (by omega)]
  have P1 := eqP_lo (F := F) (F' := fBid F (nI x) (nI p) (nI u)) (k := 9 + 2 * x) (v := nI p) hM.1 (by omega) (by omega) rfl hA hF.1
  have P2 := eqP_lo (F := fBid F (nI x) (nI p) (nI u)) (F' := fBid F (nI x) (nI p) (nI u)) (k := 9 + 2 * x + 1) (v := nI u) (wM_of hM.1 (u_ne (by omega))) (by omega) (by omega) rfl (fun _ _ => rfl) P1
  have hy : wy (upd (upd M (9 + 2 * x) (nI p)) (9 + 2 * x + 1) (nI u)) = wy M := by unfold wy; rw [hg 1 (by omega) (by omega)]
  have hn : qN (upd (upd M (9 + 2 * x) (nI p)) (9 + 2 * x + 1) (nI u)) = qN M := qN_of (hg 0 (by omega) (by omega))
  have hpv : ∀ z, pv (upd (upd M (9 + 2 * x) (nI p)) (9 + 2 * x + 1) (nI u)) z = if z = x then nI p else pv M z := fun z => by
    unfold pv
    by_cases e : z = x
    · rw [if_pos e, e, u_ne (by omega), u_eq]
    · rw [if_neg e, hg _ (by omega) (by omega)]
  have huv : ∀ z, uv (upd (upd M (9 + 2 * x) (nI p)) (9 + 2 * x + 1) (nI u)) z = if z = x then nI u else uv M z := fun z => by
    unfold uv
    by_cases e : z = x
    · rw [if_pos e, e, u_eq]
    · rw [if_neg e, hg _ (by omega) (by omega)]
  obtain ⟨h1, h2, h3, h4, h5, h6, h7, h8, h9⟩ := hM
  obtain ⟨f0, f1, f2, f3, f4, f5, f6, f7, f8⟩ := hF
  have g1 := hg 1 (by omega) (by omega)
  have g2 := hg 2 (by omega) (by omega)
  have g3 := hg 3 (by omega) (by omega)
  have g4 := hg 4 (by omega) (by omega)
  have g5 := hg 5 (by omega) (by omega)
  have g6 := hg 6 (by omega) (by omega)
  have g7 := hg 7 (by omega) (by omega)
  have g8 := hg 8 (by omega) (by omega)
  refine ⟨⟨wM_of h1 (hg 0 (by omega) (by omega)), fun j hj => okT_congr (fun k _ => hT j k) (h2 j (by omega)), fun i j hi hj e1 e2 => ?_, ?_, by rw [hy, g1]; exact h5, by rw [g2]; exact h6, by rw [g3]; exact h7, ?_, fun z hz => ?_⟩, P2, by rw [g1]; exact f1, by rw [g2]; exact f2, by rw [g3]; exact f3, by rw [g4]; exact f4, fun j hj => f5 j (by omega), fun z hz => ?_, ?_, fun k hk i hi => ?_⟩
  · rw [hT, hT] at e1 e2
    exact h3 i j (by omega) (by omega) e1 e2
  · rw [hn, cnt_congr _ (fun j _ => hT j 3)]; exact h4
  · obtain ⟨t, t1, t2, m, l, s', c, a1, a2, a3, a4, a5⟩ := h8
    exact ⟨t, t1, g4.trans t2, m, l, s', c, g5.trans a1, g6.trans a2, g7.trans a3, g8.trans a4, a5⟩
  · by_cases e : z = x
    · exact ⟨p, u, by rw [hpv, if_pos e], by rw [huv, if_pos e], hp, hu, hpu⟩
    · obtain ⟨p', u', b1, b2, b3⟩ := h9 z hz
      exact ⟨p', u', by rw [hpv, if_neg e]; exact b1, by rw [huv, if_neg e]; exact b2, b3⟩
  · rw [hpv, huv]
    unfold fBid
    rw [fA_sA, fA_sA, fA_sA, if_neg (by decide), if_pos rfl, if_pos rfl, sAt_nI hx (by decide), sAt_nI hx (by decide), upd_at, upd_at]
    by_cases e : z = x
    · rw [if_pos e, if_pos e, if_pos e, if_pos e]
      exact ⟨rfl, rfl⟩
    · rw [if_neg e, if_neg e, if_neg e, if_neg e]
      exact f6 z hz
  · obtain ⟨a0, a1, a2, a3, a4⟩ := f7
    refine ⟨?_, ?_, ?_, ?_, ?_⟩
    · rw [g5]; exact a0
    · rw [g6]; exact a1
    · rw [g7]; exact a2
    · rw [g5, g6, g7]; exact a3
    · rw [g8]; exact a4
  · unfold fBid
    rw [fA_sA, fA_sA, sAt_nI hx (by decide), sAt_nI hx (by decide)]
    by_cases e8 : k = 8
    · subst e8
      rw [if_pos rfl, upd_at, if_neg (by have : lenF 8 = 24 := rfl; omega)]
      exact f8 8 (by decide) i hi
    · rw [if_neg e8]
      by_cases e7 : k = 7
      · subst e7
        rw [if_pos rfl, upd_at, if_neg (by have : lenF 7 = 24 := rfl; omega)]
        exact f8 7 (by decide) i hi
      · rw [if_neg e7]
        exact f8 k hk i hi
theorem ix_p {x : Nat} (hx : x < 24) : (9 + 2 * nI x).toNatClampNeg = 9 + 2 * x ∧ (9 + 2 * nI x + 1).toNatClampNeg = 9 + 2 * x + 1 := by
  rw [show (9 : Int32) = nI 9 from rfl, show (2 : Int32) = nI 2 from rfl, pk_mul, nI_add, nI_1, nI_clamp (by omega), nI_clamp (by omega)]
  exact ⟨rfl, rfl⟩
theorem st_bid (hM : okM B (mM Q)) (hF : eqF F (mM Q)) (a y z : Int32) : step B Q (qPla Q a y z) (jud F 98 a y z) (det F (jud F 98 a y z) a y) (fCar F 98 a y z).1 (fCar F 98 a y z).2 := by
  rw [jud_98, jBid_98, car_98]
  unfold qPla
  rcases b_tf (b := isHour' a) with h | h
  · obtain ⟨x, hx, rfl⟩ := hour_nat h
    obtain ⟨p0, u0, q1, q2, q3, q4, q5, q6, q7, q8⟩ := bid_eq hM hF hx
    rw [if_pos h, if_pos h]
    rcases b_tf (b := wIn y 1 50) with hy | hy
    · obtain ⟨p, p1, p2, p3, rfl⟩ := wIn_nat (a := 1) (b := 50) hy (by decide)
      rw [if_pos hy, if_pos hy]
      rcases b_tf (b := wIn z 1 500) with hz | hz
      · obtain ⟨u, u1, u2, u3, rfl⟩ := wIn_nat (a := 1) (b := 500) hz (by decide)
        rw [if_pos hz, if_pos hz, q8, q4]
        by_cases e : p0 = 0
        · rw [decide_eq_false (by omega), if_neg Bool.false_ne_true]
          obtain ⟨v1, v2⟩ := bid_upd hM hF hx p2 u2 (by omega)
          obtain ⟨i1, i2⟩ := ix_p hx
          rw [i1, i2]
          refine step.ok rfl (if_pos (by rw [e]; decide)) v1 v2 ?_ (kq_M Q ((hiE_upd _ (by omega)).tr (hiE_upd _ (by omega))))
          exact (cBd_eq v1 v2 24 (Nat.le_refl _)).symm
        · rw [decide_eq_true (by omega), if_pos rfl]
          refine step.rej 8 (by decide) rfl ?_
          rw [show det F 8 (nI x) (nI p) = nI p0 by rw [det_8]; exact q6]
          exact if_neg (nI_nle (by omega) (by omega))
      · rw [if_neg (ntrue hz), if_neg (ntrue hz)]
        exact step.bad rfl rfl
    · rw [if_neg (ntrue hy), if_neg (ntrue hy)]
      exact step.bad rfl rfl
  · rw [if_neg (ntrue h), if_neg (ntrue h)]
    exact step.no rfl rfl
theorem st_unbid (hM : okM B (mM Q)) (hF : eqF F (mM Q)) (a y z : Int32) : step B Q (qWdr Q a) (jud F 113 a y z) (det F (jud F 113 a y z) a y) (fCar F 113 a y z).1 (fCar F 113 a y z).2 := by
  rw [jud_113, jBid_113, car_113]
  unfold qWdr
  rcases b_tf (b := isHour' a) with h | h
  · obtain ⟨x, hx, rfl⟩ := hour_nat h
    obtain ⟨p0, u0, q1, q2, q3, q4, q5, q6, q7, q8⟩ := bid_eq hM hF hx
    rw [if_pos h, if_pos h, q8, q4]
    by_cases e : p0 = 0
    · rw [decide_eq_false (by omega), if_neg Bool.false_ne_true]
      refine step.rej 9 (by decide) rfl ?_
      rw [show det F 9 (nI x) y = qBd (mM Q) 24 by rw [det_9]; exact cBd_eq hM hF 24 (Nat.le_refl _)]
      exact if_pos (by rw [e]; rfl)
    · rw [decide_eq_true (by omega), if_pos rfl]
      obtain ⟨v1, v2⟩ := bid_upd (p := 0) (u := 0) hM hF hx (by omega) (by omega) (by omega)
      obtain ⟨i1, i2⟩ := ix_p hx
      rw [i1, i2]
      refine step.ok rfl (if_neg (nI_ne0 (by omega) (by omega))) v1 v2 ?_ (kq_M' Q ((hiE_upd _ (by omega)).tr (hiE_upd _ (by omega))))
      exact q5.trans q7.symm
  · rw [if_neg (ntrue h), if_neg (ntrue h)]
    exact step.no rfl rfl
/-! a new turbine -/
theorem zer_tv (M : Nat → Int32) {n j k : Nat} (hn : n < 12) (hk : k < 6) : ∀ i, i ≤ 6 → tv (zer M (nI n) i) j k = if j = n ∧ k < i then 0 else tv M j k
  | 0, _ => by rw [if_neg (by omega)]; rfl
  | i + 1, h => by
    unfold zer
    rw [tv_set _ hn (by omega) hk, zer_tv M hn hk i (by omega)]
    by_cases e : j = n ∧ k = i
    · rw [if_pos e, if_pos (by omega)]
    · rw [if_neg e]
      by_cases e2 : j = n ∧ k < i
      · rw [if_pos e2, if_pos (by omega)]
      · rw [if_neg e2, if_neg (by omega)]
theorem zer_lo (M : Nat → Int32) {n : Nat} (hn : n < 12) {x : Nat} (hx : x < 57) : ∀ i, i ≤ 6 → zer M (nI n) i x = M x
  | 0, _ => rfl
  | i + 1, h => by
    unfold zer
    rw [lo_set _ hn (by omega) hx, zer_lo M hn hx i (by omega)]
theorem zer_hi (M : Nat → Int32) {n : Nat} (hn : n < 12) : ∀ i, i ≤ 6 → hiE M (zer M (nI n) i)
  | 0, _ => hiE.rf
  | i + 1, h => (zer_hi M hn i (by omega)).tr (hiE_set _ hn (by omega))
def addM (M : Nat → Int32) (n r c p : Nat) : Nat → Int32 := qSet (qSet (qSet (zer (upd M 0 (nI n + 1)) (nI n) 6) (nI n) 0 (nI r)) (nI n) 1 (nI c)) (nI n) 2 (nI p)
theorem addM_tv {M : Nat → Int32} {n r c p : Nat} (hn : n < 12) {j k : Nat} (hk : k < 6) : tv (addM M n r c p) j k = if j = n then (if k = 0 then nI r else if k = 1 then nI c else if k = 2 then nI p else 0) else tv M j k := by
  unfold addM
  rw [show (2 : Int32) = nI 2 from rfl, show (1 : Int32) = nI 1 from rfl, show (0 : Int32) = nI 0 from rfl, tv_set _ hn (by decide) hk, tv_set _ hn (by decide) hk, tv_set _ hn (by decide) hk, zer_tv _ hn hk 6 (by decide), tv_lo (by decide)]
  by_cases e : j = n
  · rw [if_pos e]
    rcases (by omega : k = 0 ∨ k = 1 ∨ k = 2 ∨ k = 3 ∨ k = 4 ∨ k = 5) with q | q | q | q | q | q <;> subst q <;> simp [e] <;> rfl
  · rw [if_neg e, if_neg (by omega), if_neg (by omega), if_neg (by omega), if_neg (by omega)]
theorem addM_lo {M : Nat → Int32} {n r c p : Nat} (hn : n < 12) {i : Nat} (hi : i < 57) : addM M n r c p i = upd M 0 (nI n + 1) i := by
  unfold addM
  rw [show (2 : Int32) = nI 2 from rfl, show (1 : Int32) = nI 1 from rfl, show (0 : Int32) = nI 0 from rfl, lo_set _ hn (by decide) hi, lo_set _ hn (by decide) hi, lo_set _ hn (by decide) hi, zer_lo _ hn hi 6 (by decide)]
theorem addM_hi {M : Nat → Int32} {n r c p : Nat} (hn : n < 12) : hiE M (addM M n r c p) :=
  ((((hiE_upd M (by decide)).tr (zer_hi _ hn 6 (by decide))).tr (hiE_set _ (w := 0) hn (by decide))).tr (hiE_set _ (w := 1) hn (by decide))).tr (hiE_set _ (w := 2) hn (by decide))
theorem cell_inj : ∀ x, x < 9 → ∀ r, r < 5 → (nI x - 2 = nI r ↔ x = r + 2) := by decide +kernel
theorem cell_jnj : ∀ x, x < 10 → ∀ r, r < 6 → (nI x - 2 = nI r ↔ x = r + 2) := by decide +kernel
theorem add_upd {M : Nat → Int32} {r c p : Nat} (hM : okM B M) (hF : eqF F M) (hn : qN M < 12) (hr : r < 5) (hc : c < 6) (hp : 1 ≤ p ∧ p ≤ 9) (hfree : ∀ i, i < qN M → ¬ (tv M i 0 = nI r ∧ tv M i 1 = nI c)) :
    okM B (addM M (qN M) r c p) ∧ eqF (fAdd F (nI r) (nI c) (nI p)) (addM M (qN M) r c p) := by
  obtain ⟨n, hne⟩ : ∃ n, n = qN M := ⟨_, rfl⟩
  rw [← hne] at hn hfree ⊢
  have e0 : addM M n r c p 0 = nI (n + 1) := by rw [addM_lo hn (by decide), u_eq, nI_1]
  have hg : ∀ i, 0 < i → i < 57 → addM M n r c p i = M i := fun i a b => by rw [addM_lo hn b, u_ne (by omega)]
  have hn2 : qN (addM M n r c p) = n + 1 := by unfold qN; rw [e0, nI_clamp (by omega)]
  have hw2 : wM (addM M n r c p) := by unfold wM; rw [hn2]; exact ⟨e0, by omega⟩
  have hT : ∀ j, j < n → ∀ k, k < 6 → tv (addM M n r c p) j k = tv M j k := fun j hj k hk => by rw [addM_tv hn hk, if_neg (by omega)]
  have tN : ∀ k, k < 6 → tv (addM M n r c p) n k = if k = 0 then nI r else if k = 1 then nI c else if k = 2 then nI p else 0 := fun k hk => by rw [addM_tv hn hk, if_pos rfl]
  have hy : wy (addM M n r c p) = wy M := by unfold wy; rw [hg 1 (by omega) (by omega)]
  obtain ⟨h1, h2, h3, h4, h5, h6, h7, h8, h9⟩ := hM
  obtain ⟨⟨p1, p2, p3⟩, f1, f2, f3, f4, f5, f6, f7, f8⟩ := hF
  rw [← hne] at h2 h3 h4 p2 f5
  have eF0 : fI F 0 = nI n := by rw [p1, h1.1, hne]
  have g1 := hg 1 (by omega) (by omega)
  have g2 := hg 2 (by omega) (by omega)
  have g3 := hg 3 (by omega) (by omega)
  have g4 := hg 4 (by omega) (by omega)
  have g5 := hg 5 (by omega) (by omega)
  have g6 := hg 6 (by omega) (by omega)
  have g7 := hg 7 (by omega) (by omega)
  have g8 := hg 8 (by omega) (by omega)
  -- the search, with the new one
  have hq : ∀ a b : Int32, qIn (addM M n r c p) a b = if a = nI r ∧ b = nI c then nI n else qIn M a b := by
    intro a b
    by_cases e : a = nI r ∧ b = nI c
    · rw [if_pos e, e.1, e.2]
      rcases qIn_spec hw2 (nI r) (nI c) with ⟨i, i1, i2, i3, i4⟩ | ⟨i1, i2⟩
      · rw [i4]
        congr 1
        rw [hn2] at i1
        rcases Nat.lt_or_ge i n with q | q
        · rw [hT i q 0 (by decide)] at i2
          rw [hT i q 1 (by decide)] at i3
          exact absurd ⟨i2, i3⟩ (hfree i q)
        · omega
      · exact absurd ⟨by rw [tN 0 (by decide)]; rfl, by rw [tN 1 (by decide)]; rfl⟩ (i1 n (by omega))
    · rw [if_neg e]
      rcases qIn_spec hw2 a b with ⟨i, i1, i2, i3, i4⟩ | ⟨i1, i2⟩
      · rw [hn2] at i1
        rcases Nat.lt_or_ge i n with q | q
        · rw [hT i q 0 (by decide)] at i2
          rw [hT i q 1 (by decide)] at i3
          rcases qIn_spec h1 a b with ⟨i', j1, j2, j3, j4⟩ | ⟨j1, j2⟩
          · rw [i4, j4, h3 i i' q (by omega) (by rw [i2, j2]) (by rw [i3, j3])]
          · exact absurd ⟨i2, i3⟩ (j1 i (by omega))
        · have z : i = n := by omega
          subst z
          rw [tN 0 (by decide)] at i2
          rw [tN 1 (by decide)] at i3
          exact absurd ⟨i2.symm, i3.symm⟩ e
      · rcases qIn_spec h1 a b with ⟨i', j1, j2, j3, j4⟩ | ⟨j1, j2⟩
        · exact absurd ⟨(hT i' (by omega) 0 (by decide)).trans j2, (hT i' (by omega) 1 (by decide)).trans j3⟩ (i1 i' (by omega))
        · rw [i2, j2]
  have t0 : tv (addM M n r c p) n 0 = nI r := by rw [tN 0 (by decide)]; rfl
  have t1 : tv (addM M n r c p) n 1 = nI c := by rw [tN 1 (by decide)]; rfl
  have t2 : tv (addM M n r c p) n 2 = nI p := by rw [tN 2 (by decide)]; rfl
  have t3 : tv (addM M n r c p) n 3 = nI 0 := by rw [tN 3 (by decide)]; rfl
  have t4 : tv (addM M n r c p) n 4 = nI 0 := by rw [tN 4 (by decide)]; rfl
  have t5 : tv (addM M n r c p) n 5 = nI 0 := by rw [tN 5 (by decide)]; rfl
  have hok : okT (addM M n r c p) n := okT_of (s := 0) (h := 0) (l := 0) t0 t1 t2 t3 t4 t5 hr hc hp (by decide) (by omega) (by omega) (by omega) (by omega)
  have hA : ∀ k, fA (fAdd F (nI r) (nI c) (nI p)) k = if k = 6 then sAt 90 (fA F 6) (plc' (nI r) (nI c)) (nI n + 1) else if k = 4 then upd (fA F 4) n (-1) else if k = 3 then upd (fA F 3) n 1 else if k = 2 then upd (fA F 2) n (nI p) else if k = 1 then upd (fA F 1) n (nI c) else if k = 0 then upd (fA F 0) n (nI r) else fA F k := by
    intro k
    unfold fAdd
    rw [fA_sI, fA_sA, fA_sA, fA_sA, fA_sA, fA_sA, fA_sA, eF0, sAt_u hn, sAt_u hn, sAt_u hn, sAt_u hn, sAt_u hn]
  obtain ⟨c1, c2, c3⟩ := cell_in r hr c hc
  refine ⟨⟨hw2, fun j hj => ?_, fun i j hi hj e1 e2 => ?_, ?_, by rw [hy, g1]; exact h5, by rw [g2]; exact h6, by rw [g3]; exact h7, ?_, fun z hz => ?_⟩, ⟨?_, fun j hj => ?_, fun x y hx hy => ?_⟩, by rw [g1]; exact f1, by rw [g2]; exact f2, by rw [g3]; exact f3, by rw [g4]; exact f4, fun j hj hj2 => ?_, fun z hz => ?_, ?_, fun k hk i hi => ?_⟩
  · rw [hn2] at hj
    by_cases e : j = n
    · rw [e]; exact hok
    · exact okT_congr (hT j (by omega)) (h2 j (by omega))
  · rw [hn2] at hi hj
    by_cases ei : i = n
    · by_cases ej : j = n
      · omega
      · subst ei
        rw [tN 0 (by decide), hT j (by omega) 0 (by decide)] at e1
        rw [tN 1 (by decide), hT j (by omega) 1 (by decide)] at e2
        exact absurd ⟨e1.symm, e2.symm⟩ (hfree j (by omega))
    · by_cases ej : j = n
      · subst ej
        rw [tN 0 (by decide), hT i (by omega) 0 (by decide)] at e1
        rw [tN 1 (by decide), hT i (by omega) 1 (by decide)] at e2
        exact absurd ⟨e1, e2⟩ (hfree i (by omega))
      · rw [hT i (by omega) 0 (by decide), hT j (by omega) 0 (by decide)] at e1
        rw [hT i (by omega) 1 (by decide), hT j (by omega) 1 (by decide)] at e2
        exact h3 i j (by omega) (by omega) e1 e2
  · rw [hn2]
    unfold cnt
    rw [cnt_congr n (fun j hj => hT j hj 3 (by decide)), t3, if_neg (show ¬ nI 0 = nI 2 by decide)]
    exact h4
  · obtain ⟨t, t1, t2, m, l, s', d, a1, a2, a3, a4, a5⟩ := h8
    exact ⟨t, t1, g4.trans t2, m, l, s', d, g5.trans a1, g6.trans a2, g7.trans a3, g8.trans a4, a5⟩
  · obtain ⟨p', u', b1, b2, b3⟩ := h9 z hz
    exact ⟨p', u', (hg _ (by omega) (by omega)).trans b1, (hg _ (by omega) (by omega)).trans b2, b3⟩
  · rw [e0]
    show fI F 0 + 1 = _
    rw [eF0, nI_1]
  · rw [hn2] at hj
    unfold eqT
    rw [hA 0, hA 1, hA 2, hA 3, hA 5, hA 4]
    simp only [show (0 = 6) = False from by decide, show (0 = 4) = False from by decide, show (0 = 3) = False from by decide, show (0 = 2) = False from by decide, show (0 = 1) = False from by decide, show (1 = 6) = False from by decide, show (1 = 4) = False from by decide, show (1 = 3) = False from by decide, show (1 = 2) = False from by decide, show (2 = 6) = False from by decide, show (2 = 4) = False from by decide, show (2 = 3) = False from by decide, show (3 = 6) = False from by decide, show (3 = 4) = False from by decide, show (4 = 6) = False from by decide, show (5 = 6) = False from by decide, show (5 = 4) = False from by decide, show (5 = 3) = False from by decide, show (5 = 2) = False from by decide, show (5 = 1) = False from by decide, show (5 = 0) = False from by decide, if_false, if_true, upd_at]
    by_cases e : j = n
    · subst e
      rw [t0, t1, t2, t3, t4, t5]
      exact ⟨if_pos rfl, if_pos rfl, if_pos rfl, (if_pos rfl).trans (by decide), f5 _ (Nat.le_refl _) hn, (if_pos rfl).trans (by decide)⟩
    · simp only [e, if_false]
      rw [hT j (by omega) 0 (by decide), hT j (by omega) 1 (by decide), hT j (by omega) 2 (by decide), hT j (by omega) 3 (by decide), hT j (by omega) 4 (by decide), hT j (by omega) 5 (by decide)]
      exact p2 j (by omega)
  · rw [hA 6, if_pos rfl, hq, c1, sAt_nI (by omega) (by decide), upd_at]
    by_cases e : x = r + 2 ∧ y = c + 2
    · rw [if_pos (by omega), if_pos ⟨(cell_inj x hx r hr).mpr e.1, (cell_jnj y hy c hc).mpr e.2⟩]
    · rw [if_neg (by omega), if_neg (fun z => e ⟨(cell_inj x hx r hr).mp z.1, (cell_jnj y hy c hc).mp z.2⟩)]
      exact p3 x y hx hy
  · rw [hn2] at hj
    rw [hA 5]
    exact f5 j (by omega) hj2
  · rw [hA 7, hA 8]
    have q := f6 z hz
    exact ⟨q.1.trans (hg _ (by omega) (by omega)).symm, q.2.trans (hg _ (by omega) (by omega)).symm⟩
  · obtain ⟨a0, a1, a2, a3, a4⟩ := f7
    refine ⟨?_, ?_, ?_, ?_, ?_⟩
    · rw [g5]; exact a0
    · rw [g6]; exact a1
    · rw [g7]; exact a2
    · rw [g5, g6, g7]; exact a3
    · rw [g8]; exact a4
  · have l := f8 k hk i hi
    rw [hA k]
    by_cases e6 : k = 6
    · rw [if_pos e6, c1, sAt_nI (by omega) (by decide), upd_at]
      subst e6
      rw [if_neg (by have : lenF 6 = 90 := rfl; omega)]
      exact l
    · have hl : 12 ≤ lenF k := by
        rcases (by omega : k = 0 ∨ k = 1 ∨ k = 2 ∨ k = 3 ∨ k = 4 ∨ k = 5 ∨ k = 7 ∨ k = 8) with rfl | rfl | rfl | rfl | rfl | rfl | rfl | rfl <;> decide
      rw [if_neg e6]
      by_cases e4 : k = 4
      · subst e4; rw [if_pos rfl, upd_at, if_neg (by omega)]; exact l
      · rw [if_neg e4]
        by_cases e3 : k = 3
        · subst e3; rw [if_pos rfl, upd_at, if_neg (by omega)]; exact l
        · rw [if_neg e3]
          by_cases e2 : k = 2
          · subst e2; rw [if_pos rfl, upd_at, if_neg (by omega)]; exact l
          · rw [if_neg e2]
            by_cases e1 : k = 1
            · subst e1; rw [if_pos rfl, upd_at, if_neg (by omega)]; exact l
            · rw [if_neg e1]
              by_cases e0' : k = 0
              · subst e0'; rw [if_pos rfl, upd_at, if_neg (by omega)]; exact l
              · rw [if_neg e0']; exact l
theorem st_add (hM : okM B (mM Q)) (hF : eqF F (mM Q)) (a y z : Int32) : step B Q (qAdd Q a y z) (jud F 97 a y z) (det F (jud F 97 a y z) a y) (fCar F 97 a y z).1 (fCar F 97 a y z).2 := by
  have h12 := hM.1.2
  rw [jud_97, car_97]
  unfold qAdd jAdd
  rcases b_tf (b := isCell' a y) with h | h
  · obtain ⟨r, c, hr, hc, rfl, rfl⟩ := cell_nat h
    rw [if_pos h, if_pos h]
    rcases b_tf (b := wIn z 1 9) with hz | hz
    · obtain ⟨p, p1, p2, p3, rfl⟩ := wIn_nat (a := 1) (b := 9) hz (by decide)
      rw [if_pos hz, if_pos hz, hF.1.1, hM.1.1, tIn_eq hF.1.2.2 hr hc]
      by_cases e : qN (mM Q) = 12
      · rw [e, if_neg (show ¬ nI 12 < 12 by decide)]
        exact step.rej 1 (by decide) rfl ((if_pos (show nI 12 = 12 from rfl)).trans (by rw [show det F 1 (nI r) (nI c) = 12 from det_1 F _ _]; rfl))
      · rw [if_pos (show nI (qN (mM Q)) < 12 from nI_lt (b := 12) (by omega) (by decide))]
        rcases qIn_spec hM.1 (nI r) (nI c) with ⟨i, i1, i2, i3, i4⟩ | ⟨i1, i2⟩
        · rw [i4, if_neg (nI_pos (by omega)), if_neg (nI_pos (by omega))]
          refine step.rej 2 (by decide) rfl ?_
          rw [show det F 2 (nI r) (nI c) = nI i by rw [det_2, tIn_eq hF.1.2.2 hr hc, i4]]
          exact if_neg (fun q => e (nI_inj3 (by omega) (by decide) q))
        · obtain ⟨u1, u2⟩ := add_upd hM hF (by omega) hr hc ⟨p1, p2⟩ i1
          rw [i2, if_pos m1_neg, if_pos m1_neg]
          exact step.ok rfl (if_neg (fun q => e (nI_inj3 (by omega) (by decide) q))) u1 u2 rfl (kq_M Q (addM_hi (by omega)))
    · rw [if_neg (ntrue hz), if_neg (ntrue hz)]
      exact step.bad rfl rfl
  · rw [if_neg (ntrue h), if_neg (ntrue h)]
    exact step.no rfl rfl
end STEP2
