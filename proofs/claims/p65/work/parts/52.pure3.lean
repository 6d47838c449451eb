/-! ranges -/
theorem wIn_nat {x : Int32} {a b : Nat} (h : wIn x (nI a) (nI b) = true) (ha : a < 2 ^ 31) : ∃ j, a ≤ j ∧ j ≤ b ∧ j < 2 ^ 31 ∧ x = nI j := by
  unfold wIn at h
  by_cases h1 : x < nI a
  · rw [if_pos h1] at h; cases h
  · rw [if_neg h1] at h
    by_cases h2 : nI b < x
    · rw [if_pos h2] at h; cases h
    · have h3 : ¬ x < 0 := fun z => h1 (Int32.lt_of_lt_of_le z (nI_pos' ha))
      obtain ⟨j, hj, rfl⟩ := nI_of h3
      refine ⟨j, ?_, ?_, hj, rfl⟩
      · rcases Nat.lt_or_ge j a with q | q
        · exact absurd (nI_lt q ha) h1
        · exact q
      · rcases Nat.lt_or_ge b j with q | q
        · exact absurd (nI_lt q hj) h2
        · exact q
theorem wIn_ok {a b j : Nat} (h1 : a ≤ j) (h2 : j ≤ b) (hb : b < 2 ^ 31) : wIn (nI j) (nI a) (nI b) = true := by
  unfold wIn
  rw [if_neg (nI_nlt h1 (by omega)), if_neg (nI_nlt h2 hb)]
theorem cell_nat {r c : Int32} (h : isCell' r c = true) : ∃ x y : Nat, x < 5 ∧ y < 6 ∧ r = nI x ∧ c = nI y := by
  unfold isCell' at h
  rw [Bool.and_eq_true] at h
  obtain ⟨x, -, h2, -, h3⟩ := wIn_nat (a := 0) (b := 4) h.1 (by decide)
  obtain ⟨y, -, h5, -, h6⟩ := wIn_nat (a := 0) (b := 5) h.2 (by decide)
  exact ⟨x, y, by omega, by omega, h3, h6⟩
theorem hour_nat {x : Int32} (h : isHour' x = true) : ∃ j : Nat, j < 24 ∧ x = nI j := by
  obtain ⟨j, -, h2, -, h3⟩ := wIn_nat (a := 0) (b := 23) h (by decide)
  exact ⟨j, by omega, h3⟩
theorem hasT_eq {F : FM} {M : Nat → Int32} (hw : wM M) (hF : eqP F M) (t : Int32) : hasT F t = qIT M t := by
  unfold hasT qIT wIn
  rw [hF.1, hw.1]
  by_cases h : t < 0
  · rw [if_pos h, if_pos h]
  · rw [if_neg h, if_neg h]
    obtain ⟨j, hj, rfl⟩ := nI_of h
    have h12 := hw.2
    cases hn : qN M with
    | zero =>
      rw [if_pos (nI_le (Nat.zero_le _) hj), if_pos (Int32.lt_of_lt_of_le (by decide : nI 0 - 1 < 0) (nI_pos' hj))]
    | succ k =>
      rw [nI_pred]
      by_cases q : k < j
      · rw [if_pos (nI_le (by omega) hj), if_pos (nI_lt q hj)]
      · rw [if_neg (nI_ge (by omega) (by omega)), if_neg (nI_nlt (by omega) (by omega))]
theorem qIT_nat {M : Nat → Int32} (hw : wM M) {t : Int32} (h : qIT M t = true) : ∃ j, j < qN M ∧ t = nI j := by
  unfold qIT at h
  rw [hw.1] at h
  have h12 := hw.2
  cases hn : qN M with
  | zero =>
    rw [hn] at h
    unfold wIn at h
    by_cases h1 : t < 0
    · rw [if_pos h1] at h; cases h
    · rw [if_neg h1, if_pos (Int32.lt_of_lt_of_le (by decide : nI 0 - 1 < 0) (Int32.not_lt.mp h1))] at h
      cases h
  | succ k =>
    rw [hn, nI_pred] at h
    obtain ⟨j, -, h2, -, h3⟩ := wIn_nat (a := 0) (b := k) h (by decide)
    exact ⟨j, by omega, h3⟩
/-! what a change leaves alone -/
def kq (Q Q' : MM) : Prop := (∀ k, k ≠ 4 → mI Q' k = mI Q k) ∧ hiE (mM Q) (mM Q') ∧ mL Q' = mL Q ∧ mN Q' = mN Q ∧ mC Q' = mC Q
theorem kq.rf {Q : MM} : kq Q Q := ⟨fun _ _ => rfl, hiE.rf, rfl, rfl, rfl⟩
theorem kq.tr {A C D : MM} (h : kq A C) (k : kq C D) : kq A D := ⟨fun i hi => (k.1 i hi).trans (h.1 i hi), h.2.1.tr k.2.1, k.2.2.1.trans h.2.2.1, k.2.2.2.1.trans h.2.2.2.1, k.2.2.2.2.trans h.2.2.2.2⟩
theorem kq_M (Q : MM) {f : Nat → Int32} {v : Int32} (h : hiE (mM Q) f) : kq Q (sMI (sMM Q f) 4 v) := ⟨fun k hk => by rw [mI_sI, if_neg hk]; rfl, h, rfl, rfl, rfl⟩
theorem kq_M' (Q : MM) {f : Nat → Int32} {v : Int32} (h : hiE (mM Q) f) : kq Q (sMM (sMI Q 4 v) f) := ⟨fun k hk => by rw [mI_sM, mI_sI, if_neg hk], h, rfl, rfl, rfl⟩
/-- one change on both sides: v is the class's judgement, d its detail, (F', a) its change and answer, r the reference's -/
def step (B : Nat) (Q : MM) (r : MM × Int32) (v d : Int32) (F' : FM) (a : Int32) : Prop :=
  (v = -1 ∧ r = (Q, 1)) ∨ (v = -2 ∧ r = (Q, 2)) ∨ (v ≠ 0 ∧ v ≠ -1 ∧ v ≠ -2 ∧ 0 < v.toInt ∧ v.toInt < 10 ∧ r = (qRej Q v d, 3)) ∨ (v = 0 ∧ r.2 = 0 ∧ okM B (mM r.1) ∧ eqF F' (mM r.1) ∧ mI r.1 4 = a ∧ kq Q r.1)
theorem step.no {B : Nat} {Q : MM} {r : MM × Int32} {v d : Int32} {F' : FM} {a : Int32} (hv : v = -1) (hr : r = (Q, 1)) : step B Q r v d F' a := Or.inl ⟨hv, hr⟩
theorem step.bad {B : Nat} {Q : MM} {r : MM × Int32} {v d : Int32} {F' : FM} {a : Int32} (hv : v = -2) (hr : r = (Q, 2)) : step B Q r v d F' a := Or.inr (Or.inl ⟨hv, hr⟩)
theorem step.rej {B : Nat} {Q : MM} {r : MM × Int32} {v d : Int32} {F' : FM} {a : Int32} (k : Nat) (hk : 0 < k ∧ k < 10) (hv : v = nI k) (hr : r = (qRej Q (nI k) d, 3)) : step B Q r v d F' a := by
  subst hv
  have e : (nI k).toInt = (k : Int) := nI_toInt (by omega)
  refine Or.inr (Or.inr (Or.inl ⟨fun z => nI_ne0 hk.1 (by omega) z, fun z => nI_pos (n := k) (by omega) (by rw [z]; decide), fun z => nI_pos (n := k) (by omega) (by rw [z]; decide), by rw [e]; omega, by rw [e]; omega, hr⟩))
theorem step.ok {B : Nat} {Q : MM} {r : MM × Int32} {v d : Int32} {F' : FM} {a : Int32} {Q' : MM} (hv : v = 0) (hr : r = (Q', 0)) (h1 : okM B (mM Q')) (h2 : eqF F' (mM Q')) (h3 : mI Q' 4 = a) (h4 : kq Q Q') : step B Q r v d F' a := by
  subst hr
  exact Or.inr (Or.inr (Or.inr ⟨hv, rfl, h1, h2, h3, h4⟩))
/-! a turbine's state, hours, limit -/
theorem okT_of {M : Nat → Int32} {j r c p s h l : Nat} (e0 : tv M j 0 = nI r) (e1 : tv M j 1 = nI c) (e2 : tv M j 2 = nI p) (e3 : tv M j 3 = nI s) (e4 : tv M j 4 = nI h) (e5 : tv M j 5 = nI l) (hr : r < 5) (hc : c < 6) (hp : 1 ≤ p ∧ p ≤ 9) (hs : s < 3) (hh : h ≤ 12) (hl : l ≤ 91) (hls : 0 < l → s = 0) (hsh : s = 2 → 1 ≤ h) : okT M j := by
  have t0 : tn M j 0 = r := by unfold tn; rw [e0, nI_clamp (by omega)]
  have t1 : tn M j 1 = c := by unfold tn; rw [e1, nI_clamp (by omega)]
  have t2 : tn M j 2 = p := by unfold tn; rw [e2, nI_clamp (by omega)]
  have t3 : tn M j 3 = s := by unfold tn; rw [e3, nI_clamp (by omega)]
  have t4 : tn M j 4 = h := by unfold tn; rw [e4, nI_clamp (by omega)]
  have t5 : tn M j 5 = l := by unfold tn; rw [e5, nI_clamp (by omega)]
  refine ⟨fun w hw => ?_, ?_⟩
  · rcases (by omega : w = 0 ∨ w = 1 ∨ w = 2 ∨ w = 3 ∨ w = 4 ∨ w = 5) with rfl | rfl | rfl | rfl | rfl | rfl
    · rw [t0]; exact e0
    · rw [t1]; exact e1
    · rw [t2]; exact e2
    · rw [t3]; exact e3
    · rw [t4]; exact e4
    · rw [t5]; exact e5
  · rw [t0, t1, t2, t3, t4, t5]
    exact ⟨hr, hc, hp.1, hp.2, hs, hh, hl, hls, hsh⟩
theorem nI_inj3 {a b : Nat} (ha : a < 2 ^ 31) (hb : b < 2 ^ 31) (h : nI a = nI b) : a = b := (nI_eq ha hb).mp h
theorem chg_upd {B : Nat} {F F' : FM} {M M' : Nat → Int32} {b s h l : Nat} (hM : okM B M) (hF : eqF F M) (hb : b < qN M) (h57 : ∀ i, i < 57 → M' i = M i) (hT : ∀ j, j < qN M → j ≠ b → ∀ k, k < 6 → tv M' j k = tv M j k) (h012 : ∀ k, k < 3 → tv M' b k = tv M b k)
    (e3 : tv M' b 3 = nI s) (e4 : tv M' b 4 = nI h) (e5 : tv M' b 5 = nI l) (hs : s < 3) (hh : h ≤ 12) (hl : l ≤ 91) (hls : 0 < l → s = 0) (hsh : s = 2 → 1 ≤ h) (hc : cnt M 2 (qN M) + (if s = 2 then 1 else 0) ≤ 2 + (if tv M b 3 = nI 2 then 1 else 0))
    (hI : ∀ k, fI F' k = fI F k) (hL : ∀ k, fL F' k = fL F k) (hA : ∀ k, k ≠ 3 → k ≠ 4 → k ≠ 5 → fA F' k = fA F k) (hA3 : ∀ k j, j ≠ b → fA F' k j = fA F k j) (f3 : fA F' 3 b = nI (s + 1)) (f5 : fA F' 5 b = nI h) (f4 : fA F' 4 b = nI l - 1) : okM B M' ∧ eqF F' M' := by
  have ht := hM.2.1 b hb
  refine eqF_upd hM hF hb h57 hT h012 (okT_of ((h012 0 (by decide)).trans (ht.1 0 (by decide))) ((h012 1 (by decide)).trans (ht.1 1 (by decide))) ((h012 2 (by decide)).trans (ht.1 2 (by decide))) e3 e4 e5 ht.2.1 ht.2.2.1 ⟨ht.2.2.2.1, ht.2.2.2.2.1⟩ hs hh hl hls hsh) ?_ hI hL hA hA3 ⟨by rw [f3, e3, nI_1], by rw [f5, e4], by rw [f4, e5]⟩
  have q := cnt_upd (M := M) (M' := M') (b := b) (s := 2) (qN M) hb (fun j hj hne => hT j hj hne 3 (by decide))
  rw [e3] at q
  by_cases z : s = 2
  · subst z
    rw [if_pos rfl] at q hc
    omega
  · rw [if_neg (fun y => z (nI_inj3 (by omega) (by decide) y))] at q
    rw [if_neg z] at hc
    omega
theorem tv_s3 (M : Nat → Int32) {b j k : Nat} {v : Int32} (hb : b < 12) (hk : k < 6) : tv (qSet M (nI b) 3 v) j k = if j = b ∧ k = 3 then v else tv M j k := tv_set M (w := 3) hb (by decide) hk
theorem tv_s4 (M : Nat → Int32) {b j k : Nat} {v : Int32} (hb : b < 12) (hk : k < 6) : tv (qSet M (nI b) 4 v) j k = if j = b ∧ k = 4 then v else tv M j k := tv_set M (w := 4) hb (by decide) hk
theorem tv_s5 (M : Nat → Int32) {b j k : Nat} {v : Int32} (hb : b < 12) (hk : k < 6) : tv (qSet M (nI b) 5 v) j k = if j = b ∧ k = 5 then v else tv M j k := tv_set M (w := 5) hb (by decide) hk
theorem lo_s3 (M : Nat → Int32) {b : Nat} {v : Int32} (hb : b < 12) {i : Nat} (hi : i < 57) : qSet M (nI b) 3 v i = M i := lo_set M (w := 3) hb (by decide) hi
theorem lo_s4 (M : Nat → Int32) {b : Nat} {v : Int32} (hb : b < 12) {i : Nat} (hi : i < 57) : qSet M (nI b) 4 v i = M i := lo_set M (w := 4) hb (by decide) hi
theorem lo_s5 (M : Nat → Int32) {b : Nat} {v : Int32} (hb : b < 12) {i : Nat} (hi : i < 57) : qSet M (nI b) 5 v i = M i := lo_set M (w := 5) hb (by decide) hi
theorem hi_s3 (M : Nat → Int32) {b : Nat} {v : Int32} (hb : b < 12) : hiE M (qSet M (nI b) 3 v) := hiE_set M (w := 3) hb (by decide)
theorem hi_s4 (M : Nat → Int32) {b : Nat} {v : Int32} (hb : b < 12) : hiE M (qSet M (nI b) 4 v) := hiE_set M (w := 4) hb (by decide)
theorem hi_s5 (M : Nat → Int32) {b : Nat} {v : Int32} (hb : b < 12) : hiE M (qSet M (nI b) 5 v) := hiE_set M (w := 5) hb (by decide)
section TURB
variable {B : Nat} {F : FM} {M : Nat → Int32} {b : Nat}
/-- it breaks down -/
theorem brk_upd (hM : okM B M) (hF : eqF F M) (hb : b < qN M) (h0 : tv M b 3 = nI 0) : okM B (qSet (qSet M (nI b) 3 1) (nI b) 5 0) ∧ eqF (fBrk F (nI b)) (qSet (qSet M (nI b) 3 1) (nI b) 5 0) := by
  have h12 : b < 12 := by have := hM.1.2; omega
  have ht := hM.2.1 b hb
  have hT := hF.1.2.1 b hb
  refine chg_upd (s := 1) (h := tn M b 4) (l := 0) hM hF hb (fun i hi => by rw [lo_s5 _ h12 hi, lo_s3 _ h12 hi]) (fun j hj hne k hk => by rw [tv_s5 _ h12 hk, tv_s3 _ h12 hk, if_neg (by omega), if_neg (by omega)]) (fun k hk => by rw [tv_s5 _ h12 (by omega), tv_s3 _ h12 (by omega), if_neg (by omega), if_neg (by omega)])
    (by rw [tv_s5 _ h12 (by decide), tv_s3 _ h12 (by decide), if_neg (by omega), if_pos ⟨rfl, rfl⟩]; rfl) (by rw [tv_s5 _ h12 (by decide), tv_s3 _ h12 (by decide), if_neg (by omega), if_neg (by omega)]; exact ht.1 4 (by decide)) (by rw [tv_s5 _ h12 (by decide), if_pos ⟨rfl, rfl⟩]; rfl) (by decide) ht.2.2.2.2.2.2.1 (by omega) (by omega) (by omega) ?_ (fun _ => rfl) (fun _ => rfl) (fun k k3 k4 k5 => ?_) (fun k j hne => ?_) ?_ ?_ ?_
  · have := hM.2.2.2.1
    rw [h0]
    simp only [show (nI 0 = nI 2) = False from by decide, if_false, show (1 = 2) = False from by decide]
    omega
  · unfold fBrk; rw [fA_sA, fA_sA, if_neg k4, if_neg k3]
  · unfold fBrk
    rw [fA_sA, fA_sA, sAt_u h12, sAt_u h12]
    by_cases k4 : k = 4
    · rw [if_pos k4, k4, upd_at, if_neg hne]
    · rw [if_neg k4]
      by_cases k3 : k = 3
      · rw [if_pos k3, k3, upd_at, if_neg hne]
      · rw [if_neg k3]
  · unfold fBrk
    rw [fA_sA, fA_sA, if_neg (by decide), if_pos rfl, sAt_u h12, upd_at, if_pos rfl]
    rfl
  · unfold fBrk
    rw [fA_sA, fA_sA, if_neg (by decide), if_neg (by decide), hT.2.2.2.2.1]
    exact ht.1 4 (by decide)
  · unfold fBrk
    rw [fA_sA, if_pos rfl, sAt_u h12, upd_at, if_pos rfl]
    rfl
/-- a crew comes -/
theorem sta_upd {x : Nat} (hM : okM B M) (hF : eqF F M) (hb : b < qN M) (h1 : tv M b 3 = nI 1) (hc : cnt M 2 (qN M) < 2) (hx : 1 ≤ x ∧ x ≤ 12) : okM B (qSet (qSet M (nI b) 3 2) (nI b) 4 (nI x)) ∧ eqF (fSta F (nI b) (nI x)) (qSet (qSet M (nI b) 3 2) (nI b) 4 (nI x)) := by
  have h12 : b < 12 := by have := hM.1.2; omega
  have ht := hM.2.1 b hb
  have hT := hF.1.2.1 b hb
  have h3 : tn M b 3 = 1 := by unfold tn; rw [h1]; exact nI_clamp (by decide)
  have h5 : tn M b 5 = 0 := by
    have := ht.2.2.2.2.2.2.2.2.1
    omega
  refine chg_upd (s := 2) (h := x) (l := 0) hM hF hb (fun i hi => by rw [lo_s4 _ h12 hi, lo_s3 _ h12 hi]) (fun j hj hne k hk => by rw [tv_s4 _ h12 hk, tv_s3 _ h12 hk, if_neg (by omega), if_neg (by omega)]) (fun k hk => by rw [tv_s4 _ h12 (by omega), tv_s3 _ h12 (by omega), if_neg (by omega), if_neg (by omega)])
    (by rw [tv_s4 _ h12 (by decide), tv_s3 _ h12 (by decide), if_neg (by omega), if_pos ⟨rfl, rfl⟩]; rfl) (by rw [tv_s4 _ h12 (by decide), if_pos ⟨rfl, rfl⟩]) (by rw [tv_s4 _ h12 (by decide), tv_s3 _ h12 (by decide), if_neg (by omega), if_neg (by omega), ht.1 5 (by decide), h5]) (by decide) hx.2 (by omega) (by omega) (by omega) ?_ (fun _ => rfl) (fun _ => rfl) (fun k k3 k4 k5 => ?_) (fun k j hne => ?_) ?_ ?_ ?_
  · rw [h1]
    simp only [show (nI 1 = nI 2) = False from by decide, if_false, if_true]
    omega
  · unfold fSta; rw [fA_sA, fA_sA, if_neg k5, if_neg k3]
  · unfold fSta
    rw [fA_sA, fA_sA, sAt_u h12, sAt_u h12]
    by_cases k4 : k = 5
    · rw [if_pos k4, k4, upd_at, if_neg hne]
    · rw [if_neg k4]
      by_cases k3 : k = 3
      · rw [if_pos k3, k3, upd_at, if_neg hne]
      · rw [if_neg k3]
  · unfold fSta
    rw [fA_sA, fA_sA, if_neg (by decide), if_pos rfl, sAt_u h12, upd_at, if_pos rfl]
    rfl
  · unfold fSta
    rw [fA_sA, if_pos rfl, sAt_u h12, upd_at, if_pos rfl]
  · unfold fSta
    rw [fA_sA, fA_sA, if_neg (by decide), if_neg (by decide), hT.2.2.2.2.2, ht.1 5 (by decide), h5]
/-- a crew leaves -/
theorem sto_upd (hM : okM B M) (hF : eqF F M) (hb : b < qN M) (h2 : tv M b 3 = nI 2) : okM B (qSet (qSet M (nI b) 3 1) (nI b) 4 0) ∧ eqF (fSto F (nI b)) (qSet (qSet M (nI b) 3 1) (nI b) 4 0) := by
  have h12 : b < 12 := by have := hM.1.2; omega
  have ht := hM.2.1 b hb
  have hT := hF.1.2.1 b hb
  have h3 : tn M b 3 = 2 := by unfold tn; rw [h2]; exact nI_clamp (by decide)
  have h5 : tn M b 5 = 0 := by
    have := ht.2.2.2.2.2.2.2.2.1
    omega
  refine chg_upd (s := 1) (h := 0) (l := 0) hM hF hb (fun i hi => by rw [lo_s4 _ h12 hi, lo_s3 _ h12 hi]) (fun j hj hne k hk => by rw [tv_s4 _ h12 hk, tv_s3 _ h12 hk, if_neg (by omega), if_neg (by omega)]) (fun k hk => by rw [tv_s4 _ h12 (by omega), tv_s3 _ h12 (by omega), if_neg (by omega), if_neg (by omega)])
    (by rw [tv_s4 _ h12 (by decide), tv_s3 _ h12 (by decide), if_neg (by omega), if_pos ⟨rfl, rfl⟩]; rfl) (by rw [tv_s4 _ h12 (by decide), if_pos ⟨rfl, rfl⟩]; rfl) (by rw [tv_s4 _ h12 (by decide), tv_s3 _ h12 (by decide), if_neg (by omega), if_neg (by omega), ht.1 5 (by decide), h5]) (by decide) (by omega) (by omega) (by omega) (by omega) ?_ (fun _ => rfl) (fun _ => rfl) (fun k k3 k4 k5 => ?_) (fun k j hne => ?_) ?_ ?_ ?_
  · have := hM.2.2.2.1
    rw [h2]
    simp only [if_true, show (1 = 2) = False from by decide, if_false]
    omega
  · unfold fSto; rw [fA_sA, fA_sA, if_neg k5, if_neg k3]
  · unfold fSto
    rw [fA_sA, fA_sA, sAt_u h12, sAt_u h12]
    by_cases k4 : k = 5
    · rw [if_pos k4, k4, upd_at, if_neg hne]
    · rw [if_neg k4]
      by_cases k3 : k = 3
      · rw [if_pos k3, k3, upd_at, if_neg hne]
      · rw [if_neg k3]
  · unfold fSto
    rw [fA_sA, fA_sA, if_neg (by decide), if_pos rfl, sAt_u h12, upd_at, if_pos rfl]
    rfl
  · unfold fSto
    rw [fA_sA, if_pos rfl, sAt_u h12, upd_at, if_pos rfl]
    rfl
  · unfold fSto
    rw [fA_sA, fA_sA, if_neg (by decide), if_neg (by decide), hT.2.2.2.2.2, ht.1 5 (by decide), h5]
/-- a limit -/
theorem lim_upd {l : Nat} (hM : okM B M) (hF : eqF F M) (hb : b < qN M) (h0 : 0 < l → tv M b 3 = nI 0) (hl : l ≤ 91) {x : Int32} (hx : x = nI l - 1) : okM B (qSet M (nI b) 5 (nI l)) ∧ eqF (fChg F (nI b) x) (qSet M (nI b) 5 (nI l)) := by
  have h12 : b < 12 := by have := hM.1.2; omega
  have ht := hM.2.1 b hb
  have hT := hF.1.2.1 b hb
  have h3 : 0 < l → tn M b 3 = 0 := fun z => by unfold tn; rw [h0 z]; exact nI_clamp (by decide)
  refine chg_upd (s := tn M b 3) (h := tn M b 4) (l := l) hM hF hb (fun i hi => lo_s5 _ h12 hi) (fun j hj hne k hk => by rw [tv_s5 _ h12 hk, if_neg (by omega)]) (fun k hk => by rw [tv_s5 _ h12 (by omega), if_neg (by omega)])
    (by rw [tv_s5 _ h12 (by decide), if_neg (by omega)]; exact ht.1 3 (by decide)) (by rw [tv_s5 _ h12 (by decide), if_neg (by omega)]; exact ht.1 4 (by decide)) (by rw [tv_s5 _ h12 (by decide), if_pos ⟨rfl, rfl⟩]) ht.2.2.2.2.2.1 ht.2.2.2.2.2.2.1 hl h3 ht.2.2.2.2.2.2.2.2.2 ?_ (fun _ => rfl) (fun _ => rfl) (fun k k3 k4 k5 => ?_) (fun k j hne => ?_) ?_ ?_ ?_
  · have := hM.2.2.2.1
    rw [ht.1 3 (by decide)]
    by_cases z : tn M b 3 = 2
    · rw [z, if_pos rfl, if_pos rfl]; omega
    · rw [if_neg z]; omega
  · unfold fChg; rw [fA_sA, if_neg k4]
  · unfold fChg
    rw [fA_sA, sAt_u h12]
    by_cases k4 : k = 4
    · rw [if_pos k4, k4, upd_at, if_neg hne]
    · rw [if_neg k4]
  · unfold fChg
    rw [fA_sA, if_neg (by decide), hT.2.2.2.1, ht.1 3 (by decide), nI_1]
  · unfold fChg
    rw [fA_sA, if_neg (by decide), hT.2.2.2.2.1]
    exact ht.1 4 (by decide)
  · unfold fChg
    rw [fA_sA, if_pos rfl, sAt_u h12, upd_at, if_pos rfl]
    exact hx
/-- is it limited -/
theorem curt_eq (hM : okM B M) (hF : eqP F M) (hb : b < qN M) : curt F (nI b) = if tv M b 5 = 0 then false else true := by
  have h12 : b < 12 := by have := hM.1.2; omega
  have ht := hM.2.1 b hb
  have hT := hF.2.1 b hb
  unfold curt
  rw [show inSt F (nI b) 1 = (if tv M b 3 = nI 0 then true else false) from inSt_eq hM hF hb (k := 0) (by decide), vAt_nI h12 (by decide), hT.2.2.2.2.2]
  have e5 := ht.1 5 (by decide)
  have h91 := ht.2.2.2.2.2.2.2.1
  by_cases z : tn M b 5 = 0
  · rw [z] at e5
    rw [e5, if_pos (show nI 0 = 0 from rfl), if_pos (show nI 0 - 1 = -1 by decide)]
    split <;> rfl
  · have h0 : tv M b 3 = nI 0 := by rw [ht.1 3 (by decide), ht.2.2.2.2.2.2.2.2.1 (by omega)]
    rw [if_pos h0, if_pos rfl, e5]
    obtain ⟨k, hk⟩ : ∃ k, tn M b 5 = k + 1 := ⟨tn M b 5 - 1, by omega⟩
    rw [hk, nI_pred, if_neg (fun y => nI_pos (n := k) (by omega) (by rw [y]; decide)), if_neg (nI_ne0 (by omega) (by omega))]
end TURB
