/-! an hour passes -/
section HOURS
variable {B : Nat} {F : FM} {M : Nat → Int32}
/-- a crew works an hour -/
theorem wo1_upd {b : Nat} (hM : okM B M) (hF : eqF F M) (hb : b < qN M) : okM B (qW1 M (nI b)) ∧ eqF (fWo1 F (nI b)) (qW1 M (nI b)) := by
  have h12 := hM.1.2
  have hb12 : b < 12 := by omega
  have ht := hM.2.1 b hb
  have hT := hF.1.2.1 b hb
  have hs : inSt F (nI b) 3 = if tv M b 3 = nI 2 then true else false := inSt_eq hM hF.1 hb (k := 2) (by decide)
  have e5v : vAt 12 (fA F 5) (nI b) = tv M b 4 := by rw [vAt_nI hb12 (by decide)]; exact hT.2.2.2.2.1
  unfold qW1 fWo1
  rw [hs, qT3 hb12]
  by_cases e : tv M b 3 = nI 2
  · have e' : tv M b 3 = 2 := e
    have h3 : tn M b 3 = 2 := by unfold tn; rw [e]; exact nI_clamp (by decide)
    have h4 : 1 ≤ tn M b 4 := ht.2.2.2.2.2.2.2.2.2 h3
    have h4' := ht.2.2.2.2.2.2.1
    have h5 : tn M b 5 = 0 := by have := ht.2.2.2.2.2.2.2.2.1; omega
    have e4 : tv M b 4 = nI (tn M b 4) := ht.1 4 (by decide)
    obtain ⟨k, hk⟩ : ∃ k, tn M b 4 = k + 1 := ⟨tn M b 4 - 1, by omega⟩
    have e4k : tv M b 4 - 1 = nI k := by rw [e4, hk, nI_pred]
    have q4 : qT (qSet M (nI b) 4 (nI k)) (nI b) 4 = nI k := by
      rw [qT4 hb12, tv_s4 _ hb12 (by decide)]
      exact if_pos ⟨rfl, rfl⟩
    rw [if_pos e, if_pos rfl, if_pos e', e5v, qT4 hb12, e4k, q4]
    have lo : ∀ v i, i < 57 → qSet (qSet M (nI b) 4 (nI k)) (nI b) 3 v i = M i := fun v i hi => by rw [lo_s3 _ hb12 hi, lo_s4 _ hb12 hi]
    have oth : ∀ v j, j < qN M → j ≠ b → ∀ w, w < 6 → tv (qSet (qSet M (nI b) 4 (nI k)) (nI b) 3 v) j w = tv M j w := fun v j hj hne w hw => by
      rw [tv_s3 _ hb12 hw, if_neg (fun z => hne z.1), tv_s4 _ hb12 hw, if_neg (fun z => hne z.1)]
    have t012 : ∀ v w, w < 3 → tv (qSet (qSet M (nI b) 4 (nI k)) (nI b) 3 v) b w = tv M b w := fun v w hw => by
      rw [tv_s3 _ hb12 (by omega), if_neg (by omega), tv_s4 _ hb12 (by omega), if_neg (by omega)]
    have t3 : ∀ v, tv (qSet (qSet M (nI b) 4 (nI k)) (nI b) 3 v) b 3 = v := fun v => by rw [tv_s3 _ hb12 (by decide)]; exact if_pos ⟨rfl, rfl⟩
    have t4 : ∀ v, tv (qSet (qSet M (nI b) 4 (nI k)) (nI b) 3 v) b 4 = nI k := fun v => by rw [tv_s3 _ hb12 (by decide), if_neg (by omega), tv_s4 _ hb12 (by decide)]; exact if_pos ⟨rfl, rfl⟩
    have t5 : ∀ v, tv (qSet (qSet M (nI b) 4 (nI k)) (nI b) 3 v) b 5 = nI 0 := fun v => by rw [tv_s3 _ hb12 (by decide), if_neg (by omega), tv_s4 _ hb12 (by decide), if_neg (by omega), ht.1 5 (by decide), h5]
    by_cases z : k = 0
    · subst z
      rw [if_pos (show nI 0 = 0 from rfl)]
      refine chg_upd (s := 0) (h := 0) (l := 0) hM hF hb (lo 0) (oth 0) (t012 0) (t3 0) (t4 0) (t5 0) (by decide) (by omega) (by omega) (by omega) (by omega) ?_ (fun _ => rfl) (fun _ => rfl) (fun k k3 k4 k5 => ?_) (fun k j hne => ?_) ?_ ?_ ?_
      · have := hM.2.2.2.1
        rw [e]
        simp only [if_true, show (0 = 2) = False from by decide, if_false]
        omega
      · rw [if_pos (show nI 0 = 0 from rfl), fA_sA, if_neg k3, fA_sA, if_neg k5]
      · rw [if_pos (show nI 0 = 0 from rfl), fA_sA, fA_sA, sAt_u hb12, sAt_u hb12]
        by_cases k3 : k = 3
        · rw [if_pos k3, k3, upd_at, if_neg hne]
        · rw [if_neg k3]
          by_cases k5 : k = 5
          · rw [if_pos k5, k5, upd_at, if_neg hne]
          · rw [if_neg k5]
      · rw [if_pos (show nI 0 = 0 from rfl), fA_sA, if_pos rfl, sAt_u hb12, upd_at, if_pos rfl]
        rfl
      · rw [if_pos (show nI 0 = 0 from rfl), fA_sA, if_neg (by decide), fA_sA, if_pos rfl, sAt_u hb12, upd_at, if_pos rfl]
      · rw [if_pos (show nI 0 = 0 from rfl), fA_sA, if_neg (by decide), fA_sA, if_neg (by decide), hT.2.2.2.2.2, ht.1 5 (by decide), h5]
    · have hz : ¬ nI k = 0 := nI_ne0 (by omega) (by omega)
      rw [if_neg hz]
      refine chg_upd (s := 2) (h := k) (l := 0) hM hF hb (lo 2) (oth 2) (t012 2) (t3 2) (t4 2) (t5 2) (by decide) (by omega) (by omega) (by omega) (by omega) ?_ (fun _ => ?_) (fun _ => ?_) (fun k k3 k4 k5 => ?_) (fun k j hne => ?_) ?_ ?_ ?_
      · have := hM.2.2.2.1
        rw [e]
        simp only [if_true]
        omega
      · rw [if_neg hz]; rfl
      · rw [if_neg hz]; rfl
      · rw [if_neg hz, fA_sA, if_neg k5]
      · rw [if_neg hz, fA_sA, sAt_u hb12]
        by_cases k5 : k = 5
        · rw [if_pos k5, k5, upd_at, if_neg hne]
        · rw [if_neg k5]
      · rw [if_neg hz, fA_sA, if_neg (by decide), hT.2.2.2.1, e]
        rfl
      · rw [if_neg hz, fA_sA, if_pos rfl, sAt_u hb12, upd_at, if_pos rfl]
      · rw [if_neg hz, fA_sA, if_neg (by decide), hT.2.2.2.2.2, ht.1 5 (by decide), h5]
  · rw [if_neg e, if_neg Bool.false_ne_true, if_neg (show ¬ tv M b 3 = 2 from e)]
    exact ⟨hM, hF⟩
theorem wos_upd (hM : okM B M) (hF : eqF F M) : ∀ k, k ≤ qN M → okM B (qWs M k) ∧ eqF (fWos F k) (qWs M k)
  | 0, _ => ⟨hM, hF⟩
  | k + 1, h => by
    obtain ⟨a1, a2⟩ := wos_upd hM hF k (by omega)
    have hn : qN (qWs M k) = qN M := qN_of (qWs_lo (by decide) k (by have := hM.1.2; omega))
    unfold qWs fWos
    exact wo1_upd a1 a2 (by omega)
theorem hi_qW1 {M : Nat → Int32} {b : Nat} (hb : b < 12) : hiE M (qW1 M (nI b)) := by
  unfold qW1
  split
  · exact (hi_s4 _ hb).tr (hi_s3 _ hb)
  · exact hiE.rf
theorem hi_qWs {M : Nat → Int32} : ∀ k, k ≤ 12 → hiE M (qWs M k)
  | 0, _ => hiE.rf
  | k + 1, h => (hi_qWs k (by omega)).tr (hi_qW1 (by omega))
theorem qT_hi {M M' : Nat → Int32} (h : ∀ i, 57 ≤ i → M' i = M i) {j w : Nat} (hj : j < 12) (hw : w < 6) : qT M' (nI j) (nI w) = qT M (nI j) (nI w) := by
  rw [qT_nI M' hj hw, qT_nI M hj hw]
  exact h _ (by omega)
theorem qSet_ext {M M' : Nat → Int32} (h : ∀ i, 57 ≤ i → M' i = M i) (t w v : Int32) : ∀ i, 57 ≤ i → qSet M' t w v i = qSet M t w v i := by
  intro i hi
  unfold qSet upd
  rw [h i hi]
theorem qW1_ext {M M' : Nat → Int32} (h : ∀ i, 57 ≤ i → M' i = M i) {j : Nat} (hj : j < 12) : ∀ i, 57 ≤ i → qW1 M' (nI j) i = qW1 M (nI j) i := by
  intro i hi
  have e3 : qT M' (nI j) 3 = qT M (nI j) 3 := qT_hi (w := 3) h hj (by decide)
  have e4 : qT M' (nI j) 4 = qT M (nI j) 4 := qT_hi (w := 4) h hj (by decide)
  have h2 := qSet_ext h (nI j) 4 (qT M (nI j) 4 - 1)
  have e5 : qT (qSet M' (nI j) 4 (qT M (nI j) 4 - 1)) (nI j) 4 = qT (qSet M (nI j) 4 (qT M (nI j) 4 - 1)) (nI j) 4 := qT_hi (w := 4) h2 hj (by decide)
  unfold qW1
  rw [e3, e4, e5]
  by_cases e : qT M (nI j) 3 = 2
  · rw [if_pos e, if_pos e]
    exact qSet_ext h2 _ _ _ i hi
  · rw [if_neg e, if_neg e]
    exact h i hi
theorem qWs_ext {M M' : Nat → Int32} (h : ∀ i, 57 ≤ i → M' i = M i) : ∀ k, k ≤ 12 → ∀ i, 57 ≤ i → qWs M' k i = qWs M k i
  | 0, _ => h
  | k + 1, hk => by
    unfold qWs
    exact qW1_ext (qWs_ext h k (by omega)) (by omega)
theorem inSt_A {F G : FM} (h : ∀ k, fA G k = fA F k) (t s : Int32) : inSt G t s = inSt F t s := by unfold inSt; rw [h]
theorem fWo1_A {F G : FM} (h : ∀ k, fA G k = fA F k) (t : Int32) : (∀ k, fA (fWo1 G t) k = fA (fWo1 F t) k) ∧ ∀ k, fL (fWo1 G t) k = fL G k := by
  unfold fWo1
  rw [inSt_A h, h 5, h 3]
  by_cases e : inSt F t 3 = true
  · rw [if_pos e, if_pos e]
    by_cases e2 : vAt 12 (fA F 5) t - 1 = 0
    · rw [if_pos e2, if_pos e2]
      exact ⟨fun k => by rw [fA_sA, fA_sA, fA_sA, fA_sA, h k], fun k => rfl⟩
    · rw [if_neg e2, if_neg e2]
      exact ⟨fun k => by rw [fA_sA, fA_sA, h k], fun k => rfl⟩
  · rw [if_neg e, if_neg e]
    exact ⟨h, fun _ => rfl⟩
theorem fWos_A {F G : FM} (h : ∀ k, fA G k = fA F k) : ∀ n, (∀ k, fA (fWos G n) k = fA (fWos F n) k) ∧ ∀ k, fL (fWos G n) k = fL G k
  | 0 => ⟨h, fun _ => rfl⟩
  | n + 1 => by
    obtain ⟨h1, h2⟩ := fWos_A h n
    obtain ⟨h3, h4⟩ := fWo1_A h1 (nI n)
    exact ⟨h3, fun k => (h4 k).trans (h2 k)⟩
/-- the accounts and the time, on top of what the crews did -/
theorem acc_upd {F' : FM} {M' : Nat → Int32} {t : Nat} (hM : okM B M) (hF : eqF F M) (h4 : M 4 = nI t) (ht : t < 2 ^ 31) (hg : ∀ i, (i < 4 ∨ 8 < i) → M' i = M i) (h4' : M' 4 = nI (t + 1)) (hA' : okA M' (t + 1)) (hE : eqA F' M') (hI : ∀ k, k ≠ 4 → fI F' k = fI F k) (hI4 : fI F' 4 = M' 4) (hA : ∀ k, fA F' k = fA F k) : okM (B + 1) M' ∧ eqF F' M' := by
  obtain ⟨h1, h2, h3, h4x, h5, h6, h7, ⟨t', b1, b2, -⟩, h9⟩ := hM
  obtain ⟨⟨p1, p2, p3⟩, f1, f2, f3, f4, f5, f6, f7, f8⟩ := hF
  have h12 := h1.2
  have g0 := hg 0 (by omega)
  have g1 := hg 1 (by omega)
  have g2 := hg 2 (by omega)
  have g3 := hg 3 (by omega)
  have hn : qN M' = qN M := qN_of g0
  have hT : ∀ j k, tv M' j k = tv M j k := fun j k => hg _ (by omega)
  have hy : wy M' = wy M := by unfold wy; rw [g1]
  refine ⟨⟨wM_of h1 g0, fun j hj => okT_congr (fun k _ => hT j k) (h2 j (by omega)), fun i j hi hj e1 e2 => ?_, by rw [hn, cnt_congr _ (fun j _ => hT j 3)]; exact h4x, by rw [hy, g1]; exact h5, by rw [g2]; exact h6, by rw [g3]; exact h7, ⟨t + 1, ?_, h4', hA'⟩, fun x hx => ?_⟩, ⟨by rw [hI 0 (by decide), g0]; exact p1, fun j hj => ?_, fun x y hx hy => ?_⟩, by rw [hI 1 (by decide), g1]; exact f1, by rw [hI 2 (by decide), g2]; exact f2, by rw [hI 3 (by decide), g3]; exact f3, hI4, fun j hj hj2 => by rw [hA]; exact f5 j (by omega) hj2, fun x hx => ?_, hE, fun k hk i hi => by rw [hA]; exact f8 k hk i hi⟩
  · rw [hT, hT] at e1 e2
    exact h3 i j (by omega) (by omega) e1 e2
  · rcases Nat.lt_or_ge t' (2 ^ 31) with q | q
    · rw [h4] at b2
      have := nI_inj3 ht q b2
      omega
    · omega
  · obtain ⟨p, u, c1, c2, c3⟩ := h9 x hx
    exact ⟨p, u, (hg _ (by omega)).trans c1, (hg _ (by omega)).trans c2, c3⟩
  · have q := p2 j (by omega)
    unfold eqT
    rw [hA, hA, hA, hA, hA, hA, hT, hT, hT, hT, hT, hT]
    exact q
  · rw [hA, qIn_congr h1 g0 (fun j hj => ⟨hT j 0, hT j 1⟩)]
    exact p3 x y hx hy
  · rw [hA, hA]
    exact ⟨(f6 x hx).1.trans (hg _ (by omega)).symm, (f6 x hx).2.trans (hg _ (by omega)).symm⟩
theorem i64_of {c : Int} (h1 : -2147483648 ≤ c) (h2 : c ≤ 2147483647) : (Int32.ofInt c).toInt64 = Int64.ofInt c := Int32.toInt64_ofInt (by rw [show Int32.minValue.toInt = -2147483648 from by decide]; exact h1) (by rw [show Int32.maxValue.toInt = 2147483647 from by decide]; exact h2)
theorem nI_int (n : Nat) : nI n = Int32.ofInt n := Int32.ofInt_eq_ofNat.symm
theorem coin_d (p d u : Nat) : nI p * (nI d - (nI u - nI d)) = Int32.ofInt ((p : Int) * (2 * d - u)) ∧ nI d * nI p - (nI u - nI d) * nI p = Int32.ofInt ((p : Int) * (2 * d - u)) := by
  rw [nI_int p, nI_int d, nI_int u]
  constructor
  · rw [← Int32.ofInt_sub, ← Int32.ofInt_sub, ← Int32.ofInt_mul]
    congr 2
    omega
  · rw [← Int32.ofInt_mul, ← Int32.ofInt_sub, ← Int32.ofInt_mul, ← Int32.ofInt_sub]
    congr 1
    rw [Int.sub_mul, Int.mul_sub, Int.mul_comm (d : Int) p, Int.mul_comm (u : Int) p, ← Int.mul_assoc, Int.mul_comm (p : Int) 2, Int.mul_assoc]
    omega
theorem coin_b {p d u : Nat} (hp : p ≤ 50) (hd : d ≤ u) (hu : u ≤ 500) : -25000 ≤ (p : Int) * (2 * d - u) ∧ (p : Int) * (2 * d - u) ≤ 25000 := by
  have h1 : (2 * (d : Int) - u) ≤ 500 := by omega
  have h2 : -500 ≤ (2 * (d : Int) - u) := by omega
  have h0 : (0 : Int) ≤ p := Int.natCast_nonneg p
  have a := Int.mul_le_mul_of_nonneg_left h1 h0
  have b := Int.mul_le_mul_of_nonneg_left h2 h0
  omega
theorem hour_upd (hM : okM B M) (hF : eqF F M) (hB : B ≤ 80000) : okM (B + 1) (qPs M) ∧ eqF (fHr F) (qPs M) := by
  obtain ⟨s1, s2⟩ := sum_cur hM hF _ (Nat.le_refl _)
  have hT := tot_cur hM hF
  have h12 := hM.1.2
  obtain ⟨t, ht, h4, m, l, s, c, a5, a6, a7, a8, al, am, ac1, ac2⟩ := hM.2.2.2.2.2.2.2.1
  obtain ⟨p, u, q1, q2, q3, q4, q5, q6, q7, -⟩ := bid_eq hM hF (x := t % 24) (Nat.mod_lt _ (by decide))
  obtain ⟨w1, w2⟩ := wos_upd hM hF _ (Nat.le_refl _)
  obtain ⟨E, hE⟩ : ∃ E, E = tot M (qN M) := ⟨_, rfl⟩
  have hhr : qHr M = nI (t % 24) := by unfold qHr; rw [h4]; exact hr_nI (by omega)
  have hhf : hr' F = nI (t % 24) := by unfold hr'; rw [hF.2.2.2.2.1, h4]; exact hr_nI (by omega)
  have e20 : nI E / 20 = nI (E / 20) := pk_div (d := 20) (by omega) (by decide) (by decide)
  have er : nI E - nI (E / 20) = nI (E - E / 20) := pk_sub (by omega)
  obtain ⟨d, hd⟩ : ∃ d, d = min u (E - E / 20) := ⟨_, rfl⟩
  have hdel : del' F (nI E) = nI d := by
    unfold del'
    rw [hhf, q7, e20, er]
    by_cases z : u < E - E / 20
    · rw [if_pos (nI_lt z (by omega)), hd, Nat.min_eq_left (by omega)]
    · rw [if_neg (nI_nlt (by omega) (by omega)), hd, Nat.min_eq_right (by omega)]
  have hso : qSo M (nI E) = nI d := by
    unfold qSo
    rw [hhr, q5, e20, er]
    by_cases z : u ≤ E - E / 20
    · rw [if_pos (nI_le z (by omega)), hd, Nat.min_eq_left z]
    · rw [if_neg (nI_ge (by omega) (by omega)), hd, Nat.min_eq_right (by omega)]
  have hdu : d ≤ u := by rw [hd]; exact Nat.min_le_left _ _
  have hdr : d ≤ E - E / 20 := by rw [hd]; exact Nat.min_le_right _ _
  obtain ⟨cd1, cd2⟩ := coin_d p d u
  obtain ⟨cb1, cb2⟩ := coin_b q1 hdu q2
  obtain ⟨dl, hdl⟩ : ∃ dl, dl = (p : Int) * (2 * d - u) := ⟨_, rfl⟩
  rw [← hdl] at cd1 cd2 cb1 cb2
  -- the reference's row behind the hour
  have hqs : qPs M = upd (qWs (qAc M (nI E)) (qN M)) 4 (nI (t + 1)) := by
    unfold qPs
    rw [s2, ← hE, h4, nI_1]
  have hac : ∀ i, 57 ≤ i → qAc M (nI E) i = M i := fun i hi => by unfold qAc; rw [u_ne (by omega), u_ne (by omega), u_ne (by omega), u_ne (by omega)]
  have c5 : qPs M 5 = nI (m + E) := by
    rw [hqs, u_ne (by decide), qWs_lo (by decide) _ h12]
    show M 5 + nI E = _
    rw [a5, nI_add]
  have c6 : qPs M 6 = nI (l + E / 20) := by
    rw [hqs, u_ne (by decide), qWs_lo (by decide) _ h12]
    show M 6 + nI E / 20 = _
    rw [a6, e20, nI_add]
  have c7 : qPs M 7 = nI (s + d) := by
    rw [hqs, u_ne (by decide), qWs_lo (by decide) _ h12]
    show M 7 + qSo M (nI E) = _
    rw [a7, hso, nI_add]
  have c8 : qPs M 8 = Int32.ofInt (c + dl) := by
    rw [hqs, u_ne (by decide), qWs_lo (by decide) _ h12]
    show M 8 + (qSo M (nI E) * qPr M (qHr M) - (qQu M (qHr M) - qSo M (nI E)) * qPr M (qHr M)) = _
    rw [a8, hso, hhr, q4, q5, cd2, ← Int32.ofInt_add]
  have hgg : ∀ i, (i < 4 ∨ 8 < i) → qPs M i = qWs M (qN M) i := by
    intro i hi
    rw [hqs, u_ne (by omega)]
    rcases Nat.lt_or_ge i 57 with q | q
    · rw [qWs_lo q _ h12, qWs_lo q _ h12]
      unfold qAc
      rw [u_ne (by omega), u_ne (by omega), u_ne (by omega), u_ne (by omega)]
    · exact qWs_ext hac _ h12 i q
  have hsum : sumI F (fI F 1) (fI F 2) (fN F) = nI E := by rw [fN_eq hF.1, s1, hE]
  have hfh : fHr F = sI (fWos (fAcc F (nI E)) (qN M)) 4 (nI (t + 1)) := by
    unfold fHr
    rw [hsum, fN_eq hF.1, hF.2.2.2.2.1, h4, nI_1]
  obtain ⟨fa1, fa2⟩ := fWos_A (F := F) (G := fAcc F (nI E)) (fun _ => rfl) (qN M)
  have hm : m + E < 2 ^ 31 := by omega
  obtain ⟨b0, b1, b2, b3, b4⟩ := hF.2.2.2.2.2.2.2.1
  refine acc_upd w1 w2 (t := t) (by rw [qWs_lo (by decide) _ h12]; exact h4) (by omega) hgg (by rw [hqs, u_eq]) ⟨m + E, l + E / 20, s + d, c + dl, c5, c6, c7, c8, by omega, by omega, by omega, by omega⟩ ⟨?_, ?_, ?_, ?_, ?_⟩ (fun k hk => ?_) ?_ (fun k => ?_)
  · rw [hfh, fL_sI, fa2, c5, nI_l (by omega)]
    show fL F 0 + (nI E).toInt64 = _
    rw [b0, a5, nI_l (by omega), nI_l (by omega), lN_add]
  · rw [hfh, fL_sI, fa2, c6, nI_l (by omega)]
    show fL F 1 + (nI E / 20).toInt64 = _
    rw [b1, a6, e20, nI_l (by omega), nI_l (by omega), lN_add]
  · rw [hfh, fL_sI, fa2, c7, nI_l (by omega)]
    show fL F 2 + (del' F (nI E)).toInt64 = _
    rw [hdel, b2, a7, nI_l (by omega), nI_l (by omega), lN_add]
  · rw [hfh, fL_sI, fa2, c5, c6, c7, pk_sub (by omega), pk_sub (by omega), nI_l (by omega)]
    show fL F 3 + (nI E - nI E / 20 - del' F (nI E)).toInt64 = _
    rw [hdel, b3, a5, a6, a7, pk_sub (by omega), pk_sub (by omega), e20, er, pk_sub hdr, nI_l (by omega), nI_l (by omega), lN_add]
    congr 1
    omega
  · rw [hfh, fL_sI, fa2, c8]
    show fL F 4 + (vAt 24 (fA F 7) (hr' F) * (del' F (nI E) - (vAt 24 (fA F 8) (hr' F) - del' F (nI E)))).toInt64 = _
    rw [hhf, q6, q7, hdel, cd1, b4, a8, i64_of (by omega) (by omega), i64_of (by omega) (by omega), i64_of (by omega) (by omega), Int64.ofInt_add]
  · rw [hfh, fI_sI, if_neg hk, fWos_I, fWos_I]
    rfl
  · rw [hfh, hqs, u_eq, fI_sI, if_pos rfl]
  · rw [hfh, fA_sI, fa1]
theorem hours_upd (hM : okM B M) (hF : eqF F M) : ∀ k, B + k ≤ 80000 → okM (B + k) (qPas M k) ∧ eqF (fPas F k) (qPas M k) ∧ hiE M (qPas M k)
  | 0, _ => ⟨hM, hF, hiE.rf⟩
  | k + 1, h => by
    obtain ⟨a1, a2, a3⟩ := hours_upd hM hF k (by omega)
    obtain ⟨b1, b2⟩ := hour_upd a1 a2 (by omega)
    have h12 := a1.1.2
    refine ⟨b1, b2, a3.tr ?_⟩
    show hiE (qPas M k) (qPs (qPas M k))
    intro i hi
    unfold qPs
    rw [u_ne (by omega)]
    rw [hi_qWs (M := qAc (qPas M k) (qTo (qPas M k) (qN (qPas M k)))) _ h12 i hi]
    unfold qAc
    rw [u_ne (by omega), u_ne (by omega), u_ne (by omega), u_ne (by omega)]
theorem st_hours {Q : MM} (hM : okM B (mM Q)) (hF : eqF F (mM Q)) (hB : B + 48 ≤ 80000) (a y z : Int32) : step (B + 48) Q (qPh Q a) (jud F 116 a y z) (det F (jud F 116 a y z) a y) (fCar F 116 a y z).1 (fCar F 116 a y z).2 := by
  rw [jud_116, car_116]
  unfold qPh
  rcases b_tf (b := wIn a 1 48) with h | h
  · obtain ⟨x, x1, x2, x3, rfl⟩ := wIn_nat (a := 1) (b := 48) h (by decide)
    obtain ⟨a1, a2, a3⟩ := hours_upd hM hF x (by omega)
    rw [if_pos h, if_pos h, nI_clamp (by omega)]
    refine step.ok rfl rfl (okM_mono a1 (by omega)) a2 ?_ (kq_M Q a3)
    show qPas (mM Q) x 7 - mM Q 7 = (fL (fPas F x) 2 - fL F 2).toInt32
    obtain ⟨-, -, e1, -, -⟩ := a2.2.2.2.2.2.2.2.1
    obtain ⟨-, -, e2, -, -⟩ := hF.2.2.2.2.2.2.2.1
    rw [e1, e2]
    simp
  · rw [if_neg (ntrue h), if_neg (ntrue h)]
    exact step.bad rfl rfl
end HOURS
