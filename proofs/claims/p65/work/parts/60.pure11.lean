/-! the other answers: undo, the snapshot, forecasts, rejections, text, numbers with a point -/
section MORE
variable {B q : Nat} {D : DM} {Q : MM}
theorem Rel.rd (h : Rel B q D Q) {ns : List String} {o : RO} {r : MM × Int32} (hr : rdr ns o r Q) : Rel B q D r.1 ∧ agr ns o (mI r.1 0) r.2 := by
  obtain ⟨k, h1, h2⟩ := hr
  rw [h1]
  exact ⟨h.thr k, h2⟩
theorem rd_rr (h : Rel B q D Q) : rdr [eN] (if dI D 2 = 0 then .inr eN else .inl (some (.int (dI D 2)))) (qNz Q (mI Q 5) (mI Q 5)) Q := by
  obtain ⟨e1, e2, e3, e4⟩ := h.2.2.2.2.1
  unfold qNz
  rw [e1]
  by_cases z : mI Q 5 = 0
  · rw [if_pos z, if_pos z]; exact rdr.no 0 eN rfl rfl
  · rw [if_neg z, if_neg z]; exact rdr.ok rfl rfl
theorem rd_rd (h : Rel B q D Q) : rdr [eN] (if dI D 2 = 0 then .inr eN else .inl (some (.int (dI D 3)))) (qNz Q (mI Q 5) (mI Q 6)) Q := by
  obtain ⟨e1, e2, e3, e4⟩ := h.2.2.2.2.1
  unfold qNz
  rw [e1, e2]
  by_cases z : mI Q 5 = 0
  · rw [if_pos z, if_pos z]; exact rdr.no 0 eN rfl rfl
  · rw [if_neg z, if_neg z]; exact rdr.ok rfl rfl
theorem rd_cr (h : Rel B q D Q) : rdr [eN] (if dI D 2 = 10 then .inl (some (.int (dI D 4))) else .inr eN) (qNz Q (mI Q 7) (mI Q 7)) Q := by
  obtain ⟨e1, e2, e3, e4⟩ := h.2.2.2.2.1
  unfold qNz
  rw [e1, e3]
  by_cases z : mI Q 5 = 10
  · rw [if_pos z, if_neg (fun y => e4.mp y z)]; exact rdr.ok rfl rfl
  · rw [if_neg z, if_pos (e4.mpr z)]; exact rdr.no 0 eN rfl rfl
theorem rd_se (h : Rel B q D Q) : rdr [eN] (if dI D 1 < 0 then .inr eN else .inl (some (.int (dI D 1)))) (if mI Q 14 = -1 then qR Q 1 0 else qR Q 0 (mI Q 14)) Q := by
  obtain ⟨e1, e2⟩ := h.2.2.2.2.2.1
  rw [e1]
  rcases e2 with z | ⟨p, p1, p2⟩
  · rw [z, if_pos (by decide), if_pos rfl]; exact rdr.no 0 eN rfl rfl
  · rw [p2, if_neg (nI_pos (by omega)), if_neg (fun y => nI_pos (n := p) (by omega) (by rw [y]; decide))]; exact rdr.ok rfl rfl
theorem un_ch (h : Rel B q D Q) : ¬ dI D 6 ≤ 0 → isCh (fI (dF D (3 + (hJ D + 7) % 8)) 1) := by
  intro hn
  obtain ⟨s, s1, s2, s3, s4⟩ := h.2.2.1
  rw [s3] at hn
  have hs : 0 < s := by
    rcases Nat.eq_zero_or_pos s with z | z
    · rw [z] at hn; exact absurd (by decide) hn
    · exact z
  have := (s4 0 hs).2.2.1
  rw [show hJ D + 7 - 0 = hJ D + 7 by omega] at this
  rw [this]
  exact isCh_sgn _
theorem un_rel (h : Rel B q D Q) : Rel B q (zUn D).2 (qUn Q).1 ∧ agr [eS] (zUn D).1 (mI (qUn Q).1 0) (qUn Q).2 := by
  have h0 := h
  obtain ⟨⟨a1, a2, a3, a4, a5⟩, ⟨b1, b2⟩, ⟨s, s1, s2, s3, s4⟩, d, e, f, g, o⟩ := h
  unfold zUn qUn
  rw [s2, s3]
  by_cases z : s = 0
  · subst z
    rw [if_pos (by decide), if_pos (by decide)]
    exact ⟨h0.thr _, Or.inr ⟨0, eS, rfl, rfl, rfl⟩⟩
  · have hn : ¬ nI s ≤ 0 := nI_nle (by omega) (by omega)
    obtain ⟨t1, t2⟩ := s4 0 (by omega)
    rw [show hJ D + 7 - 0 = hJ D + 7 by omega, Nat.sub_zero] at t2
    rw [Nat.sub_zero] at t1
    obtain ⟨k, hk⟩ : ∃ k, s = k + 1 := ⟨s - 1, by omega⟩
    rw [if_neg hn, if_neg hn, nI_clamp (by omega), show nI s - 1 = nI (s - 1) by rw [hk, nI_pred, Nat.add_sub_cancel]]
    have e0 : ∀ i, i < 129 → cpM (mM Q) s 0 i = blk (mM Q) s i := fun i hi => cp_0 _ _ hi
    have eb : ∀ k, 1 ≤ k → ∀ i, i < 129 → blk (cpM (mM Q) s 0) k i = blk (mM Q) k i := fun k k1 i hi => by rw [blk_cp _ _ _ _ hi, if_neg (by omega)]
    have hj : hJ (hTb D (hJ D)) = (hJ D + 7) % 8 := by
      show (nI ((hJ D + 7) % 8)).toNatClampNeg = _
      exact nI_clamp (by omega)
    have eF : ∀ k, dF (hTb D (hJ D)) k = if k = 0 then dF D (3 + (hJ D + 7) % 8) else dF D k := fun k => rfl
    refine ⟨⟨⟨fun i hi => ?_, ?_, ?_, a4, a5⟩, ⟨okM_congr e0 t1, ?_⟩, ⟨s - 1, by omega, rfl, ?_, fun i hi => ?_⟩, d.row rfl rfl rfl (eb 9 (by omega)), e, f, g, o⟩, Or.inl ⟨?_, rfl⟩⟩
    · rw [eF]
      by_cases y : i = 0
      · rw [if_pos y]; exact a1 _ (by omega)
      · rw [if_neg y]; exact a1 i hi
    · rw [hj]; rfl
    · rw [hj]; omega
    · rw [eF, if_pos rfl]; exact eqF_congr e0 t1 t2
    · show dI D 6 - 1 = _
      rw [s3, hk, nI_pred, Nat.add_sub_cancel]
    · obtain ⟨x1, x2⟩ := s4 (i + 1) (by omega)
      have ee : ∀ j, j < 129 → blk (cpM (mM Q) s 0) (s - 1 - i) j = blk (mM Q) (s - (i + 1)) j := fun j hj => by rw [eb _ (by omega) j hj, show s - 1 - i = s - (i + 1) by omega]
      rw [hj, eF, if_neg (by omega), show ((hJ D + 7) % 8 + 7 - i) % 8 = (hJ D + 7 - (i + 1)) % 8 by omega]
      exact ⟨okM_congr ee x1, eqF_congr ee x1 x2⟩
    · rfl
theorem sv_rel (h : Rel B q D Q) : Rel B q (zSv D).2 (qSv Q).1 ∧ agr [] (zSv D).1 (mI (qSv Q).1 0) (qSv Q).2 := by
  obtain ⟨⟨a1, a2, a3, a4, a5⟩, ⟨b1, b2⟩, c, d, e, f, g, o⟩ := h
  have e0 : ∀ i, i < 129 → cpM (mM Q) 0 9 i = mM Q i := fun i hi => cp_lo _ _ (by omega) hi
  have e9 : ∀ i, i < 129 → blk (cpM (mM Q) 0 9) 9 i = mM Q i := fun i hi => by rw [blk_cp _ _ _ _ hi, if_pos rfl, blk_0]
  have eb : ∀ k, 1 ≤ k → k ≤ 8 → ∀ i, i < 129 → blk (cpM (mM Q) 0 9) k i = blk (mM Q) k i := fun k k1 k2 i hi => by rw [blk_cp _ _ _ _ hi, if_neg (by omega)]
  have eF : ∀ k, dF (sD (sF D 2 (dF D 0)) 0 1) k = if k = 2 then dF D 0 else dF D k := fun k => rfl
  unfold zSv qSv
  refine ⟨⟨⟨fun i hi => ?_, a2, a3, a4, a5⟩, ⟨okM_congr e0 b1, eqF_congr e0 b1 b2⟩, c.row rfl rfl rfl (fun k hk => by rw [eF, if_neg (by omega)]) eb, ⟨true, rfl, rfl, fun _ => ?_⟩, e, f, g, o⟩, Or.inl ⟨?_, rfl⟩⟩
  · rw [eF]
    by_cases y : i = 2
    · rw [if_pos y]; exact a1 _ (by omega)
    · rw [if_neg y]; exact a1 i hi
  · rw [eF, if_pos rfl]
    exact ⟨okM_congr e9 b1, eqF_congr e9 b1 b2⟩
  · rw [b2.1.1]
theorem rs_ch (h : Rel B q D Q) : ¬ dI D 0 = 0 → isCh (fI (dF D 2) 1) := by
  intro hn
  obtain ⟨v, v1, v2, v3⟩ := h.2.2.2.1
  cases v with
  | false => exact absurd v2 hn
  | true => rw [(v3 rfl).2.2.1]; exact isCh_sgn _
theorem rs_rel (h : Rel B q D Q) : Rel B q (zRs D).2 (qRs Q).1 ∧ agr [eS] (zRs D).1 (mI (qRs Q).1 0) (qRs Q).2 := by
  have h0 := h
  obtain ⟨⟨a1, a2, a3, a4, a5⟩, ⟨b1, b2⟩, ⟨s, s1, s2, s3, s4⟩, ⟨v, v1, v2, v3⟩, e, f, g, o⟩ := h
  unfold zRs qRs
  rw [v1, v2]
  cases v with
  | false =>
    rw [if_pos (show b2i false = 0 from rfl), if_pos (show b2i false = 0 from rfl)]
    exact ⟨h0.thr _, Or.inr ⟨0, eS, rfl, rfl, rfl⟩⟩
  | true =>
    obtain ⟨t1, t2⟩ := v3 rfl
    have e0 : ∀ i, i < 129 → cpM (mM Q) 9 0 i = blk (mM Q) 9 i := fun i hi => cp_0 _ _ hi
    have eb : ∀ i, i < 129 → blk (cpM (mM Q) 9 0) 9 i = blk (mM Q) 9 i := fun i hi => by rw [blk_cp _ _ _ _ hi, if_neg (by omega)]
    have eF : ∀ k, dF (sD (sF D 0 (dF D 2)) 6 0) k = if k = 0 then dF D 2 else dF D k := fun k => rfl
    rw [if_neg (by decide), if_neg (by decide)]
    refine ⟨⟨⟨fun i hi => ?_, a2, a3, a4, a5⟩, ⟨okM_congr e0 t1, ?_⟩, ⟨0, by omega, rfl, rfl, fun i hi => absurd hi (by omega)⟩, ⟨true, v1, v2, fun _ => ⟨okM_congr eb t1, ?_⟩⟩, e, f, g, o⟩, Or.inl ⟨?_, rfl⟩⟩
    · rw [eF]
      by_cases y : i = 0
      · rw [if_pos y]; exact a1 _ (by omega)
      · rw [if_neg y]; exact a1 i hi
    · rw [eF, if_pos rfl]; exact eqF_congr e0 t1 t2
    · rw [eF, if_neg (by decide)]; exact eqF_congr eb t1 t2
    · rw [t2.1.1]; rfl
theorem in_rel (h : Rel B q D Q) (hB : B + 48 ≤ 80000) (x : Int32) : Rel B q (zIn D x).2 (qInc Q x).1 ∧ agr [eA] (zIn D x).1 (mI (qInc Q x).1 0) (qInc Q x).2 := by
  have h0 := h
  obtain ⟨⟨a1, a2, a3, a4, a5⟩, ⟨b1, b2⟩, c, d, e, f, g, o⟩ := h
  unfold zIn qInc
  rcases b_tf (b := wIn x 1 48) with hx | hx
  · obtain ⟨n, n1, n2, n3, rfl⟩ := wIn_nat (a := 1) (b := 48) hx (by decide)
    have e1 : ∀ i, i < 129 → cpM (mM Q) 0 11 i = mM Q i := fun i hi => cp_lo _ _ (by omega) hi
    obtain ⟨u1, u2, u3⟩ := hours_upd (okM_congr e1 b1) (eqF_congr e1 b1 b2) n (by omega)
    rw [if_pos hx, if_pos hx, nI_clamp (by omega)]
    have e0 : ∀ i, i < 129 → cpM (qPas (cpM (mM Q) 0 11) n) 11 0 i = mM Q i := fun i hi => by rw [cp_0 _ _ hi, blk_hi u3 (by omega), blk_cp _ _ _ _ hi, if_pos rfl, blk_0]
    have eb : ∀ k, 1 ≤ k → k ≤ 9 → ∀ i, i < 129 → blk (cpM (qPas (cpM (mM Q) 0 11) n) 11 0) k i = blk (mM Q) k i := fun k k1 k2 i hi => by rw [blk_cp _ _ _ _ hi, if_neg (by omega), blk_hi u3 (by omega), blk_cp _ _ _ _ hi, if_neg (by omega)]
    have eF : ∀ k, dF (sF (sF D 1 (dF D 0)) 1 (fPas (dF D 0) n)) k = if k = 1 then fPas (dF D 0) n else if k = 1 then dF D 0 else dF D k := fun k => rfl
    refine ⟨⟨⟨fun i hi => ?_, a2, a3, a4, a5⟩, ⟨okM_congr e0 b1, ?_⟩, c.row rfl rfl rfl (fun k hk => by rw [eF, if_neg (by omega), if_neg (by omega)]) (fun k k1 k2 => eb k k1 (by omega)), d.row rfl rfl (by rw [eF, if_neg (by decide), if_neg (by decide)]) (eb 9 (by omega) (by omega)), e, f, g, o⟩, Or.inl ⟨?_, rfl⟩⟩
    · rw [eF]
      by_cases y : i = 1
      · rw [if_pos y]; exact nF_of u2
      · rw [if_neg y, if_neg y]; exact a1 i hi
    · rw [eF, if_neg (by decide), if_neg (by decide)]; exact eqF_congr e0 b1 b2
    · obtain ⟨-, -, -, -, e2⟩ := u2.2.2.2.2.2.2.2.1
      obtain ⟨-, -, -, -, e3⟩ := b2.2.2.2.2.2.2.2.1
      have e4 : qPas (cpM (mM Q) 0 11) n 1427 = mM Q 8 := by
        rw [u3 1427 (by decide)]
        exact (blk_cp (mM Q) 0 11 11 (i := 8) (by decide)).trans ((if_pos rfl).trans (blk_0 _ _))
      rw [e2, e3, e4]
      simp
  · rw [if_neg (ntrue hx), if_neg (ntrue hx)]
    exact ⟨h0.thr _, Or.inr ⟨0, eA, rfl, rfl, rfl⟩⟩
/-! the input -/
theorem ap_rel (h : Rel B q D Q) (c : Int32) : (Rel B q (zAp D c).2 (qAI Q c).1 ∨ Rel B (q + 1) (zAp D c).2 (qAI Q c).1) ∧ agr [eA, eS] (zAp D c).1 (mI (qAI Q c).1 0) (qAI Q c).2 := by
  have h0 := h
  obtain ⟨⟨a1, a2, a3, a4, a5⟩, ⟨b1, b2⟩, hc, d, e, f, ⟨g1, g2, g3, g4⟩, o⟩ := h
  unfold zAp qAI
  rcases b_tf (b := wIn c 32 126) with hx | hx
  · obtain ⟨n, n1, n2, n3, rfl⟩ := wIn_nat (a := 32) (b := 126) hx (by decide)
    have hch : vp_nar .char (nI n) = nI n := by rw [nar_chr]; exact chr_of (pk_charN (by omega))
    rw [if_pos hx, if_pos hx, g2, g3]
    by_cases z : q = 60
    · rw [if_pos (show (60 : Int32) ≤ nI q by rw [z]; decide), if_pos (show nI q = 60 by rw [z]; rfl)]
      exact ⟨Or.inl (h0.thr _), Or.inr ⟨1, eS, rfl, rfl, rfl⟩⟩
    · have ht : tAdd (nI q, dR D 1) (nI n) = (nI (q + 1), upd (dR D 1) q (nI n)) := by
        unfold tAdd
        show (if nI q < 0 then _ else if nI 60 ≤ nI q then _ else (nI q + 1, upd (dR D 1) (nI q).toNatClampNeg (vp_nar .char (nI n)))) = _
        rw [if_neg (nI_pos (by omega)), if_neg (nI_ge (by omega) (by decide)), nI_1, nI_clamp (by omega), hch]
      rw [if_neg (show ¬ (60 : Int32) ≤ nI q from nI_ge (b := 60) (by omega) (by decide)), if_neg (show ¬ nI q = 60 from fun y => z (nI_inj3 (b := 60) (by omega) (by decide) y)), ht, hch, nI_1, nI_clamp (by omega)]
      have hr : rowC (upd (dR D 1) q (nI n)) := fun i => by
        unfold upd
        split
        · exact pk_charN (by omega)
        · exact a4 i
      refine ⟨Or.inr ⟨⟨a1, a2, a3, hr, a5⟩, ⟨b1, b2⟩, hc, d, e, f, ⟨by omega, rfl, rfl, fun i hi => ?_⟩, o⟩, Or.inl ⟨rfl, rfl⟩⟩
      show upd (dR D 1) q (nI n) i = upd (mN Q) q (nI n) i ∧ ∃ ch, 32 ≤ ch ∧ ch ≤ 126 ∧ upd (mN Q) q (nI n) i = nI ch
      rw [upd_at, upd_at]
      by_cases y : i = q
      · rw [if_pos y, if_pos y]; exact ⟨rfl, n, n1, n2, rfl⟩
      · rw [if_neg y, if_neg y]; exact g4 i (by omega)
  · rw [if_neg (ntrue hx), if_neg (ntrue hx)]
    exact ⟨Or.inl (h0.thr _), Or.inr ⟨0, eA, rfl, rfl, rfl⟩⟩
/-! the output -/
theorem rd_oa (h : Rel B q D Q) (x : Int32) : rdr [eI] (zOA D x) (qOA Q x) Q := by
  obtain ⟨⟨p, o1, o2, o3, o4⟩, o5⟩ := h.2.2.2.2.2.2.2
  unfold zOA qOA
  rw [o2, o3]
  rcases b_tf (b := wIn x 0 (nI p - 1)) with hx | hx
  · obtain ⟨i, hi, rfl⟩ := vp_in_of (wIn_lt hx (by omega)) (by omega)
    rw [if_pos hx, if_pos hx, nI_clamp (by omega)]
    refine rdr.ok rfl ?_
    unfold tSig oTx
    show (if nI i < 0 then _ else if dI D 11 ≤ nI i then _ else if nI 60 ≤ nI i then _ else dR D 2 (nI i).toNatClampNeg) = _
    rw [o3, if_neg (nI_pos (by omega)), if_neg (nI_ge hi (by omega)), if_neg (nI_ge (by omega) (by decide)), nI_clamp (by omega)]
    exact o4 i hi
  · rw [if_neg (ntrue hx), if_neg (ntrue hx)]
    exact rdr.no 0 eI rfl rfl
/-- a text and the reference's line -/
def tr (p : Nat) (T : TX) (Q : MM) : Prop := p ≤ 40 ∧ T.1 = nI p ∧ mI Q 9 = nI p ∧ ∀ i, i < p → T.2 i = mL Q i
theorem tr_add {p : Nat} {T : TX} {Q : MM} (h : tr p T Q) (hp : p < 40) {c c' : Int32} (hc : vp_nar .char c = chr c') : tr (p + 1) (tAdd T c) (qWr Q c') := by
  obtain ⟨h1, h2, h3, h4⟩ := h
  unfold tAdd qWr
  rw [h2, if_neg (nI_pos (by omega)), if_neg (nI_ge (by omega) (by decide)), h3, nI_clamp (by omega), hc, nI_1]
  refine ⟨by omega, rfl, rfl, fun i hi => ?_⟩
  show upd T.2 p (chr c') i = upd (mL Q) p (chr c') i
  rw [upd_at, upd_at]
  by_cases y : i = p
  · rw [if_pos y, if_pos y]
  · rw [if_neg y, if_neg y]; exact h4 i (by omega)
theorem nar_c2 (x : Int32) : vp_nar .char (chr' x) = chr x := by
  rw [nar_chr, chr_of (isCh_chr x)]
  rfl
theorem tr_dig {p : Nat} {T : TX} {Q : MM} (h : tr p T Q) (hp : p < 40) (v : Int32) : tr (p + 1) (tAdd T (chr' (48 + (v - v / 10 * 10)))) (qWd Q v) := tr_add h hp (nar_c2 _)
theorem tr_num {p : Nat} {T : TX} {Q : MM} (h : tr p T Q) (hp : p + 2 ≤ 40) {n : Nat} (hn : n < 2 ^ 31) : ∃ p', p' ≤ p + 2 ∧ tr p' (tNum T (nI n)) (qWn Q (nI n)) := by
  unfold tNum tNu1 qWn
  by_cases z : n < 10
  · rw [if_pos (show nI n < 10 from nI_lt (b := 10) z (by decide)), if_pos (show nI n ≤ 9 from nI_le (b := 9) (by omega) (by decide))]
    exact ⟨p + 1, by omega, tr_dig h (by omega) _⟩
  · rw [if_neg (show ¬ nI n < 10 from nI_nlt (b := 10) (by omega) hn), if_neg (show ¬ nI n ≤ 9 from nI_ge (a := 9) (by omega) hn)]
    exact ⟨p + 2, by omega, tr_dig (tr_dig h (by omega) _) (by omega) _⟩
theorem tr_b {p : Nat} {T : TX} {Q : MM} (h : tr p T Q) (hp : p + 3 ≤ 40) (c : Int32) {n : Nat} (hn : n < 2 ^ 31) : ∃ p', p' ≤ p + 3 ∧ tr p' (tNum (tAdd T c) (nI n)) (qWb Q c (nI n)) := by
  obtain ⟨p', h1, h2⟩ := tr_num (tr_add h (by omega) (nar_chr c)) (by omega) hn
  exact ⟨p', by omega, h2⟩
theorem wr_0 (P : MM) (c : Int32) : mI (qWr P c) 0 = mI P 0 := by
  unfold qWr
  rw [mI_sI, if_neg (by decide)]
  rfl
theorem wn_0 (P : MM) (v : Int32) : mI (qWn P v) 0 = mI P 0 := by
  unfold qWn
  split
  · exact wr_0 _ _
  · exact (wr_0 _ _).trans (wr_0 _ _)
theorem wb_0 (P : MM) (c v : Int32) : mI (qWb P c v) 0 = mI P 0 := (wn_0 _ _).trans (wr_0 _ _)
theorem wt6_0 (P : MM) (t : Int32) : mI (qWt6 P t) 0 = 0 := by
  unfold qWt6
  rw [wb_0, wb_0, wb_0, wb_0, wn_0]
  rfl
theorem oTx_oT (D : DM) (T : TX) : oTx (oT D T) = T := rfl
theorem oTx_zNm (D : DM) (c v : Int32) : oTx (zNm D c v) = tNum (tAdd (oTx D) c) v := rfl
/-- all but the output's text is the same -/
def sameO (D D' : DM) : Prop := D'.1 = D.1 ∧ (∀ k, k ≠ 11 → dI D' k = dI D k) ∧ (∀ k, k ≠ 2 → dR D' k = dR D k) ∧ (rowC (dR D 2) → rowC (dR D' 2))
theorem sameO.rf (D : DM) : sameO D D := ⟨rfl, fun _ _ => rfl, fun _ _ => rfl, fun h => h⟩
theorem sameO.tr' {A C E : DM} (h : sameO A C) (k : sameO C E) : sameO A E := ⟨k.1.trans h.1, fun i hi => (k.2.1 i hi).trans (h.2.1 i hi), fun i hi => (k.2.2.1 i hi).trans (h.2.2.1 i hi), fun z => k.2.2.2 (h.2.2.2 z)⟩
theorem sameO_oT (D : DM) (T : TX) (hT : rowC (dR D 2) → rowC T.2) : sameO D (oT D T) := ⟨rfl, fun k hk => by unfold oT; rw [dI_sR, dI_sD, if_neg hk], fun k hk => by unfold oT; rw [dR_sR, if_neg hk, dR_sD], hT⟩
theorem sameO_zNm (D : DM) (c v : Int32) : sameO D (zNm D c v) :=
  (sameO_oT D (tAdd (oTx D) c) (fun h => rowC_Add (T := oTx D) h c)).tr' (sameO_oT _ _ (fun h => rowC_Num (T := oTx (oT D (tAdd (oTx D) c))) h v))
/-- and on the other side -/
def sameL (Q Q' : MM) : Prop := (∀ k, k ≠ 0 → k ≠ 9 → mI Q' k = mI Q k) ∧ mM Q' = mM Q ∧ mN Q' = mN Q ∧ ((∀ i, isCh (mL Q i)) → ∀ i, isCh (mL Q' i))
theorem sameL.rf (Q : MM) : sameL Q Q := ⟨fun _ _ _ => rfl, rfl, rfl, fun h => h⟩
theorem sameL.tr' {A C E : MM} (h : sameL A C) (k : sameL C E) : sameL A E := ⟨fun i a b => (k.1 i a b).trans (h.1 i a b), k.2.1.trans h.2.1, k.2.2.1.trans h.2.2.1, fun z => k.2.2.2 (h.2.2.2 z)⟩
theorem sameL_Wr (Q : MM) (c : Int32) : sameL Q (qWr Q c) := ⟨fun k a b => by unfold qWr; rw [mI_sI, if_neg b]; rfl, rfl, rfl, fun h i => by
  show isCh (upd (mL Q) (mI Q 9).toNatClampNeg (chr c) i)
  rw [upd_at]
  split
  · exact isCh_chr c
  · exact h i⟩
theorem sameL_Wn (Q : MM) (v : Int32) : sameL Q (qWn Q v) := by
  unfold qWn
  split
  · exact sameL_Wr _ _
  · exact (sameL_Wr _ _).tr' (sameL_Wr _ _)
theorem sameL_Wb (Q : MM) (c v : Int32) : sameL Q (qWb Q c v) := (sameL_Wr Q c).tr' (sameL_Wn _ v)
theorem out_rel {D' : DM} {Q' : MM} (h : Rel B q D Q) (hD : sameO D D') (hQ : sameL Q Q') (ht : ∃ p, tr p (oTx D') Q') : Rel B q D' Q' := by
  obtain ⟨⟨a1, a2, a3, a4, a5⟩, ⟨b1, b2⟩, c, d, e, f, g, o⟩ := h
  obtain ⟨d1, d2, d3, d4⟩ := hD
  obtain ⟨q1, q2, q3, q4⟩ := hQ
  have eF : ∀ k, dF D' k = dF D k := fun k => congrFun d1 k
  have e5 := d2 5 (by decide)
  have eJ : hJ D' = hJ D := by unfold hJ; rw [e5]
  have m5 := q1 5 (by decide) (by decide)
  have m6 := q1 6 (by decide) (by decide)
  have m7 := q1 7 (by decide) (by decide)
  have m14 := q1 14 (by decide) (by decide)
  refine ⟨⟨fun k hk => by rw [eF]; exact a1 k hk, by rw [e5, eJ]; exact a2, by rw [eJ]; exact a3, by rw [d3 1 (by decide)]; exact a4, d4 a5⟩, ⟨by rw [q2]; exact b1, by rw [q2, eF]; exact b2⟩, c.row (q1 2 (by decide) (by decide)) (d2 6 (by decide)) e5 (fun k _ => eF k) (fun _ _ _ _ _ => by rw [q2]), d.row (q1 3 (by decide) (by decide)) (d2 0 (by decide)) (eF 2) (fun _ _ => by rw [q2]), ?_, ?_, ?_, ?_⟩
  · obtain ⟨e1, e2, e3, e4⟩ := e
    exact ⟨(d2 2 (by decide)).trans (e1.trans m5.symm), (d2 3 (by decide)).trans (e2.trans m6.symm), (d2 4 (by decide)).trans (e3.trans m7.symm), by rw [m5, m7]; exact e4⟩
  · obtain ⟨f1, f2⟩ := f
    exact ⟨(d2 1 (by decide)).trans (f1.trans m14.symm), by rw [m14]; exact f2⟩
  · obtain ⟨g1, g2, g3, g4⟩ := g
    refine ⟨g1, (q1 11 (by decide) (by decide)).trans g2, (d2 10 (by decide)).trans g3, fun i hi => ?_⟩
    rw [d3 1 (by decide), q3]
    exact g4 i hi
  · obtain ⟨-, o5⟩ := o
    obtain ⟨p, t1, t2, t3, t4⟩ := ht
    exact ⟨⟨p, t1, t3, t2, t4⟩, q4 o5⟩
theorem ten_n {n : Nat} (h : n < 100) : nI n / 10 ≤ 9 := by
  rw [show (10 : Int32) = nI 10 from rfl, pk_div (by omega) (by decide) (by decide)]
  exact nI_le (b := 9) (by omega) (by decide)
theorem ten_of (h : Rel B q D Q) {j : Nat} (hj : j < qN (mM Q)) : hTen (mM Q) (nI j) := by
  obtain ⟨-, ⟨b1, b2⟩, -⟩ := h
  have h12 := b1.1.2
  have ht := b1.2.1 j hj
  have h91 := ht.2.2.2.2.2.2.2.1
  obtain ⟨o1, o2, o3, -⟩ := out_oN b1 b2 hj
  unfold hTen
  rw [qT0 (by omega), qT1 (by omega), qT2 (by omega), qT4 (by omega), qT5 (by omega), o3, ht.1 0 (by decide), ht.1 1 (by decide), ht.1 2 (by decide), ht.1 4 (by decide), ht.1 5 (by decide)]
  have := ht.2.1
  have := ht.2.2.1
  have := ht.2.2.2.2.1
  have := ht.2.2.2.2.2.2.1
  refine ⟨ten_n (by omega), ten_n (by omega), ten_n (by omega), ten_n (by omega), ?_, ten_n (by omega)⟩
  cases hk : tn (mM Q) j 5 with
  | zero => decide
  | succ k => rw [nI_pred]; exact ten_n (by omega)
theorem tr_cast {p : Nat} {T T' : TX} {Q Q' : MM} (h : tr p T Q) (e : T' = T) (e2 : Q' = Q) : tr p T' Q' := by rw [e, e2]; exact h
theorem wt_fin {p : Nat} {X : DM} {P : MM} (h : Rel B q D Q) (x1 : tr p (oTx X) P) (x2 : sameO D X) (x3 : sameL Q P) (x4 : mI P 0 = 0) : Rel B q X P ∧ agr [eI] (.inl (some (.int (dI X 11)))) (mI P 0) (mI P 9) := by
  have y1 : dI X 11 = nI p := x1.2.1
  have y2 : mI P 9 = nI p := x1.2.2.1
  refine ⟨out_rel h x2 x3 ⟨p, x1⟩, Or.inl ⟨?_, x4⟩⟩
  rw [y1, y2]
theorem wt_5 (h : Rel B q D Q) {j : Nat} (hj : j < qN (mM Q)) : ∃ p, p ≤ 14 ∧ tr p (oTx (zW5 D (nI j))) (qWt6 Q (nI j)) := by
  obtain ⟨-, ⟨b1, b2⟩, -⟩ := h
  have h12 := b1.1.2
  have ht := b1.2.1 j hj
  have hT := b2.1.2.1 j hj
  have r0 := ht.2.1
  have r1 := ht.2.2.1
  have r2 := ht.2.2.2.2.1
  obtain ⟨o1, o2, o3, -⟩ := out_oN b1 b2 hj
  have v0 : vAt 12 (fA (dF D 0) 0) (nI j) = nI (tn (mM Q) j 0) := by rw [vAt_nI (by omega) (by decide), hT.1]; exact ht.1 0 (by decide)
  have v1 : vAt 12 (fA (dF D 0) 1) (nI j) = nI (tn (mM Q) j 1) := by rw [vAt_nI (by omega) (by decide), hT.2.1]; exact ht.1 1 (by decide)
  have v2 : vAt 12 (fA (dF D 0) 2) (nI j) = nI (tn (mM Q) j 2) := by rw [vAt_nI (by omega) (by decide), hT.2.2.1]; exact ht.1 2 (by decide)
  have t0 : tr 0 (oTx (oT D (0, dR D 2))) (sMI (sMI Q 0 0) 9 0) := ⟨by omega, rfl, rfl, fun i hi => absurd hi (by omega)⟩
  obtain ⟨p1, a1, t1⟩ := tr_num t0 (by omega) (n := j) (by omega)
  obtain ⟨p2, a2, t2⟩ := tr_b t1 (by omega) 64 (n := tn (mM Q) j 0) (by omega)
  obtain ⟨p3, a3, t3⟩ := tr_b t2 (by omega) 44 (n := tn (mM Q) j 1) (by omega)
  obtain ⟨p4, a4, t4⟩ := tr_b t3 (by omega) 112 (n := tn (mM Q) j 2) (by omega)
  obtain ⟨p5, a5, t5⟩ := tr_b t4 (by omega) 61 (n := oN (mM Q) j) (by omega)
  refine ⟨p5, by omega, tr_cast t5 ?_ ?_⟩
  · unfold zW5
    rw [v0, v1, v2, o2, oTx_zNm, oTx_zNm, oTx_zNm, oTx_zNm, oTx_oT, oTx_oT]
  · unfold qWt6
    rw [qT0 (by omega), qT1 (by omega), qT2 (by omega), o3, ht.1 0 (by decide), ht.1 1 (by decide), ht.1 2 (by decide)]
theorem wt_5D (D : DM) (t : Int32) : sameO D (zW5 D t) := by
  unfold zW5
  refine sameO.tr' ?_ (sameO_zNm _ _ _)
  refine sameO.tr' ?_ (sameO_zNm _ _ _)
  refine sameO.tr' ?_ (sameO_zNm _ _ _)
  refine sameO.tr' ?_ (sameO_zNm _ _ _)
  exact (sameO_oT D (0, dR D 2) (fun h => h)).tr' (sameO_oT _ _ (fun h => rowC_Num (T := oTx (oT D (0, dR D 2))) h _))
theorem wt_5Q (Q : MM) (t : Int32) : sameL Q (qWt6 Q t) := by
  unfold qWt6
  refine sameL.tr' ?_ (sameL_Wb _ _ _)
  refine sameL.tr' ?_ (sameL_Wb _ _ _)
  refine sameL.tr' ?_ (sameL_Wb _ _ _)
  refine sameL.tr' ?_ (sameL_Wb _ _ _)
  refine sameL.tr' (C := sMI (sMI Q 0 0) 9 0) ?_ (sameL_Wn _ _)
  exact ⟨fun k a b => by rw [mI_sI, if_neg b, mI_sI, if_neg a], rfl, rfl, fun h => h⟩
/-- the text's end -/
theorem wt_end (h : Rel B q D Q) {j p : Nat} (hj : j < qN (mM Q)) {X : DM} {P : MM} (hp : p ≤ 14) (x1 : tr p (oTx X) P) (x2 : sameO D X) (x3 : sameL Q P) (x4 : mI P 0 = 0) :
    ∃ p', tr p' (oTx (zW6 D X (nI j))) (qWt9 (qWt8 (qWt7 P (nI j)) (nI j)) (nI j)) ∧ sameO D (zW6 D X (nI j)) ∧ sameL Q (qWt9 (qWt8 (qWt7 P (nI j)) (nI j)) (nI j)) ∧ mI (qWt9 (qWt8 (qWt7 P (nI j)) (nI j)) (nI j)) 0 = 0 := by
  obtain ⟨-, ⟨b1, b2⟩, -⟩ := h
  have h12 := b1.1.2
  have ht := b1.2.1 j hj
  have hT := b2.1.2.1 j hj
  have h91 := ht.2.2.2.2.2.2.2.1
  have r4 := ht.2.2.2.2.2.2.1
  have hm : mM P = mM Q := x3.2.1
  have s2 : inSt (dF D 0) (nI j) 2 = if tv (mM Q) j 3 = 1 then true else false := inSt_eq b1 b2.1 hj (k := 1) (by decide)
  have s3 : inSt (dF D 0) (nI j) 3 = if tv (mM Q) j 3 = 2 then true else false := inSt_eq b1 b2.1 hj (k := 2) (by decide)
  have v4 : vAt 12 (fA (dF D 0) 4) (nI j) = nI (tn (mM Q) j 5) - 1 := by rw [vAt_nI (by omega) (by decide), hT.2.2.2.2.2, ht.1 5 (by decide)]
  have v5 : vAt 12 (fA (dF D 0) 5) (nI j) = nI (tn (mM Q) j 4) := by rw [vAt_nI (by omega) (by decide), hT.2.2.2.2.1]; exact ht.1 4 (by decide)
  have e7 : qWt7 P (nI j) = if nI (tn (mM Q) j 5) ≤ 0 then P else qWb P 60 (nI (tn (mM Q) j 5) - 1) := by unfold qWt7; rw [hm, qT5 (by omega), ht.1 5 (by decide)]
  have e8 : ∀ P1, mM P1 = mM Q → qWt8 P1 (nI j) = if tv (mM Q) j 3 = 1 then qWr P1 120 else P1 := fun P1 m => by unfold qWt8; rw [m, qT3 (by omega)]
  have e9 : ∀ P1, mM P1 = mM Q → qWt9 P1 (nI j) = if tv (mM Q) j 3 = 2 then qWb P1 115 (nI (tn (mM Q) j 4)) else P1 := fun P1 m => by unfold qWt9; rw [m, qT3 (by omega), qT4 (by omega), ht.1 4 (by decide)]
  unfold zW6
  rw [curt_eq b1 b2.1 hj, s2, s3, v4, v5, e7, ht.1 5 (by decide)]
  cases hk : tn (mM Q) j 5 with
  | zero =>
    rw [if_pos (show nI 0 = 0 from rfl), if_neg Bool.false_ne_true, if_pos (show nI 0 ≤ 0 by decide), e8 P hm]
    by_cases z1 : tv (mM Q) j 3 = 1
    · have z2 : ¬ tv (mM Q) j 3 = 2 := by rw [z1]; decide
      rw [if_pos z1, if_pos rfl, if_pos z1, e9 _ ((mM_qWr P 120).trans hm), if_neg z2]
      exact ⟨p + 1, tr_add x1 (by omega) (nar_chr 120), x2.tr' (sameO_oT _ _ (fun h => rowC_Add (T := oTx X) h _)), x3.tr' (sameL_Wr _ _), (wr_0 _ _).trans x4⟩
    · rw [if_neg z1, if_neg Bool.false_ne_true, if_neg z1, e9 P hm]
      by_cases z2 : tv (mM Q) j 3 = 2
      · rw [if_pos z2, if_pos rfl, if_pos z2]
        obtain ⟨p6, a6, t7⟩ := tr_b x1 (by omega) 115 (n := tn (mM Q) j 4) (by omega)
        exact ⟨p6, t7, x2.tr' (sameO_zNm _ _ _), x3.tr' (sameL_Wb _ _ _), (wb_0 _ _ _).trans x4⟩
      · rw [if_neg z2, if_neg Bool.false_ne_true, if_neg z2]
        exact ⟨p, x1, x2, x3, x4⟩
  | succ k =>
    have hz3 : tv (mM Q) j 3 = 0 := by rw [ht.1 3 (by decide), ht.2.2.2.2.2.2.2.2.1 (by omega)]; rfl
    have z1 : ¬ tv (mM Q) j 3 = 1 := by rw [hz3]; decide
    have z2 : ¬ tv (mM Q) j 3 = 2 := by rw [hz3]; decide
    have hm6 : mM (qWb P 60 (nI k)) = mM Q := (mM_qWb _ _ _).trans hm
    rw [if_neg (nI_ne0 (by omega) (by omega)), if_pos rfl, if_neg (nI_nle (by omega) (by omega)), nI_pred, e8 _ hm6, if_neg z1, e9 _ hm6, if_neg z2]
    obtain ⟨p6, a6, t7⟩ := tr_b x1 (by omega) 60 (n := k) (by omega)
    exact ⟨p6, t7, x2.tr' (sameO_zNm _ _ _), x3.tr' (sameL_Wb _ _ _), (wb_0 _ _ _).trans x4⟩
theorem wt_rel (h : Rel B q D Q) (t : Int32) : Rel B q (zWt D t).2 (qWtt Q t).1 ∧ agr [eI] (zWt D t).1 (mI (qWtt Q t).1 0) (qWtt Q t).2 := by
  have hT := hasT_eq h.2.1.1.1 h.2.1.2.1 t
  rcases b_tf (b := qIT (mM Q) t) with e | e
  · obtain ⟨j, hj, rfl⟩ := qIT_nat h.2.1.1.1 e
    obtain ⟨p, p1, p2⟩ := wt_5 h hj
    obtain ⟨p', x1, x2, x3, x4⟩ := wt_end h hj p1 p2 (wt_5D D _) (wt_5Q Q _) (wt6_0 _ _)
    have ez : zWt D (nI j) = (.inl (some (.int (dI (zW6 D (zW5 D (nI j)) (nI j)) 11))), zW6 D (zW5 D (nI j)) (nI j)) := if_pos (hT.trans e)
    have eq : qWtt Q (nI j) = (qWt9 (qWt8 (qWt7 (qWt6 Q (nI j)) (nI j)) (nI j)) (nI j), mI (qWt9 (qWt8 (qWt7 (qWt6 Q (nI j)) (nI j)) (nI j)) (nI j)) 9) := if_pos e
    obtain ⟨X, hX⟩ : ∃ X, X = zW6 D (zW5 D (nI j)) (nI j) := ⟨_, rfl⟩
    obtain ⟨P, hP⟩ : ∃ P, P = qWt9 (qWt8 (qWt7 (qWt6 Q (nI j)) (nI j)) (nI j)) (nI j) := ⟨_, rfl⟩
    rw [← hX] at x1 x2 ez
    rw [← hP] at x1 x3 x4 eq
    rw [ez, eq]
    exact wt_fin h x1 x2 x3 x4
  · have ez : zWt D t = (.inr eI, D) := if_neg (by rw [hT, e]; decide)
    have eq : qWtt Q t = qR Q 1 0 := if_neg (ntrue e)
    rw [ez, eq]
    exact ⟨h.thr _, Or.inr ⟨0, eI, rfl, rfl, rfl⟩⟩
end MORE
