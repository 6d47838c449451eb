/-! a turbine changes -/
theorem okT_congr {M M' : Nat → Int32} {j : Nat} (h : ∀ k, k < 6 → tv M' j k = tv M j k) (ht : okT M j) : okT M' j := by
  have e : ∀ k, k < 6 → tn M' j k = tn M j k := fun k hk => by unfold tn; rw [h k hk]
  unfold okT
  rw [e 0 (by decide), e 1 (by decide), e 2 (by decide), e 3 (by decide), e 4 (by decide), e 5 (by decide)]
  exact ⟨fun w hw => by rw [h w hw, e w hw]; exact ht.1 w hw, ht.2⟩
theorem cnt_congr {M M' : Nat → Int32} {s : Nat} : ∀ n, (∀ j, j < n → tv M' j 3 = tv M j 3) → cnt M' s n = cnt M s n
  | 0, _ => rfl
  | n + 1, h => by
    unfold cnt
    rw [cnt_congr n (fun j hj => h j (by omega)), h n (by omega)]
theorem cnt_upd {M M' : Nat → Int32} {b s : Nat} : ∀ n, b < n → (∀ j, j < n → j ≠ b → tv M' j 3 = tv M j 3) → cnt M' s n + (if tv M b 3 = nI s then 1 else 0) = cnt M s n + (if tv M' b 3 = nI s then 1 else 0)
  | 0, h, _ => absurd h (by omega)
  | n + 1, h, hT => by
    unfold cnt
    by_cases e : b = n
    · subst e
      rw [cnt_congr b (fun j hj => hT j (by omega) (by omega))]
      omega
    · have := cnt_upd (s := s) n (by omega) (fun j hj hne => hT j (by omega) hne)
      rw [hT n (by omega) (fun z => e z.symm)]
      omega
theorem okM_mono {B B' : Nat} {M : Nat → Int32} (h : okM B M) (hb : B ≤ B') : okM B' M := by
  obtain ⟨h1, h2, h3, h4, h5, h6, h7, ⟨t, ht, h8⟩, h9⟩ := h
  exact ⟨h1, h2, h3, h4, h5, h6, h7, ⟨t, by omega, h8⟩, h9⟩
theorem tv_hi {M M' : Nat → Int32} (h : ∀ i, i < 129 → M' i = M i) {j k : Nat} (hj : j < 12) (hk : k < 6) : tv M' j k = tv M j k := h _ (by omega)
theorem okM_congr {B : Nat} {M M' : Nat → Int32} (h : ∀ i, i < 129 → M' i = M i) (hM : okM B M) : okM B M' := by
  have h0 : M' 0 = M 0 := h 0 (by decide)
  have hn : qN M' = qN M := qN_of h0
  obtain ⟨h1, h2, h3, h4, h5, h6, h7, ⟨t, ht, h8, m, l, s, c, a1, a2, a3, a4, a5⟩, h9⟩ := hM
  have h12 := h1.2
  have hw : wy M' = wy M := by unfold wy; rw [h 1 (by decide)]
  refine ⟨wM_of h1 h0, fun j hj => okT_congr (fun k hk => tv_hi h (by omega) hk) (h2 j (by omega)), fun i j hi hj e1 e2 => ?_, ?_, ?_, ?_, ?_, ⟨t, ht, ?_, m, l, s, c, ?_, ?_, ?_, ?_, a5⟩, fun x hx => ?_⟩
  · rw [tv_hi h (by omega) (by decide), tv_hi h (by omega) (by decide)] at e1 e2
    exact h3 i j (by omega) (by omega) e1 e2
  · rw [hn, cnt_congr _ (fun j hj => tv_hi h (by omega) (by decide))]; exact h4
  · rw [hw, h 1 (by decide)]; exact h5
  · rw [h 2 (by decide)]; exact h6
  · rw [h 3 (by decide)]; exact h7
  · rw [h 4 (by decide)]; exact h8
  · rw [h 5 (by decide)]; exact a1
  · rw [h 6 (by decide)]; exact a2
  · rw [h 7 (by decide)]; exact a3
  · rw [h 8 (by decide)]; exact a4
  · obtain ⟨p, u, b1, b2, b3⟩ := h9 x hx
    exact ⟨p, u, (h _ (by omega)).trans b1, (h _ (by omega)).trans b2, b3⟩
theorem eqF_congr {B : Nat} {F : FM} {M M' : Nat → Int32} (h : ∀ i, i < 129 → M' i = M i) (hM : okM B M) (hF : eqF F M) : eqF F M' := by
  have h0 : M' 0 = M 0 := h 0 (by decide)
  have hn : qN M' = qN M := qN_of h0
  have h12 := hM.1.2
  obtain ⟨⟨p1, p2, p3⟩, f1, f2, f3, f4, f5, f6, ⟨a0, a1, a2, a3, a4⟩, f8⟩ := hF
  refine ⟨⟨by rw [h0]; exact p1, fun j hj => ?_, fun x y hx hy => ?_⟩, by rw [h 1 (by decide)]; exact f1, by rw [h 2 (by decide)]; exact f2, by rw [h 3 (by decide)]; exact f3, by rw [h 4 (by decide)]; exact f4, fun j hj => f5 j (by omega), fun x hx => ?_, ⟨?_, ?_, ?_, ?_, ?_⟩, f8⟩
  · have q := p2 j (by omega)
    unfold eqT
    rw [tv_hi h (by omega) (by decide), tv_hi h (by omega) (by decide), tv_hi h (by omega) (by decide), tv_hi h (by omega) (by decide), tv_hi h (by omega) (by decide), tv_hi h (by omega) (by decide)]
    exact q
  · rw [qIn_congr hM.1 h0 (fun j hj => ⟨tv_hi h (by omega) (by decide), tv_hi h (by omega) (by decide)⟩)]
    exact p3 x y hx hy
  · have q := f6 x hx
    exact ⟨q.1.trans (h _ (by omega)).symm, q.2.trans (h _ (by omega)).symm⟩
  · rw [h 5 (by decide)]; exact a0
  · rw [h 6 (by decide)]; exact a1
  · rw [h 7 (by decide)]; exact a2
  · rw [h 5 (by decide), h 6 (by decide), h 7 (by decide)]; exact a3
  · rw [h 8 (by decide)]; exact a4
theorem eqF_upd {B : Nat} {F F' : FM} {M M' : Nat → Int32} {b : Nat} (hM : okM B M) (hF : eqF F M) (hb : b < qN M) (h57 : ∀ i, i < 57 → M' i = M i) (hT : ∀ j, j < qN M → j ≠ b → ∀ k, k < 6 → tv M' j k = tv M j k) (h012 : ∀ k, k < 3 → tv M' b k = tv M b k) (hok : okT M' b) (hc : cnt M' 2 (qN M) ≤ 2)
    (hI : ∀ k, fI F' k = fI F k) (hL : ∀ k, fL F' k = fL F k) (hA : ∀ k, k ≠ 3 → k ≠ 4 → k ≠ 5 → fA F' k = fA F k) (hA3 : ∀ k j, j ≠ b → fA F' k j = fA F k j) (he : fA F' 3 b = tv M' b 3 + 1 ∧ fA F' 5 b = tv M' b 4 ∧ fA F' 4 b = tv M' b 5 - 1) : okM B M' ∧ eqF F' M' := by
  have h0 : M' 0 = M 0 := h57 0 (by decide)
  have hn : qN M' = qN M := qN_of h0
  have h01 : ∀ j, j < qN M → tv M' j 0 = tv M j 0 ∧ tv M' j 1 = tv M j 1 := fun j hj => by
    by_cases e : j = b
    · subst e; exact ⟨h012 0 (by decide), h012 1 (by decide)⟩
    · exact ⟨hT j hj e 0 (by decide), hT j hj e 1 (by decide)⟩
  have hw : wy M' = wy M := by unfold wy; rw [h57 1 (by decide)]
  have hq : ∀ r c, qIn M' r c = qIn M r c := fun r c => qIn_congr hM.1 h0 h01 r c
  obtain ⟨h1, h2, h3, h4, h5, h6, h7, ⟨t, ht, h8, m, l, s, c, a1, a2, a3, a4, a5⟩, h9⟩ := hM
  have h12 := h1.2
  obtain ⟨⟨p1, p2, p3⟩, f1, f2, f3, f4, f5, f6, ⟨g0, g1, g2, g3, g4⟩, f8⟩ := hF
  constructor
  · refine ⟨wM_of h1 h0, fun j hj => ?_, fun i j hi hj e1 e2 => ?_, by rw [hn]; exact hc, by rw [hw, h57 1 (by decide)]; exact h5, by rw [h57 2 (by decide)]; exact h6, by rw [h57 3 (by decide)]; exact h7, ⟨t, ht, by rw [h57 4 (by decide)]; exact h8, m, l, s, c, by rw [h57 5 (by decide)]; exact a1, by rw [h57 6 (by decide)]; exact a2, by rw [h57 7 (by decide)]; exact a3, by rw [h57 8 (by decide)]; exact a4, a5⟩, fun x hx => ?_⟩
    · by_cases e : j = b
      · subst e; exact hok
      · exact okT_congr (hT j (by omega) e) (h2 j (by omega))
    · rw [(h01 i (by omega)).1, (h01 j (by omega)).1] at e1
      rw [(h01 i (by omega)).2, (h01 j (by omega)).2] at e2
      exact h3 i j (by omega) (by omega) e1 e2
    · obtain ⟨p, u, b1, b2, b3⟩ := h9 x hx
      exact ⟨p, u, (h57 _ (by omega)).trans b1, (h57 _ (by omega)).trans b2, b3⟩
  · refine ⟨⟨by rw [hI, h0]; exact p1, fun j hj => ?_, fun x y hx hy => by rw [hA 6 (by decide) (by decide) (by decide), hq]; exact p3 x y hx hy⟩, by rw [hI, h57 1 (by decide)]; exact f1, by rw [hI, h57 2 (by decide)]; exact f2, by rw [hI, h57 3 (by decide)]; exact f3, by rw [hI, h57 4 (by decide)]; exact f4, fun j hj hj2 => by rw [hA3 5 j (by omega)]; exact f5 j (by omega) hj2, fun x hx => ?_, ⟨by rw [hL, h57 5 (by decide)]; exact g0, by rw [hL, h57 6 (by decide)]; exact g1, by rw [hL, h57 7 (by decide)]; exact g2, by rw [hL, h57 5 (by decide), h57 6 (by decide), h57 7 (by decide)]; exact g3, by rw [hL, h57 8 (by decide)]; exact g4⟩, fun k hk i hi => ?_⟩
    · by_cases e : j = b
      · subst e
        have q := p2 j hb
        unfold eqT
        rw [hA 0 (by decide) (by decide) (by decide), hA 1 (by decide) (by decide) (by decide), hA 2 (by decide) (by decide) (by decide), h012 0 (by decide), h012 1 (by decide), h012 2 (by decide)]
        exact ⟨q.1, q.2.1, q.2.2.1, he.1, he.2.1, he.2.2⟩
      · have q := p2 j (by omega)
        unfold eqT
        rw [hA3 0 j e, hA3 1 j e, hA3 2 j e, hA3 3 j e, hA3 5 j e, hA3 4 j e, hT j (by omega) e 0 (by decide), hT j (by omega) e 1 (by decide), hT j (by omega) e 2 (by decide), hT j (by omega) e 3 (by decide), hT j (by omega) e 4 (by decide), hT j (by omega) e 5 (by decide)]
        exact q
    · have q := f6 x hx
      rw [hA 7 (by decide) (by decide) (by decide), hA 8 (by decide) (by decide) (by decide)]
      exact ⟨q.1.trans (h57 _ (by omega)).symm, q.2.trans (h57 _ (by omega)).symm⟩
    · have hl : 12 ≤ lenF k := by
        rcases (by omega : k = 0 ∨ k = 1 ∨ k = 2 ∨ k = 3 ∨ k = 4 ∨ k = 5 ∨ k = 6 ∨ k = 7 ∨ k = 8) with rfl | rfl | rfl | rfl | rfl | rfl | rfl | rfl | rfl <;> decide
      rw [hA3 k i (by omega)]
      exact f8 k hk i hi
/-! a cell of the row is written -/
theorem tv_set (M : Nat → Int32) {b w j k : Nat} {v : Int32} (hb : b < 12) (hw : w < 6) (hk : k < 6) : tv (qSet M (nI b) (nI w) v) j k = if j = b ∧ k = w then v else tv M j k := by
  unfold tv qSet upd
  rw [show (57 : Int32) = nI 57 from rfl, show (6 : Int32) = nI 6 from rfl, pk_mul, nI_add, nI_add, nI_clamp (by omega)]
  by_cases e : j = b ∧ k = w
  · rw [if_pos e, if_pos (by omega)]
  · rw [if_neg e, if_neg (by omega)]
theorem lo_set (M : Nat → Int32) {b w : Nat} {v : Int32} (hb : b < 12) (hw : w < 6) {i : Nat} (hi : i < 57) : qSet M (nI b) (nI w) v i = M i := by
  unfold qSet upd
  rw [show (57 : Int32) = nI 57 from rfl, show (6 : Int32) = nI 6 from rfl, pk_mul, nI_add, nI_add, nI_clamp (by omega), if_neg (by omega)]
theorem hi_set (M : Nat → Int32) {b w : Nat} {v : Int32} (hb : b < 12) (hw : w < 6) {i : Nat} (hi : 129 ≤ i) : qSet M (nI b) (nI w) v i = M i := by
  unfold qSet upd
  rw [show (57 : Int32) = nI 57 from rfl, show (6 : Int32) = nI 6 from rfl, pk_mul, nI_add, nI_add, nI_clamp (by omega), if_neg (by omega)]
/-- what lies behind the present row stays -/
def hiE (M M' : Nat → Int32) : Prop := ∀ i, 129 ≤ i → M' i = M i
theorem hiE.rf {M : Nat → Int32} : hiE M M := fun _ _ => rfl
theorem hiE.tr {A B C : Nat → Int32} (h : hiE A B) (k : hiE B C) : hiE A C := fun i hi => (k i hi).trans (h i hi)
theorem hiE_set (M : Nat → Int32) {b w : Nat} {v : Int32} (hb : b < 12) (hw : w < 6) : hiE M (qSet M (nI b) (nI w) v) := fun _ hi => hi_set M hb hw hi
theorem hiE_upd (M : Nat → Int32) {k : Nat} {v : Int32} (hk : k < 129) : hiE M (upd M k v) := fun i hi => by unfold upd; rw [if_neg (by omega)]
theorem upd_at {f : Nat → Int32} {b j : Nat} {v : Int32} : upd f b v j = if j = b then v else f j := rfl
theorem sAt_u {f : Nat → Int32} {b : Nat} {v : Int32} (hb : b < 12) : sAt 12 f (nI b) v = upd f b v := sAt_nI hb (by decide)
/-! the outputs, in sum -/
theorem out_cur {B : Nat} {F : FM} {M : Nat → Int32} (hM : okM B M) (hF : eqF F M) {j : Nat} (hj : j < qN M) :
    ∃ o, o ≤ 90 ∧ outp F (nI j) (fI F 1) (fI F 2) = nI o ∧ qOu M (nI j) = nI o ∧ (0 < o → tv M j 3 = 0) ∧ (0 < tn M j 5 → o < tn M j 5) := by
  obtain ⟨s, hs, h2⟩ := hM.2.2.2.2.2.1
  have q := out_eq hM hF.1 hj hM.2.2.2.2.1.2 hs rfl hM.2.2.2.2.1.1 h2 (fun _ _ _ _ => rfl)
  rw [hF.2.1, hF.2.2.1, h2]
  rw [← hM.2.2.2.2.1.1] at q
  exact q
def oN (M : Nat → Int32) (j : Nat) : Nat := (qOu M (nI j)).toNatClampNeg
theorem oN_of {M : Nat → Int32} {j o : Nat} (ho : o ≤ 90) (e : qOu M (nI j) = nI o) : oN M j = o := by
  unfold oN
  rw [e, nI_clamp (by omega)]
theorem out_oN {B : Nat} {F : FM} {M : Nat → Int32} (hM : okM B M) (hF : eqF F M) {j : Nat} (hj : j < qN M) :
    oN M j ≤ 90 ∧ outp F (nI j) (fI F 1) (fI F 2) = nI (oN M j) ∧ qOu M (nI j) = nI (oN M j) ∧ (0 < oN M j → tv M j 3 = 0) ∧ (0 < tn M j 5 → oN M j < tn M j 5) := by
  obtain ⟨o, h1, h2, h3, h4⟩ := out_cur hM hF hj
  rw [oN_of h1 h3]
  exact ⟨h1, h2, h3, h4⟩
def tot (M : Nat → Int32) : Nat → Nat
  | 0 => 0
  | n + 1 => tot M n + oN M n
theorem tot_le {M : Nat → Int32} : ∀ n, (∀ j, j < n → oN M j ≤ 90) → tot M n ≤ 90 * n
  | 0, _ => Nat.le_refl _
  | n + 1, h => by
    have := tot_le n (fun j hj => h j (by omega))
    have := h n (by omega)
    unfold tot
    omega
theorem sum_cur {B : Nat} {F : FM} {M : Nat → Int32} (hM : okM B M) (hF : eqF F M) : ∀ k, k ≤ qN M → sumI F (fI F 1) (fI F 2) k = nI (tot M k) ∧ qTo M k = nI (tot M k)
  | 0, _ => ⟨rfl, rfl⟩
  | k + 1, h => by
    obtain ⟨h1, h2⟩ := sum_cur hM hF k (by omega)
    obtain ⟨o1, o2, o3, -⟩ := out_oN hM hF (j := k) (by omega)
    unfold sumI qTo tot
    rw [h1, h2, o2, o3, nI_add]
    exact ⟨rfl, rfl⟩
theorem tot_cur {B : Nat} {F : FM} {M : Nat → Int32} (hM : okM B M) (hF : eqF F M) : tot M (qN M) ≤ 1080 := by
  have := tot_le (M := M) (qN M) (fun j hj => (out_oN hM hF hj).1)
  have := hM.1.2
  omega
/-- with another wind -/
theorem sum_with {B : Nat} {F : FM} {M : Nat → Int32} (hM : okM B M) (hF : eqP F M) {w s : Nat} (hw : w < 4) (hs : s < 31) {M' : Nat → Int32} (h0 : M' 0 = M 0) (h1 : M' 1 = nI w) (h2 : M' 2 = nI s) (h : ∀ i, i < qN M → ∀ k, k < 6 → tv M' i k = tv M i k) :
    ∀ k, k ≤ qN M → ∃ v, v ≤ 90 * k ∧ sumI F (qSgn (nI w)) (nI s) k = nI v ∧ qTo M' k = nI v
  | 0, _ => ⟨0, Nat.le_refl _, rfl, rfl⟩
  | k + 1, hk => by
    obtain ⟨v, v1, v2, v3⟩ := sum_with hM hF hw hs h0 h1 h2 h k (by omega)
    obtain ⟨o, o1, o2, o3, -⟩ := out_eq hM hF (j := k) (by omega) hw hs h0 h1 h2 h
    refine ⟨v + o, by omega, ?_, ?_⟩
    · unfold sumI; rw [v2, o2, nI_add]
    · unfold qTo; rw [v3, o3, nI_add]
theorem qTw_eq {B : Nat} {F : FM} {M : Nat → Int32} (hM : okM B M) (hF : eqP F M) {w s : Nat} (hw : w < 4) (hs : s < 31) : ∃ v, v ≤ 1080 ∧ sumI F (qSgn (nI w)) (nI s) (qN M) = nI v ∧ qTw M (nI w) (nI s) = nI v := by
  have h12 := hM.1.2
  obtain ⟨v, v1, v2, v3⟩ := sum_with hM hF hw hs (M' := upd (upd M 1 (nI w)) 2 (nI s)) rfl rfl rfl (fun i hi k hk => by unfold tv upd; rw [if_neg (by omega), if_neg (by omega)]) (qN M) (Nat.le_refl _)
  exact ⟨v, by omega, v2, v3⟩
/-! counts -/
theorem cSt_eq {B : Nat} {F : FM} {M : Nat → Int32} (hM : okM B M) (hF : eqP F M) {s : Nat} (hs : s < 3) : ∀ k, k ≤ qN M → cSt F (nI (s + 1)) k = nI (cnt M s k)
  | 0, _ => rfl
  | k + 1, h => by
    unfold cSt cnt
    rw [inSt_eq hM hF (j := k) (by omega) hs, cSt_eq hM hF hs k (by omega)]
    by_cases e : tv M k 3 = nI s
    · rw [if_pos e, if_pos rfl, if_pos e, nI_1]
    · rw [if_neg e, if_neg (by decide), if_neg e]
      rfl
theorem cnt_sum {B : Nat} {M : Nat → Int32} (hM : okM B M) : ∀ k, k ≤ qN M → cnt M 0 k + cnt M 1 k + cnt M 2 k = k
  | 0, _ => rfl
  | k + 1, h => by
    have ih := cnt_sum hM k (by omega)
    have ht := hM.2.1 k (by omega)
    have e := ht.1 3 (by decide)
    have h3 := ht.2.2.2.2.2.1
    unfold cnt
    rw [e]
    rcases (by omega : tn M k 3 = 0 ∨ tn M k 3 = 1 ∨ tn M k 3 = 2) with q | q | q <;> rw [q] <;> simp only [show (nI 0 = nI 1) = False from by decide, show (nI 0 = nI 2) = False from by decide, show (nI 1 = nI 0) = False from by decide, show (nI 1 = nI 2) = False from by decide, show (nI 2 = nI 0) = False from by decide, show (nI 2 = nI 1) = False from by decide, if_true, if_false] <;> omega
theorem fN_eq {F : FM} {M : Nat → Int32} (hF : eqP F M) : fN F = qN M := by unfold fN qN; rw [hF.1]
theorem wF_of {F : FM} {M : Nat → Int32} (hw : wM M) (hF : eqP F M) : wF F := by
  unfold wF
  rw [fN_eq hF, hF.1]
  exact hw
theorem crews_eq {B : Nat} {F : FM} {M : Nat → Int32} (hM : okM B M) (hF : eqP F M) : crews F = 2 - qIS M 2 (qN M) := by
  unfold crews
  rw [fN_eq hF, show (3 : Int32) = nI (2 + 1) from rfl, cSt_eq hM hF (by decide) _ (Nat.le_refl _), ← qIS_cnt M 2 (qN M) hM.1.2]
  rfl
theorem fSv_eq {B : Nat} {F : FM} {M : Nat → Int32} (hM : okM B M) (hF : eqP F M) : ∀ (k j : Nat), j + k ≤ qN M → (∃ i, j ≤ i ∧ i < j + k ∧ tv M i 3 = nI 2) → fSv F j k = qFS M j k
  | 0, j, _, ⟨i, h1, h2, _⟩ => absurd h1 (by omega)
  | k + 1, j, h, ⟨i, h1, h2, h3⟩ => by
    have := hM.1.2
    unfold fSv qFS
    rw [qT3 (by omega), show (3 : Int32) = nI (2 + 1) from rfl, inSt_eq hM hF (j := j) (by omega) (by decide)]
    by_cases e : tv M j 3 = nI 2
    · rw [if_pos e, if_pos rfl]
      exact (if_pos e).symm
    · rw [if_neg e, if_neg (by decide)]
      refine Eq.trans ?_ (if_neg e).symm
      refine fSv_eq hM hF k (j + 1) (by omega) ⟨i, ?_, by omega, h3⟩
      rcases Nat.lt_or_ge j i with q | q
      · omega
      · exact absurd (by rw [show j = i by omega]; exact h3) e
theorem cnt_ex {M : Nat → Int32} {s : Nat} : ∀ n, 0 < cnt M s n → ∃ i, i < n ∧ tv M i 3 = nI s
  | 0, h => absurd h (Nat.lt_irrefl _)
  | n + 1, h => by
    unfold cnt at h
    by_cases e : tv M n 3 = nI s
    · exact ⟨n, by omega, e⟩
    · rw [if_neg e] at h
      obtain ⟨i, h1, h2⟩ := cnt_ex n (by omega)
      exact ⟨i, by omega, h2⟩
/-! bids -/
theorem bid_eq {F : FM} {M : Nat → Int32} {B : Nat} (hM : okM B M) (hF : eqF F M) {x : Nat} (hx : x < 24) : ∃ p u : Nat, p ≤ 50 ∧ u ≤ 500 ∧ (p = 0 ↔ u = 0) ∧ qPr M (nI x) = nI p ∧ qQu M (nI x) = nI u ∧ vAt 24 (fA F 7) (nI x) = nI p ∧ vAt 24 (fA F 8) (nI x) = nI u ∧ bidF F (nI x) = decide (0 < p) := by
  obtain ⟨p, u, h1, h2, h3, h4, h5⟩ := hM.2.2.2.2.2.2.2.2 x hx
  have q := hF.2.2.2.2.2.2.1 x hx
  refine ⟨p, u, h3, h4, h5, by rw [qPr_pv hx]; exact h1, by rw [qQu_uv hx]; exact h2, by rw [vAt_nI hx (by decide), q.1]; exact h1, by rw [vAt_nI hx (by decide), q.2]; exact h2, ?_⟩
  unfold bidF
  rw [vAt_nI hx (by decide), q.2, h2]
  by_cases z : u = 0
  · rw [z, if_pos (by decide), decide_eq_false (by omega)]
  · rw [if_neg (nI_nle (by omega) (by omega)), decide_eq_true (by omega)]
theorem cBd_eq {F : FM} {M : Nat → Int32} {B : Nat} (hM : okM B M) (hF : eqF F M) : ∀ k, k ≤ 24 → cBd F k = qBd M k
  | 0, _ => rfl
  | k + 1, h => by
    obtain ⟨p, u, h3, h4, h5, h6, h7, h8, h9, h10⟩ := bid_eq hM hF (x := k) (by omega)
    unfold cBd qBd
    rw [cBd_eq hM hF k (by omega), h10, h6]
    by_cases z : p = 0
    · rw [z, if_neg (by decide), if_pos (by decide)]
      exact (Int32.add_zero _).symm
    · rw [if_pos (decide_eq_true (by omega)), if_neg (nI_nle (by omega) (by omega))]
