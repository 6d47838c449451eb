/-! THE TEXT of a turbine. -/
def tx (T : TX) (cs : List Nat) : Prop := T.1 = nI cs.length ∧ ∀ i, i < cs.length → T.2 i = nI (cs.getD i 0)
theorem tx_add {T : TX} {cs : List Nat} {c : Nat} {x : Int32} (h : tx T cs) (hl : cs.length < 60) (hx : vp_nar .char x = nI c) : tx (tAdd T x) (cs ++ [c]) := by
  obtain ⟨h1, h2⟩ := h
  unfold tAdd
  rw [h1, if_neg (nI_pos (by omega)), if_neg (nI_ge hl (by decide))]
  refine ⟨?_, fun i hi => ?_⟩
  · show nI cs.length + 1 = _
    rw [nI_1, List.length_append]
    rfl
  · show upd T.2 (nI cs.length).toNatClampNeg _ i = _
    rw [List.length_append] at hi
    simp at hi
    rw [nI_clamp (by omega), hx]
    unfold upd
    by_cases e : i = cs.length
    · subst e
      rw [if_pos rfl, getD_r (Nat.le_refl _), Nat.sub_self]
      rfl
    · rw [if_neg e, getD_l (by omega)]
      exact h2 i (by omega)
theorem tn_a : ∀ v, v < 100 → vp_nar .char (chr' (48 + (nI v - nI v / 10 * 10))) = nI (48 + v % 10) := by decide +kernel
theorem tn_b : ∀ v, v < 100 → vp_nar .char (chr' (48 + (nI v / 10 - nI v / 10 / 10 * 10))) = nI (48 + v / 10) := by decide +kernel
theorem tn_c : ∀ v, v < 100 → (nI v < 10 ↔ v < 10) := by decide +kernel
theorem tx_num {T : TX} {cs : List Nat} {v : Nat} (h : tx T cs) (hl : cs.length + 2 ≤ 60) (hv : v < 100) : tx (tNum T (nI v)) (cs ++ dec' v) := by
  unfold tNum tNu1 dec'
  by_cases e : v < 10
  · rw [if_pos ((tn_c v hv).mpr e), if_pos e]
    have q := tx_add h (by omega) (tn_a v hv)
    rw [show v % 10 = v by omega] at q
    exact q
  · rw [if_neg (fun z => e ((tn_c v hv).mp z)), if_neg e]
    have q := tx_add h (by omega) (tn_b v hv)
    have q2 := tx_add q (by rw [List.length_append]; simp; omega) (tn_a v hv)
    rw [List.append_assoc] at q2
    exact q2
theorem dec_le {v : Nat} : (dec' v).length ≤ 2 := by
  rw [dec_len]
  unfold dgs'
  split <;> omega
theorem dec_1 {v : Nat} (h : v < 10) : (dec' v).length = 1 := by
  rw [dec_len]
  exact if_pos h
/-- the text up to the output; with the limit; with the cross; with the hours -/
def tA (j r c p o : Nat) : List Nat := [] ++ dec' j ++ [64] ++ dec' r ++ [44] ++ dec' c ++ [112] ++ dec' p ++ [61] ++ dec' o
def tB (l : Nat) : List Nat := if 0 < l then [] ++ [60] ++ dec' (l - 1) else []
def tC (s : Nat) : List Nat := if s = 1 then [120] else []
def tE (s h : Nat) : List Nat := if s = 2 then [] ++ [115] ++ dec' h else []
def tAll (j r c p o l s h : Nat) : List Nat := tA j r c p o ++ tB l ++ tC s ++ tE s h
theorem tA_len {j r c p o : Nat} (hr : r < 10) (hc : c < 10) (hp : p < 10) : (tA j r c p o).length ≤ 11 := by
  unfold tA
  simp only [List.length_append, List.length_nil, List.length_cons, dec_1 hr, dec_1 hc, dec_1 hp]
  have h1 : (dec' j).length ≤ 2 := dec_le
  have h2 : (dec' o).length ≤ 2 := dec_le
  omega
theorem tB_len (l : Nat) : (tB l).length ≤ 3 := by
  unfold tB
  split
  · have h2 : (dec' (l - 1)).length ≤ 2 := dec_le
    simp only [List.length_append, List.length_nil, List.length_cons]
    omega
  · exact Nat.zero_le _
theorem tail_len {l s h : Nat} (hs : 0 < l → s = 0) : (tB l).length + (tC s).length + (tE s h).length ≤ 3 := by
  have h1 := tB_len l
  have h2 : (dec' h).length ≤ 2 := dec_le
  unfold tC tE
  by_cases e : 0 < l
  · have q := hs e
    subst q
    rw [if_neg (by decide), if_neg (by decide)]
    exact h1
  · have e0 : (tB l).length = 0 := by
      unfold tB
      rw [if_neg e]
      rfl
    rw [e0]
    by_cases e1 : s = 1
    · subst e1
      rw [if_pos rfl, if_neg (by decide)]
      decide
    · rw [if_neg e1]
      split
      · simp only [List.length_append, List.length_nil, List.length_cons]
        omega
      · decide
theorem tAll_len {j r c p o l s h : Nat} (hr : r < 10) (hc : c < 10) (hp : p < 10) (hs : 0 < l → s = 0) : (tAll j r c p o l s h).length ≤ 14 := by
  have h1 := tA_len (j := j) (o := o) hr hc hp
  have h2 := tail_len (h := h) hs
  unfold tAll
  rw [List.length_append, List.length_append, List.length_append]
  omega
theorem wt_tx {D : DM} {M : Nat → Int32} {j r c p s h l o : Nat} (t : TFj (dF D 0) M j r c p s h l) (ho : outp (dF D 0) (nI j) (fI (dF D 0) 1) (fI (dF D 0) 2) = nI o) (ho2 : o ≤ 90) : tx (oTx (zW6 D (zW5 D (nI j)) (nI j))) (tAll j r c p o l s h) := by
  have hlm := lm_res t
  obtain ⟨t1, t2, t3, t4, t5, t6, t7, t8, t9, t10, v0, v1, v2, v3, v4, v5, v6⟩ := t
  have hA : tx (oTx (zW5 D (nI j))) (tA j r c p o) := by
    show tx (tNum (tAdd (tNum (tAdd (tNum (tAdd (tNum (tAdd (tNum (0, dR D 2) (nI j)) 64) (vAt 12 (fA (dF D 0) 0) (nI j))) 44) (vAt 12 (fA (dF D 0) 1) (nI j))) 112) (vAt 12 (fA (dF D 0) 2) (nI j))) 61) (outp (dF D 0) (nI j) (fI (dF D 0) 1) (fI (dF D 0) 2))) _
    rw [v0, v1, v2, ho]
    have L : ∀ v : Nat, (dec' v).length ≤ 2 := fun v => dec_le
    have a0 : tx (0, dR D 2) [] := ⟨rfl, fun i hi => absurd hi (Nat.not_lt_zero i)⟩
    have a1 := tx_num (v := j) a0 (by decide) (by omega)
    have a2 := tx_add (c := 64) (x := 64) a1 (by simp only [List.length_append, List.length_nil, List.length_cons]; have := L j; omega) (by decide)
    have a3 := tx_num (v := r) a2 (by simp only [List.length_append, List.length_nil, List.length_cons]; have := L j; omega) (by omega)
    have a4 := tx_add (c := 44) (x := 44) a3 (by simp only [List.length_append, List.length_nil, List.length_cons]; have := L j; have := L r; omega) (by decide)
    have a5 := tx_num (v := c) a4 (by simp only [List.length_append, List.length_nil, List.length_cons]; have := L j; have := L r; omega) (by omega)
    have a6 := tx_add (c := 112) (x := 112) a5 (by simp only [List.length_append, List.length_nil, List.length_cons]; have := L j; have := L r; have := L c; omega) (by decide)
    have a7 := tx_num (v := p) a6 (by simp only [List.length_append, List.length_nil, List.length_cons]; have := L j; have := L r; have := L c; omega) (by omega)
    have a8 := tx_add (c := 61) (x := 61) a7 (by simp only [List.length_append, List.length_nil, List.length_cons]; have := L j; have := L r; have := L c; have := L p; omega) (by decide)
    exact tx_num (v := o) a8 (by simp only [List.length_append, List.length_nil, List.length_cons]; have := L j; have := L r; have := L c; have := L p; omega) (by omega)
  have hl := tA_len (j := j) (o := o) (show r < 10 by omega) (show c < 10 by omega) (show p < 10 by omega)
  unfold tAll zW6
  obtain ⟨z, -, -, ⟨e1, -, -, e4⟩ | ⟨e1, e2, -, e4, e5⟩⟩ := hlm
  · rw [if_neg (ntrue e4)]
    have hB : tB l = [] := by
      unfold tB
      rw [if_neg (by omega)]
    rw [hB, List.append_nil]
    have s2 : inSt (dF D 0) (nI j) 2 = decide (s = 1) := v6 1 (by decide)
    have s3 : inSt (dF D 0) (nI j) 3 = decide (s = 2) := v6 2 (by decide)
    by_cases q1 : s = 1
    · rw [if_pos (by rw [s2]; exact decide_eq_true q1)]
      subst q1
      have hE : tE 1 h = [] := if_neg (by decide)
      rw [hE, List.append_nil]
      exact tx_add (c := 120) (x := 120) hA (by omega) (by decide)
    · rw [if_neg (by rw [s2]; exact ntrue (decide_eq_false q1))]
      have hC : tC s = [] := if_neg q1
      rw [hC, List.append_nil]
      by_cases q2 : s = 2
      · rw [if_pos (by rw [s3]; exact decide_eq_true q2), v3]
        subst q2
        have hE : tE 2 h = [] ++ [115] ++ dec' h := if_pos rfl
        rw [hE]
        show tx (tNum (tAdd (oTx (zW5 D (nI j))) 115) (nI h)) _
        have b1 := tx_add (c := 115) (x := 115) hA (by omega) (by decide)
        have b2 := tx_num (v := h) b1 (by rw [List.length_append]; simp; omega) (by omega)
        rw [List.append_assoc] at b2
        exact b2
      · rw [if_neg (by rw [s3]; exact ntrue (decide_eq_false q2))]
        have hE : tE s h = [] := if_neg q2
        rw [hE, List.append_nil]
        exact hA
  · rw [if_pos e5, e4]
    subst e2
    have hC : tC 0 = [] := if_neg (by decide)
    have hE : tE 0 h = [] := if_neg (by decide)
    have hB : tB l = [] ++ [60] ++ dec' (l - 1) := if_pos e1
    rw [hC, hE, List.append_nil, List.append_nil, hB]
    show tx (tNum (tAdd (oTx (zW5 D (nI j))) 60) (nI (l - 1))) _
    have b1 := tx_add (c := 60) (x := 60) hA (by omega) (by decide)
    have b2 := tx_num (v := l - 1) b1 (by rw [List.length_append]; simp; omega) (by omega)
    rw [List.append_assoc] at b2
    exact b2
/-! the world with more places -/
theorem isF.ext {G G' : GX} {N N' b : Nat} {S S' : Nat → va_E} {F : FM} (h : isF G N S b F) (hE : Ext G G' N) (hN : N ≤ N') (e : ∀ k, b ≤ k → k ≤ b + 9 → S' k = S k) : isF G' N' S' b F := by
  obtain ⟨h0, h1, h2, h3, h4, h5, h6, h7, h8, h9, h10⟩ := h
  have ai : ∀ n f, arI G' n f = arI G n f := fun n f => by unfold arI gI; rw [hE.2.2.1]
  have fo : farmO G' b F = farmO G b F := by
    unfold farmO
    rw [hE.ad (show b + 1 < N by omega), hE.ad (show b + 2 < N by omega), hE.ad (show b + 3 < N by omega), hE.ad (show b + 4 < N by omega), hE.ad (show b + 5 < N by omega), hE.ad (show b + 6 < N by omega), hE.ad (show b + 7 < N by omega), hE.ad (show b + 8 < N by omega), hE.ad (show b + 9 < N by omega)]
  refine ⟨by omega, ?_, ?_, ?_, ?_, ?_, ?_, ?_, ?_, ?_, ?_⟩
  · rw [e _ (by omega) (by omega), h1, fo]
  all_goals rw [e _ (by omega) (by omega), ai]; assumption
theorem isT.ext {G G' : GX} {N N' b : Nat} {S S' : Nat → va_E} {T : TX} (h : isT G N S b T) (hE : Ext G G' N) (hN : N ≤ N') (e : ∀ k, b ≤ k → k ≤ b + 1 → S' k = S k) : isT G' N' S' b T := by
  obtain ⟨h0, h1, h2⟩ := h
  refine ⟨by omega, ?_, ?_⟩
  · rw [e _ (by omega) (by omega), h1, hE.ad h0]
  · rw [e _ (by omega) (by omega), h2]
    unfold arC gC
    rw [hE.2.2.1]
theorem isD.ext {G G' : GX} {N N' : Nat} {S S' : Nat → va_E} {D : DM} (h : isD G N S D) (hE : Ext G G' N) (hN : N ≤ N') (e : ∀ k, k ≤ 118 → S' k = S k) : isD G' N' S' D := by
  have hn := h.1
  refine ⟨by omega, h.f0.ext hE hN (fun k _ _ => e k (by omega)), h.f1.ext hE hN (fun k _ _ => e k (by omega)), h.f2.ext hE hN (fun k _ _ => e k (by omega)), fun i hi => (h.fk hi).ext hE hN (fun k _ _ => e k (by omega)), ?_, ?_, ?_, ?_, h.t1.ext hE hN (fun k _ _ => e k (by omega)), ?_, h.t2.ext hE hN (fun k _ _ => e k (by omega))⟩
  · rw [e _ (by decide), h.o0]
    unfold dspO
    rw [hE.ad (show 1 < N by omega), hE.ad (show 11 < N by omega), hE.ad (show 21 < N by omega), hE.ad (show 31 < N by omega), hE.ad (show 113 < N by omega), hE.ad (show 117 < N by omega)]
  · rw [e _ (by decide), h.o31]
    unfold hisO
    rw [hE.ad (show 32 < N by omega)]
  · rw [e _ (by decide), h.o32]
    have eg : gF G' = gF G := by unfold gF; rw [hE.2.2.1]
    rw [eg]
    have ef : ∀ i, i < 8 → ad G' (33 + 10 * i) = ad G (33 + 10 * i) := fun i hi => hE.ad (by omega)
    sorry
  · rw [e _ (by decide), h.o113]
    unfold rdrO
    rw [hE.ad (show 114 < N by omega), hE.ad (show 116 < N by omega)]
  · rw [e _ (by decide), h.o116]
    unfold arI gI
    rw [hE.2.2.1]
