/-! THE TEXT of a turbine. -/
def tx (T : TX) (cs : List Nat) : Prop := T.1 = nI cs.length ∧ ∀ i, i < cs.length → T.2 i = nI (cs.getD i 0)
theorem tx_add {T : TX} {cs : List Nat} {c : Nat} {x : Int32} (h : tx T cs) (hl : cs.length < 60) (hx : vp_nar .char x = nI c) : tx (tAdd T x) (cs ++ [c]) := by
  obtain ⟨h1, h2⟩ := h
  unfold tAdd
  rw [h1, if_neg (nI_pos (by omega)), if_neg (nI_ge hl (by decide))]
  refine ⟨?_, fun i hi => ?_⟩
  · show nI cs.length + 1 = _
    rw [nI_1, List.length_append]
    rfl
  · show upd T.2 (nI cs.length).toNatClampNeg _ i = _
    rw [List.length_append] at hi
    simp at hi
    rw [nI_clamp (by omega), hx]
    unfold upd
    by_cases e : i = cs.length
    · subst e
      rw [if_pos rfl, getD_r (Nat.le_refl _), Nat.sub_self]
      rfl
    · rw [if_neg e, getD_l (by omega)]
      exact h2 i (by omega)
theorem tn_a : ∀ v, v < 100 → vp_nar .char (chr' (48 + (nI v - nI v / 10 * 10))) = nI (48 + v % 10) := by decide +kernel
theorem tn_b : ∀ v, v < 100 → vp_nar .char (chr' (48 + (nI v / 10 - nI v / 10 / 10 * 10))) = nI (48 + v / 10) := by decide +kernel
theorem tn_c : ∀ v, v < 100 → (nI v < 10 ↔ v < 10) := by decide +kernel
theorem tx_num {T : TX} {cs : List Nat} {v : Nat} (h : tx T cs) (hl : cs.length + 2 ≤ 60) (hv : v < 100) : tx (tNum T (nI v)) (cs ++ dec' v) := by
  unfold tNum tNu1 dec'
  by_cases e : v < 10
  · rw [if_pos ((tn_c v hv).mpr e), if_pos e]
    have q := tx_add h (by omega) (tn_a v hv)
    rw [show v % 10 = v by omega] at q
    exact q
  · rw [if_neg (fun z => e ((tn_c v hv).mp z)), if_neg e]
    have q := tx_add h (by omega) (tn_b v hv)
    have q2 := tx_add q (by rw [List.length_append]; simp; omega) (tn_a v hv)
    rw [List.append_assoc] at q2
    exact q2
theorem dec_le {v : Nat} : (dec' v).length ≤ 2 := by
  rw [dec_len]
  unfold dgs'
  split <;> omega
theorem dec_1 {v : Nat} (h : v < 10) : (dec' v).length = 1 := by
  rw [dec_len]
  exact if_pos h
/-- the text up to the output; with the limit; with the cross; with the hours -/
def tA (j r c p o : Nat) : List Nat := [] ++ dec' j ++ [64] ++ dec' r ++ [44] ++ dec' c ++ [112] ++ dec' p ++ [61] ++ dec' o
def tB (l : Nat) : List Nat := if 0 < l then [] ++ [60] ++ dec' (l - 1) else []
def tC (s : Nat) : List Nat := if s = 1 then [120] else []
def tE (s h : Nat) : List Nat := if s = 2 then [] ++ [115] ++ dec' h else []
def tAll (j r c p o l s h : Nat) : List Nat := tA j r c p o ++ tB l ++ tC s ++ tE s h
theorem tA_len {j r c p o : Nat} (hr : r < 10) (hc : c < 10) (hp : p < 10) : (tA j r c p o).length ≤ 11 := by
  unfold tA
  simp only [List.length_append, List.length_nil, List.length_cons, dec_1 hr, dec_1 hc, dec_1 hp]
  have h1 : (dec' j).length ≤ 2 := dec_le
  have h2 : (dec' o).length ≤ 2 := dec_le
  omega
theorem tB_len (l : Nat) : (tB l).length ≤ 3 := by
  unfold tB
  split
  · have h2 : (dec' (l - 1)).length ≤ 2 := dec_le
    simp only [List.length_append, List.length_nil, List.length_cons]
    omega
  · exact Nat.zero_le _
theorem tail_len {l s h : Nat} (hs : 0 < l → s = 0) : (tB l).length + (tC s).length + (tE s h).length ≤ 3 := by
  have h1 := tB_len l
  have h2 : (dec' h).length ≤ 2 := dec_le
  unfold tC tE
  by_cases e : 0 < l
  · have q := hs e
    subst q
    rw [if_neg (by decide), if_neg (by decide)]
    exact h1
  · have e0 : (tB l).length = 0 := by
      unfold tB
      rw [if_neg e]
      rfl
    rw [e0]
    by_cases e1 : s = 1
    · subst e1
      rw [if_pos rfl, if_neg (by decide)]
      decide
    · rw [if_neg e1]
      split
      · simp only [List.length_append, List.length_nil, List.length_cons]
        omega
      · decide
theorem tAll_len {j r c p o l s h : Nat} (hr : r < 10) (hc : c < 10) (hp : p < 10) (hs : 0 < l → s = 0) : (tAll j r c p o l s h).length ≤ 14 := by
  have h1 := tA_len (j := j) (o := o) hr hc hp
  have h2 := tail_len (h := h) hs
  unfold tAll
  rw [List.length_append, List.length_append, List.length_append]
  omega
theorem wt_tx {D : DM} {M : Nat → Int32} {j r c p s h l o : Nat} (t : TFj (dF D 0) M j r c p s h l) (ho : outp (dF D 0) (nI j) (fI (dF D 0) 1) (fI (dF D 0) 2) = nI o) (ho2 : o ≤ 90) : tx (oTx (zW6 D (zW5 D (nI j)) (nI j))) (tAll j r c p o l s h) := by
  have hlm := lm_res t
  obtain ⟨t1, t2, t3, t4, t5, t6, t7, t8, t9, t10, v0, v1, v2, v3, v4, v5, v6⟩ := t
  have hA : tx (oTx (zW5 D (nI j))) (tA j r c p o) := by
    unfold zW5
    rw [oTx_zNm, oTx_zNm, oTx_zNm, oTx_zNm, oTx_oT, oTx_oT]
    rw [v0, v1, v2, ho]
    have L : ∀ v : Nat, (dec' v).length ≤ 2 := fun v => dec_le
    have a0 : tx (0, dR D 2) [] := ⟨rfl, fun i hi => absurd hi (Nat.not_lt_zero i)⟩
    have a1 := tx_num (v := j) a0 (by decide) (by omega)
    have a2 := tx_add (c := 64) (x := 64) a1 (by simp only [List.length_append, List.length_nil, List.length_cons]; have := L j; omega) (by decide)
    have a3 := tx_num (v := r) a2 (by simp only [List.length_append, List.length_nil, List.length_cons]; have := L j; omega) (by omega)
    have a4 := tx_add (c := 44) (x := 44) a3 (by simp only [List.length_append, List.length_nil, List.length_cons]; have := L j; have := L r; omega) (by decide)
    have a5 := tx_num (v := c) a4 (by simp only [List.length_append, List.length_nil, List.length_cons]; have := L j; have := L r; omega) (by omega)
    have a6 := tx_add (c := 112) (x := 112) a5 (by simp only [List.length_append, List.length_nil, List.length_cons]; have := L j; have := L r; have := L c; omega) (by decide)
    have a7 := tx_num (v := p) a6 (by simp only [List.length_append, List.length_nil, List.length_cons]; have := L j; have := L r; have := L c; omega) (by omega)
    have a8 := tx_add (c := 61) (x := 61) a7 (by simp only [List.length_append, List.length_nil, List.length_cons]; have := L j; have := L r; have := L c; have := L p; omega) (by decide)
    exact tx_num (v := o) a8 (by simp only [List.length_append, List.length_nil, List.length_cons]; have := L j; have := L r; have := L c; have := L p; omega) (by omega)
  have hl := tA_len (j := j) (o := o) (show r < 10 by omega) (show c < 10 by omega) (show p < 10 by omega)
  unfold tAll zW6
  generalize zW5 D (nI j) = E at hA ⊢
  obtain ⟨z, -, -, ⟨e1, -, -, e4⟩ | ⟨e1, e2, -, e4, e5⟩⟩ := hlm
  · rw [if_neg (ntrue e4)]
    have hB : tB l = [] := by
      unfold tB
      rw [if_neg (by omega)]
    rw [hB, List.append_nil]
    have s2 : inSt (dF D 0) (nI j) 2 = decide (s = 1) := v6 1 (by decide)
    have s3 : inSt (dF D 0) (nI j) 3 = decide (s = 2) := v6 2 (by decide)
    by_cases q1 : s = 1
    · rw [if_pos (by rw [s2]; exact decide_eq_true q1)]
      subst q1
      have hE : tE 1 h = [] := if_neg (by decide)
      rw [hE, List.append_nil]
      rw [oTx_oT]
      exact tx_add (c := 120) (x := 120) hA (by omega) (by decide)
    · rw [if_neg (by rw [s2]; exact ntrue (decide_eq_false q1))]
      have hC : tC s = [] := if_neg q1
      rw [hC, List.append_nil]
      by_cases q2 : s = 2
      · rw [if_pos (by rw [s3]; exact decide_eq_true q2), v3]
        subst q2
        have hE : tE 2 h = [] ++ [115] ++ dec' h := if_pos rfl
        rw [hE]
        rw [oTx_zNm]
        have b1 := tx_add (c := 115) (x := 115) hA (by omega) (by decide)
        have b2 := tx_num (v := h) b1 (by rw [List.length_append]; simp; omega) (by omega)
        rw [List.append_assoc] at b2
        exact b2
      · rw [if_neg (by rw [s3]; exact ntrue (decide_eq_false q2))]
        have hE : tE s h = [] := if_neg q2
        rw [hE, List.append_nil]
        exact hA
  · rw [if_pos e5, e4]
    subst e2
    have hC : tC 0 = [] := if_neg (by decide)
    have hE : tE 0 h = [] := if_neg (by decide)
    have hB : tB l = [] ++ [60] ++ dec' (l - 1) := if_pos e1
    rw [hC, hE, List.append_nil, List.append_nil, hB]
    rw [oTx_zNm]
    have b1 := tx_add (c := 60) (x := 60) hA (by omega) (by decide)
    have b2 := tx_num (v := l - 1) b1 (by rw [List.length_append]; simp; omega) (by omega)
    rw [List.append_assoc] at b2
    exact b2
/-! the world with more places -/
/-- the same cell -/
def EqE (e e' : va_E) : Prop := ∀ (D : va_G) (cl : List vw_C) (q : Nat) (H : Heap), va_at D cl (q, e) H ↔ va_at D cl (q, e') H
theorem EqE.rf (e : va_E) : EqE e e := fun _ _ _ _ => Iff.rfl
theorem EqE.of {e e' : va_E} (h : e = e') : EqE e e' := h ▸ EqE.rf e
theorem EqE.tr {e e' e2 : va_E} (h : EqE e e') (k : EqE e' e2) : EqE e e2 := fun D cl q H => (h D cl q H).trans (k D cl q H)
theorem EqE.sy {e e' : va_E} (h : EqE e e') : EqE e' e := fun D cl q H => (h D cl q H).symm
theorem EqE_arr {cA : ClassId} {n : Nat} {f g : Nat → Option Nat} (h : ∀ i, i < n → f i = g i) : EqE (.inl (cA, n, .inr (.inr (.inr (.inr f))))) (.inl (cA, n, .inr (.inr (.inr (.inr g))))) := by
  intro D cl q H
  have e : arrV cA n (fun j => va_rf (f j)) = arrV cA n (fun j => va_rf (g j)) := by
    unfold arrV
    have e2 : (Array.ofFn (n := n) fun j => va_rf (f j.val)) = (Array.ofFn (n := n) fun j => va_rf (g j.val)) := congrArg Array.ofFn (funext fun j => by rw [h j.val j.isLt])
    rw [e2]
  show H[q]? = some (arrV cA n (fun j => va_rf (f j))) ↔ H[q]? = some (arrV cA n (fun j => va_rf (g j)))
  rw [e]
section EQV
variable {X : CX} {G : GX} {nL N pc : Nat} {lo : List (Nat × Value)} {st : List Value} {S : Nat → va_E} {a b : Nat}
theorem r_eqv {S' : Nat → va_E} (hS : ∀ k, k < N → EqE (S k) (S' k)) (kk : AW X G nL N pc lo st S' a b) : AW X G nL N pc lo st S a b := by
  intro H locs ls hP hS1 hl
  refine kk H locs ls (fun k q hq => ?_) hS1 hl
  obtain ⟨hk, rfl⟩ := wl_of hq
  exact (hS k hk _ _ _ _).mp (hP k (ad G k, S k) (wl_get hk))
theorem r_dropE {N1 : Nat} {G1 : GX} {S1 : Nat → va_E} (hE : Ext G G1 N) (hN : N ≤ N1) (hS : ∀ k, k < N → EqE (S1 k) (S k)) (kk : AW X G nL N pc lo st S a b) : AW X G1 nL N1 pc lo st S1 a b := by
  intro H locs ls hP hS1 hl
  have eA : AA G1 = AA G := by unfold AA; rw [hE.2.1]
  refine kk H locs ls (fun k q hq => ?_) (by rw [← eA]; exact hS1) hl
  obtain ⟨hk, rfl⟩ := wl_of hq
  have h1 := hP k (ad G1 k, S1 k) (wl_get (by omega))
  rw [hE.1, hE.ad hk] at h1
  exact (hS k hk _ _ _ _).mp h1
end EQV
/-- the row of the kept farms, by the world's addresses -/
def fx (G : GX) (S : Nat → va_E) : Nat → va_E := va_up S 32 (.inl (gF G, 8, .inr (.inr (.inr (.inr (fun i => some (ad G (33 + 10 * i))))))))
theorem fx_ne (G : GX) (S : Nat → va_E) {k : Nat} (h : k ≠ 32) : fx G S k = S k := up_ne _ _ h
theorem isD.ext {G G' : GX} {N N' : Nat} {S S' : Nat → va_E} {D : DM} (h : isD G N S D) (hE : Ext G G' N) (hN : N ≤ N') (e : ∀ k, k ≤ 118 → S' k = S k) : isD G' N' (fx G' S') D ∧ ∀ k, EqE (S' k) (fx G' S' k) := by
  have hn := h.1
  have e' : ∀ k, k ≤ 118 → k ≠ 32 → fx G' S' k = S k := fun k k1 k2 => (fx_ne G' S' k2).trans (e k k1)
  refine ⟨⟨by omega, h.f0.ext hE hN (fun k _ _ => e' k (by omega) (by omega)), h.f1.ext hE hN (fun k _ _ => e' k (by omega) (by omega)), h.f2.ext hE hN (fun k _ _ => e' k (by omega) (by omega)), fun i hi => (h.fk hi).ext hE hN (fun k _ _ => e' k (by omega) (by omega)), ?_, ?_, ?_, ?_, h.t1.ext hE hN (fun k _ _ => e' k (by omega) (by omega)), ?_, h.t2.ext hE hN (fun k _ _ => e' k (by omega) (by omega))⟩, fun k => ?_⟩
  · rw [e' _ (by decide) (by decide), h.o0]
    unfold dspO
    rw [hE.ad (show 1 < N by omega), hE.ad (show 11 < N by omega), hE.ad (show 21 < N by omega), hE.ad (show 31 < N by omega), hE.ad (show 113 < N by omega), hE.ad (show 117 < N by omega)]
  · rw [e' _ (by decide) (by decide), h.o31]
    unfold hisO
    rw [hE.ad (show 32 < N by omega)]
  · exact up_at _ _ _
  · rw [e' _ (by decide) (by decide), h.o113]
    unfold rdrO
    rw [hE.ad (show 114 < N by omega), hE.ad (show 116 < N by omega)]
  · rw [e' _ (by decide) (by decide), h.o116]
    unfold arI gI
    rw [hE.2.2.1]
  · by_cases z : k = 32
    · subst z
      have e1 : S' 32 = .inl (gF G', 8, .inr (.inr (.inr (.inr (fun i => some (ad G (33 + 10 * i))))))) := by
        rw [e 32 (by decide), h.o32]
        unfold gF
        rw [hE.2.2.1]
      rw [e1]
      unfold fx
      rw [up_at]
      exact EqE_arr (fun i hi => by rw [hE.ad (show 33 + 10 * i < N by omega)])
    · rw [fx_ne G' S' z]
      exact EqE.rf _
