/-! THE READER OF COMMANDS: a pattern, a command. -/
section PAT
variable {c : Int32} {m p q : Nat} {Q0 Q : MM} {D : DM}
def FN (c : Int32) (m : Nat) (Q0 : MM) (p q : Nat) (r : DM × Bool) (Q' : MM) : Prop := (r.2 = true ∧ ∃ p' na, p ≤ p' ∧ na ≤ 3 ∧ (c = 119 → 0 < na) ∧ TS c m na Q0 p' q r.1 Q') ∨ (r.2 = false ∧ er q r.1 Q')
theorem FN.lo {p1 : Nat} {r : DM × Bool} {Q' : MM} (h : FN c m Q0 p1 q r Q') (hp : p ≤ p1) : FN c m Q0 p q r Q' := by
  rcases h with ⟨a, p', na, b, d⟩ | h
  · exact Or.inl ⟨a, p', na, Nat.le_trans hp b, d⟩
  · exact Or.inr h
theorem rPs_s (i j k : Nat) (D : DM) : rPs i j (k + 1) D = if (rPt D (sCh i j)).2 then rPs i (j + 1) k (rPt D (sCh i j)).1 else ((rPt D (sCh i j)).1, false) := rfl
theorem FN_st {i j k : Nat} {D : DM} {r : DM × Bool} {A : Prop} {E Q' : MM} (e : rPt D (sCh i j) = r) (h : (r.2 = true ∧ A) ∨ (r.2 = false ∧ er q r.1 E)) (hq : q ≤ 60) (ke : 0 ≤ mI E 13 → mI Q' 13 = mI E 13) (ok : A → FN c m Q0 p q (rPs i (j + 1) k r.1) Q') : FN c m Q0 p q (rPs i j (k + 1) D) Q' := by
  rw [rPs_s, e]
  rcases h with ⟨h1, h2⟩ | ⟨h1, p1, x1, x2, x3⟩
  · rw [if_pos h1]
    exact ok h2
  · rw [if_neg (by rw [h1]; exact Bool.false_ne_true)]
    exact Or.inr ⟨rfl, p1, x1, x2, (ke (by rw [x3]; exact nI_pos' (by omega))).trans x3⟩
theorem keN {E : MM} (d : Nat) (i : Int32) (h : 0 ≤ mI E 13) : mI (qPut (qNu d E) i) 13 = mI E 13 := by
  unfold qNu
  rw [if_pos h]
  rfl
theorem keB {E : MM} (x i : Int32) (h : 0 ≤ mI E 13) : mI (qPut (qBe x E) i) 13 = mI E 13 := by
  have e : qNe E x = E := if_pos h
  unfold qBe
  rw [e]
  exact keN 3 i h
theorem sc_1 : ∀ j, j < 3 → sCh 1 j = 49 := by decide +kernel
theorem sc_2 : sCh 2 0 = 110 := by decide +kernel
theorem sc_3 : sCh 3 0 = 110 ∧ sCh 3 1 = 58 ∧ sCh 3 2 = 110 := by decide +kernel
theorem sc_4 : sCh 4 0 = 119 ∧ sCh 4 1 = 110 := by decide +kernel
theorem sc_5 : sCh 5 0 = 110 ∧ sCh 5 1 = 58 ∧ sCh 5 2 = 110 ∧ sCh 5 3 = 42 ∧ sCh 5 4 = 110 := by decide +kernel
theorem pt_1 {x : Int32} (h : x = 49) (D : DM) : rPt D x = rDg 1 D := by subst h; exact if_pos rfl
theorem pt_n {x : Int32} (h : x = 110) (D : DM) : rPt D x = rDg 3 D := by subst h; exact (if_neg (by decide)).trans (if_pos rfl)
theorem pt_w {x : Int32} (h : x = 119) (D : DM) : rPt D x = rDr D := by subst h; exact (if_neg (by decide)).trans ((if_neg (by decide)).trans (if_pos rfl))
theorem pt_c {x : Int32} (h : x = 58) (D : DM) : rPt D x = rSn D (nI 58) := by subst h; exact (if_neg (by decide)).trans ((if_neg (by decide)).trans (if_neg (by decide)))
theorem pt_s {x : Int32} (h : x = 42) (D : DM) : rPt D x = rSn D (nI 42) := by subst h; exact (if_neg (by decide)).trans ((if_neg (by decide)).trans (if_neg (by decide)))
theorem FN_end {i j na p' : Nat} {D : DM} {Q' : MM} (hp : p ≤ p') (hna : na ≤ 3) (hc : c = 119 → 0 < na) (t : TS c m na Q0 p' q D Q') : FN c m Q0 p q (rPs i j 0 D) Q' := Or.inl ⟨rfl, p', na, hp, hna, hc, t⟩
theorem keS {E : MM} (x i : Int32) (h : 0 ≤ mI E 13) : mI (qPut (qNu 3 (qNe E x)) i) 13 = mI E 13 := by
  have e : qNe E x = E := if_pos h
  rw [e]
  exact keN 3 i h
variable {i1 i2 i3 : Int32}
/-- n -/
theorem ps_2 (hi1 : i1 = nI (4 * m + 1 + 0)) (h : TS c m 0 Q0 p q D Q) (hm : m ≤ 60) (hw : ¬ c = 119) : FN c m Q0 p q (rPs 2 0 1 D) (qPut (qNu 3 Q) i1) :=
  FN_st (pt_n sc_2 D) (s_num h (by decide) hm (fun z => hw z.1) (d := 2) (by decide) hi1) h.1.1.1 (fun _ => rfl) (fun ⟨p', a, t⟩ => FN_end a (by decide) (fun z => absurd z hw) t)
/-- n:n -/
theorem ps_3 (hi1 : i1 = nI (4 * m + 1 + 0)) (hi2 : i2 = nI (4 * m + 1 + 1)) (h : TS c m 0 Q0 p q D Q) (hm : m ≤ 60) (hw : ¬ c = 119) : FN c m Q0 p q (rPs 3 0 3 D) (qPut (qNu 3 (qNe (qPut (qNu 3 Q) i1) (nI 58))) i2) :=
  FN_st (pt_n sc_3.1 D) (s_num h (by decide) hm (fun z => hw z.1) (d := 2) (by decide) hi1) h.1.1.1 (fun z => keS _ _ z) fun ⟨p1, a1, t1⟩ =>
  FN_st (pt_c sc_3.2.1 _) (s_sn t1 (x := 58) (by decide) (by decide)) h.1.1.1 (fun z => keN _ _ z) fun t2 =>
  FN_st (pt_n sc_3.2.2 _) (s_num t2 (by decide) hm (fun z => hw z.1) (d := 2) (by decide) hi2) h.1.1.1 (fun _ => rfl) fun ⟨p3, a3, t3⟩ =>
  FN_end (by omega) (by decide) (fun z => absurd z hw) t3
/-- a direction, n -/
theorem ps_4 (hi1 : i1 = nI (4 * m + 1 + 0)) (hi2 : i2 = nI (4 * m + 1 + 1)) (h : TS 119 m 0 Q0 p q D Q) (hm : m ≤ 60) : FN 119 m Q0 p q (rPs 4 0 2 D) (qPut (qNu 3 (qPut (qWa Q) i1)) i2) := by
  subst hi1
  exact FN_st (pt_w sc_4.1 D) (s_dr h hm) h.1.1.1 (fun z => keN _ _ z) fun t1 =>
    FN_st (pt_n sc_4.2 _) (s_num t1 (by decide) hm (fun z => absurd z.2 (by decide)) (d := 2) (by decide) hi2) h.1.1.1 (fun _ => rfl) fun ⟨p2, a2, t2⟩ =>
    FN_end (by omega) (by decide) (fun _ => by decide) t2
/-- n:n*n -/
theorem ps_5 (hi1 : i1 = nI (4 * m + 1 + 0)) (hi2 : i2 = nI (4 * m + 1 + 1)) (hi3 : i3 = nI (4 * m + 1 + 2)) (h : TS c m 0 Q0 p q D Q) (hm : m ≤ 60) (hw : ¬ c = 119) : FN c m Q0 p q (rPs 5 0 5 D) (qPut (qNu 3 (qNe (qPut (qNu 3 (qNe (qPut (qNu 3 Q) i1) (nI 58))) i2) (nI 42))) i3) :=
  FN_st (pt_n sc_5.1 D) (s_num h (by decide) hm (fun z => hw z.1) (d := 2) (by decide) hi1) h.1.1.1 (fun z => (keS _ _ (by rw [keS _ _ z]; exact z)).trans (keS _ _ z)) fun ⟨p1, a1, t1⟩ =>
  FN_st (pt_c sc_5.2.1 _) (s_sn t1 (x := 58) (by decide) (by decide)) h.1.1.1 (fun z => (keS _ _ (by rw [keN _ _ z]; exact z)).trans (keN _ _ z)) fun t2 =>
  FN_st (pt_n sc_5.2.2.1 _) (s_num t2 (by decide) hm (fun z => hw z.1) (d := 2) (by decide) hi2) h.1.1.1 (fun z => keS _ _ z) fun ⟨p3, a3, t3⟩ =>
  FN_st (pt_s sc_5.2.2.2.1 _) (s_sn t3 (x := 42) (by decide) (by decide)) h.1.1.1 (fun z => keN _ _ z) fun t4 =>
  FN_st (pt_n sc_5.2.2.2.2 _) (s_num t4 (by decide) hm (fun z => hw z.1) (d := 2) (by decide) hi3) h.1.1.1 (fun _ => rfl) fun ⟨p5, a5, t5⟩ =>
  FN_end (by omega) (by decide) (fun z => absurd z hw) t5
/-- 111 -/
theorem ps_1 (hi1 : i1 = nI (4 * m + 1 + 0)) (hi2 : i2 = nI (4 * m + 1 + 1)) (hi3 : i3 = nI (4 * m + 1 + 2)) (h : TS c m 0 Q0 p q D Q) (hm : m ≤ 60) (hw : ¬ c = 119) : FN c m Q0 p q (rPs 1 0 3 D) (qPut (qNu 1 (qPut (qNu 1 (qPut (qNu 1 Q) i1)) i2)) i3) :=
  FN_st (pt_1 (sc_1 0 (by decide)) D) (s_num h (by decide) hm (fun z => hw z.1) (d := 0) (by decide) hi1) h.1.1.1 (fun z => (keN _ _ (by rw [keN _ _ z]; exact z)).trans (keN _ _ z)) fun ⟨p1, a1, t1⟩ =>
  FN_st (pt_1 (sc_1 1 (by decide)) _) (s_num t1 (by decide) hm (fun z => hw z.1) (d := 0) (by decide) hi2) h.1.1.1 (fun z => keN _ _ z) fun ⟨p2, a2, t2⟩ =>
  FN_st (pt_1 (sc_1 2 (by decide)) _) (s_num t2 (by decide) hm (fun z => hw z.1) (d := 0) (by decide) hi3) h.1.1.1 (fun _ => rfl) fun ⟨p3, a3, t3⟩ =>
  FN_end (by omega) (by decide) (fun z => absurd z hw) t3
end PAT
/-! what is behind a letter -/
theorem ps_6 {c : Int32} {m p q : Nat} {Q0 Q : MM} {D : DM} (h : TS c m 0 Q0 p q D Q) (hw : ¬ c = 119) : FN c m Q0 p q (rPs 6 0 0 D) Q := FN_end (Nat.le_refl _) (by decide) (fun z => absurd z hw) h
theorem qki_97 (i : Int32) (Q : MM) : qKi (nI 97) i Q = qPut (qNu 1 (qPut (qNu 1 (qPut (qNu 1 Q) (i + 1))) (i + 2))) (i + 3) := if_pos (by decide)
theorem qki_98 (i : Int32) (Q : MM) : qKi (nI 98) i Q = qPut (qNu 3 (qNe (qPut (qNu 3 (qNe (qPut (qNu 3 Q) (i + 1)) (nI 58))) (i + 2)) (nI 42))) (i + 3) := (if_neg (by decide)).trans (if_pos (by decide))
theorem qki_99 (i : Int32) (Q : MM) : qKi (nI 99) i Q = qPut (qNu 3 (qNe (qPut (qNu 3 Q) (i + 1)) (nI 58))) (i + 2) := (if_neg (by decide)).trans ((if_neg (by decide)).trans (if_pos (by decide)))
theorem qki_100 (i : Int32) (Q : MM) : qKi (nI 100) i Q = Q := (if_neg (by decide)).trans ((if_neg (by decide)).trans ((if_neg (by decide)).trans (if_pos (by decide))))
theorem qki_115 (i : Int32) (Q : MM) : qKi (nI 115) i Q = qPut (qNu 3 (qNe (qPut (qNu 3 Q) (i + 1)) (nI 58))) (i + 2) := (if_neg (by decide)).trans ((if_neg (by decide)).trans ((if_neg (by decide)).trans ((if_neg (by decide)).trans (if_pos (by decide)))))
theorem qki_118 (i : Int32) (Q : MM) : qKi (nI 118) i Q = Q := (if_neg (by decide)).trans ((if_neg (by decide)).trans ((if_neg (by decide)).trans ((if_neg (by decide)).trans ((if_neg (by decide)).trans (if_pos (by decide))))))
theorem qki_119 (i : Int32) (Q : MM) : qKi (nI 119) i Q = qPut (qNu 3 (qPut (qWa Q) (i + 1))) (i + 2) := (if_neg (by decide)).trans ((if_neg (by decide)).trans ((if_neg (by decide)).trans ((if_neg (by decide)).trans ((if_neg (by decide)).trans ((if_neg (by decide)).trans (if_pos (by decide)))))))
theorem qki_n {k i : Int32} {Q : MM} (h : k = 102 ∨ k = 103 ∨ k = 113 ∨ k = 114 ∨ k = 116 ∨ k = 117) : qKi k i Q = qPut (qNu 3 Q) (i + 1) := by
  have h97 : ¬ k = 97 := by rcases h with rfl | rfl | rfl | rfl | rfl | rfl <;> decide
  have h98 : ¬ k = 98 := by rcases h with rfl | rfl | rfl | rfl | rfl | rfl <;> decide
  have h99 : ¬ k = 99 := by rcases h with rfl | rfl | rfl | rfl | rfl | rfl <;> decide
  have h100 : ¬ k = 100 := by rcases h with rfl | rfl | rfl | rfl | rfl | rfl <;> decide
  have h115 : ¬ k = 115 := by rcases h with rfl | rfl | rfl | rfl | rfl | rfl <;> decide
  have h118 : ¬ k = 118 := by rcases h with rfl | rfl | rfl | rfl | rfl | rfl <;> decide
  have h119 : ¬ k = 119 := by rcases h with rfl | rfl | rfl | rfl | rfl | rfl <;> decide
  unfold qKi
  rw [if_neg h97, if_neg h98, if_neg h99, if_neg h100, if_neg h115, if_neg h118, if_neg h119]
theorem pof_n {k : Int32} (h : k = 102 ∨ k = 103 ∨ k = 113 ∨ k = 114 ∨ k = 116 ∨ k = 117) : pOf k = some 2 := by
  rcases h with rfl | rfl | rfl | rfl | rfl | rfl <;> decide
theorem pof_97 : pOf (nI 97) = some 1 := by decide
theorem pof_98 : pOf (nI 98) = some 5 := by decide
theorem pof_99 : pOf (nI 99) = some 3 := by decide
theorem pof_115 : pOf (nI 115) = some 3 := by decide
theorem pof_100 : pOf (nI 100) = some 6 := by decide
theorem pof_118 : pOf (nI 118) = some 6 := by decide
theorem pof_119 : pOf (nI 119) = some 4 := by decide
/-! the letter -/
theorem let_pat : ∀ ch, ch < 127 → isLet (nI ch) = (pOf (nI ch)).isSome := by decide +kernel
theorem let_all : ∀ ch, ch < 127 → isLet (nI ch) = true → (ch = 97 ∨ ch = 98 ∨ ch = 99 ∨ ch = 115) ∨ (ch = 100 ∨ ch = 118) ∨ ch = 119 ∨ ((ch = 102 ∨ ch = 103 ∨ ch = 113) ∨ ch = 114 ∨ ch = 116 ∨ ch = 117) := by decide +kernel
theorem zc_at (f : Nat → Int32) {a : Nat} : ∀ n, a + n < 2 ^ 31 → ∀ i, zc f (nI a) n i = if a ≤ i ∧ i < a + n then 0 else f i
  | 0, _, i => by rw [if_neg (by omega)]; rfl
  | n + 1, h, i => by
    unfold zc
    rw [nI_add, nI_clamp (by omega), upd_at, zc_at f n (by omega) i]
    by_cases e : i = a + n
    · rw [if_pos e, if_pos (by omega)]
    · rw [if_neg e]
      by_cases e2 : a ≤ i ∧ i < a + n
      · rw [if_pos e2, if_pos (by omega)]
      · rw [if_neg e2, if_neg (by omega)]
section CMD
variable {m p q : Nat} {Q : MM} {D : DM}
/-- a command from its letter on -/
def rCm (D : DM) : DM × Bool := match pOf (rSg D) with
  | none => (D, false)
  | some i => rPs i 0 (sLn i) (rN2 D)
theorem rCm_no (h : pOf (rSg D) = none) : rCm D = (D, false) := by unfold rCm; rw [h]
theorem rCm_so {i : Nat} (h : pOf (rSg D) = some i) : rCm D = rPs i 0 (sLn i) (rN2 D) := by unfold rCm; rw [h]
/-- a letter that begins a command -/
def isL (c : Int32) : Prop := ∃ ch, ch < 127 ∧ isLet (nI ch) = true ∧ c = nI ch
def CM (m : Nat) (Q0 : MM) (p q : Nat) (r : DM × Bool) (Q' : MM) : Prop := (r.2 = true ∧ ∃ p' na c, isL c ∧ p ≤ p' ∧ na ≤ 3 ∧ (c = 119 → 0 < na) ∧ TS c m na Q0 p' q r.1 Q') ∨ (r.2 = false ∧ er q r.1 Q')
theorem FN.cm {c : Int32} {r : DM × Bool} {Q' : MM} (h : FN c m Q p q r Q') (hc : isL c) : CM m Q p q r Q' := by
  rcases h with ⟨a, p', na, b, d⟩ | h
  · exact Or.inl ⟨a, p', na, c, hc, b, d⟩
  · exact Or.inr h
theorem TS_0 (h : pr p q D Q) (h16 : mI Q 16 = nI m) (hm : m ≤ 60) (hp : p < q) {x : Int32} (e1 : rSg D = x) (e2 : qSg Q = x) : TS x m 0 Q (p + 1) q (rN2 D) (qC4 Q) := by
  have e4 : (4 : Int32) * mI Q 16 = nI (4 * m) := by rw [h16]; exact pk_mul 4 m
  have eC : mC (qC4 Q) = upd (zc (mC Q) (nI (4 * m)) 4) (4 * m) x := by
    show upd (zc (mC Q) (4 * mI Q 16) 4) (4 * mI Q 16).toNatClampNeg (qSg Q) = _
    rw [e4, nI_clamp (by omega), e2]
  have hq := h.1.1
  refine ⟨⟨h.1.of (Sm_N2 D) (pkM_C4 Q), hp, ?_, ?_, h.2.2.2.2⟩, ?_, ?_, ?_, ?_, fun k hk => absurd hk (by omega), fun k a b => ?_, fun i hi => ?_⟩
  · unfold rN2
    rw [dI_sD, if_neg (by decide)]
    unfold rAd
    rw [dI_sD, if_pos rfl, dI_sD, if_neg (by decide), h.2.2.1, nI_1]
  · show mI Q 12 + 1 = _
    rw [h.2.2.2.1, nI_1]
  · unfold rN2
    rw [dI_sD, if_pos rfl]
    rfl
  · unfold rN2 rAd
    rw [dI_sD, if_neg (by decide), dI_sD, if_neg (by decide), dI_sD, if_pos rfl]
    exact e1
  · show mI Q 16 + 1 = _
    rw [h16, nI_1]
  · rw [eC, upd_at, if_pos rfl]
  · rw [eC, upd_at, if_neg (by omega), zc_at _ _ (by omega), if_pos (by omega)]
  · rw [eC, upd_at, if_neg (by omega), zc_at _ _ (by omega), if_neg (by omega)]
theorem cmd (h : pr p q D Q) (h16 : mI Q 16 = nI m) (hm : m ≤ 60) : CM m Q (p + 1) q (rCm D) (qCo Q) := by
  have e4 : (4 : Int32) * mI Q 16 = nI (4 * m) := by rw [h16]; exact pk_mul 4 m
  have bad : pOf (rSg D) = none → isLet (qSg Q) = false → CM m Q (p + 1) q (rCm D) (qCo Q) := fun a b => by
    rw [rCm_no a]
    unfold qCo
    rw [if_neg (by rw [b]; exact Bool.false_ne_true)]
    refine Or.inr ⟨rfl, p, h.2.1, h.2.2.1, ?_⟩
    unfold qEr
    rw [mI_sI, if_pos rfl]
    exact h.2.2.2.1
  rcases sgc h with ⟨z, ch, a1, a2, a3, a4⟩ | ⟨z, a3, a4⟩
  · have hl := let_pat ch (by omega)
    rcases b_tf (b := isLet (nI ch)) with e | e
    · have T0 := TS_0 h h16 hm z a3 a4
      have e3 : qCo Q = qKi (nI ch) (nI (4 * m)) (qC4 Q) := by
        unfold qCo
        rw [a4, if_pos e, e4]
      rw [e3]
      have i1 : nI (4 * m) + 1 = nI (4 * m + 1 + 0) := nI_add _ 1
      have i2 : nI (4 * m) + 2 = nI (4 * m + 1 + 1) := nI_add _ 2
      have i3 : nI (4 * m) + 3 = nI (4 * m + 1 + 2) := nI_add _ 3
      rcases let_all ch (by omega) e with (rfl | rfl | rfl | rfl) | (rfl | rfl) | rfl | hx
      · rw [rCm_so (a3.symm ▸ pof_97 : pOf (rSg D) = some 1), qki_97]
        exact (ps_1 i1 i2 i3 T0 hm (by decide)).cm ⟨_, by omega, e, rfl⟩
      · rw [rCm_so (a3.symm ▸ pof_98 : pOf (rSg D) = some 5), qki_98]
        exact (ps_5 i1 i2 i3 T0 hm (by decide)).cm ⟨_, by omega, e, rfl⟩
      · rw [rCm_so (a3.symm ▸ pof_99 : pOf (rSg D) = some 3), qki_99]
        exact (ps_3 i1 i2 T0 hm (by decide)).cm ⟨_, by omega, e, rfl⟩
      · rw [rCm_so (a3.symm ▸ pof_115 : pOf (rSg D) = some 3), qki_115]
        exact (ps_3 i1 i2 T0 hm (by decide)).cm ⟨_, by omega, e, rfl⟩
      · rw [rCm_so (a3.symm ▸ pof_100 : pOf (rSg D) = some 6), qki_100]
        exact (ps_6 T0 (by decide)).cm ⟨_, by omega, e, rfl⟩
      · rw [rCm_so (a3.symm ▸ pof_118 : pOf (rSg D) = some 6), qki_118]
        exact (ps_6 T0 (by decide)).cm ⟨_, by omega, e, rfl⟩
      · rw [rCm_so (a3.symm ▸ pof_119 : pOf (rSg D) = some 4), qki_119]
        exact (ps_4 i1 i2 T0 hm).cm ⟨_, by omega, e, rfl⟩
      · have hk : nI ch = 102 ∨ nI ch = 103 ∨ nI ch = 113 ∨ nI ch = 114 ∨ nI ch = 116 ∨ nI ch = 117 := by
          rcases hx with (rfl | rfl | rfl) | rfl | rfl | rfl <;> decide
        rw [rCm_so (a3.symm ▸ pof_n hk : pOf (rSg D) = some 2), qki_n hk]
        exact (ps_2 i1 T0 hm (fun y => by rw [y] at hk; revert hk; decide)).cm ⟨_, by omega, e, rfl⟩
    · rw [e] at hl
      refine bad ?_ (by rw [a4]; exact e)
      rw [a3]
      cases hc : pOf (nI ch) with
      | none => rfl
      | some i => rw [hc] at hl; cases hl
  · exact bad (by rw [a3]; decide) (by rw [a4]; decide)
end CMD
