/-! THE CLASS: texts, the reader of commands, the history, the dispatcher; what its methods answer. -/
/-- one farm's change, as an order says -/
def chr' (x : Int32) : Int32 := (x.toUInt32 % 65536).toInt32
theorem isCh_chr (x : Int32) : isCh (chr' x) := by
  unfold isCh chr'
  rw [pk_char]
  exact pk_charN (Nat.mod_lt _ (by decide))
def fCar (F : FM) (o a b c : Int32) : FM × Int32 :=
  if o = 97 then (fAdd F a b c, fI F 0)
  else if o = 98 then (fBid F a b c, cBd (fBid F a b c) 24)
  else if o = 99 then (fChg F a b, outp (fChg F a b) a (fI F 1) (fI F 2))
  else if o = 100 then dRun (fN F) F 0
  else if o = 102 then (fBrk F a, fI F 0 - cSt (fBrk F a) 1 (fN F))
  else if o = 103 then (sI F 3 a, fI F 3)
  else if o = 113 then (fUnb F a, vAt 24 (fA F 8) a)
  else if o = 114 then (fSto F a, vAt 12 (fA F 5) a)
  else if o = 115 then (fSta F a b, crews (fSta F a b))
  else if o = 117 then (fChg F a (-1), outp (fChg F a (-1)) a (fI F 1) (fI F 2))
  else if o = 118 then fEal F (fN F)
  else if o = 119 then (fWnd F (chr' a) b, sumI (fWnd F (chr' a) b) (chr' a) b (fN F))
  else (fPas F a.toNatClampNeg, (fL (fPas F a.toNatClampNeg) 2 - fL F 2).toInt32)
theorem kF {G : GX} {N : Nat} {S S1 : Nat → va_E} {K : RK} {b : Nat} {op : FM × Int32} {F1 : FM} {v : Int32} (hk : ∀ S1, isF G N S1 b op.1 → FR b S S1 → K (.inl (some (.int op.2))) S1) (h : isF G N S1 b F1) (r : FR b S S1) (e : op = (F1, v)) : K (.inl (some (.int v))) S1 := by
  subst e
  exact hk S1 h r
theorem kX1_passX {l : Launch} {G : GX} {N : Nat} {S : Nat → va_E} {K : RK} {b : Nat} {F : FM} (hF : isF G N S b F) (hw : wF F) {x : Int32} (hx : ¬ x < 0) (hk : ∀ S1, isF G N S1 b (fPas F x.toNatClampNeg) → FR b S S1 → K (.inl (some (.int ((fL (fPas F x.toNatClampNeg) 2 - fL F 2).toInt32)))) S1) : RetK l G N mX1_pass (4, 95, 0, 0) [.ref (ad G b), .int x] S K := by
  obtain ⟨j, hj, rfl⟩ := nI_of hx
  rw [nI_clamp hj] at hk
  exact kX1_pass hF hw hj hk
/-! a text -/
abbrev TX : Type := Int32 × (Nat → Int32)
def isT (G : GX) (N : Nat) (S : Nat → va_E) (b : Nat) (T : TX) : Prop := b + 1 < N ∧ S b = .inr (3, [.ref (ad G (b + 1)), .int T.1]) ∧ S (b + 1) = arC G 60 T.2
section IST
variable {X : CX} {G : GX} {N b nL pc a c : Nat} {lo : List (Nat × Value)} {st : List Value} {S : Nat → va_E} {T : TX}
theorem isT.l0 (h : isT G N S b T) : b < N := by have := h.1; omega
theorem isT.l1 (h : isT G N S b T) : b + 1 < N := h.1
theorem isT.o (h : isT G N S b T) : S b = .inr (3, [.ref (ad G (b + 1)), .int T.1]) := h.2.1
theorem isT.r (h : isT G N S b T) : S (b + 1) = arC G 60 T.2 := h.2.2
def TR (b : Nat) (S S' : Nat → va_E) : Prop := ∀ k : Nat, (k < b ∨ b + 1 < k) → S' k = S k
theorem TR.rfl' : TR b S S := fun _ _ => rfl
theorem TR.trans {S1 S2 : Nat → va_E} (h1 : TR b S S1) (h2 : TR b S1 S2) : TR b S S2 := fun k hk => (h2 k hk).trans (h1 k hk)
theorem isT.world {S' : Nat → va_E} (h : isT G N S b T) (e : ∀ k, b ≤ k → k ≤ b + 1 → S' k = S k) : isT G N S' b T := ⟨h.1, (e b (by omega) (by omega)).trans h.2.1, (e _ (by omega) (by omega)).trans h.2.2⟩
theorem wT0 (h : isT G N S b T) {v : Int32} (k : ∀ S1, isT G N S1 b (v, T.2) → TR b S S1 → AW X G nL N pc lo st S1 a c) : AW X G nL N pc lo st (va_up S b (.inr (3, [.ref (ad G (b + 1)), .int v]))) a c := by
  refine k _ ⟨h.1, ?_, ?_⟩ (fun j hj => ?_)
  · simp [va_up]
  · simp only [va_up]; rw [if_neg (by omega)]; exact h.2.2
  · unfold va_up; rw [if_neg (by omega)]
theorem wT1 (h : isT G N S b T) {f : Nat → Int32} (k : ∀ S1, isT G N S1 b (T.1, f) → TR b S S1 → AW X G nL N pc lo st S1 a c) : AW X G nL N pc lo st (va_up S (b + 1) (.inl (gC G, 60, .inl f))) a c := by
  refine k _ ⟨h.1, ?_, ?_⟩ (fun j hj => ?_)
  · simp only [va_up]; rw [if_neg (by omega)]; exact h.2.1
  · simp only [va_up, if_true]; rfl
  · unfold va_up; rw [if_neg (by omega)]
end IST
def tAdd (T : TX) (c : Int32) : TX := if T.1 < 0 then T else if nI 60 ≤ T.1 then T else (T.1 + 1, upd T.2 T.1.toNatClampNeg (vp_nar .char c))
def tNu1 (T : TX) (v : Int32) : TX := if v < 10 then T else tAdd T (chr' (48 + (v / 10 - v / 10 / 10 * 10)))
def tNum (T : TX) (v : Int32) : TX := tAdd (tNu1 T v) (chr' (48 + (v - v / 10 * 10)))
def tSig (T : TX) (i : Int32) : Int32 := if i < 0 then 0 else if T.1 ≤ i then 0 else if nI 60 ≤ i then 0 else T.2 i.toNatClampNeg
/-- a row of characters -/
def rowC (f : Nat → Int32) : Prop := ∀ i, isCh (f i)
theorem isCh_nar (x : Int32) : isCh (vp_nar .char x) := by
  have e : vp_nar .char x = chr' x := by
    rw [vp_nar_char]
    have e2 : x.toUInt32.toUInt16.toUInt32 = x.toUInt32 % 65536 := by
      apply UInt32.toNat_inj.mp
      simp
    rw [e2]
    rfl
  rw [e]
  exact isCh_chr x
theorem rowC_upd {f : Nat → Int32} (h : rowC f) (k : Nat) (c : Int32) : rowC (upd f k (vp_nar .char c)) := by
  intro i
  unfold upd
  split
  · exact isCh_nar c
  · exact h i
theorem rowC_Add {T : TX} (h : rowC T.2) (c : Int32) : rowC (tAdd T c).2 := by
  unfold tAdd
  split
  · exact h
  · split
    · exact h
    · exact rowC_upd h _ _
theorem rowC_Num {T : TX} (h : rowC T.2) (v : Int32) : rowC (tNum T v).2 := by
  unfold tNum
  refine rowC_Add ?_ _
  unfold tNu1
  split
  · exact h
  · exact rowC_Add h _
theorem isCh_0 : isCh 0 := by unfold isCh; exact ⟨rfl, rfl⟩
theorem isCh_Sig {T : TX} (h : rowC T.2) (i : Int32) : isCh (tSig T i) := by
  unfold tSig
  split
  · exact isCh_0
  · split
    · exact isCh_0
    · split
      · exact isCh_0
      · exact h _
/-! the dispatcher: farms (0 the farm, 1 the trial, 2 the snapshot, 3.. the kept ones), numbers, rows -/
abbrev DM : Type := (Nat → FM) × (Nat → Int32) × (Nat → Nat → Int32)
def dF (D : DM) (k : Nat) : FM := D.1 k
def dI (D : DM) (k : Nat) : Int32 := D.2.1 k
def dR (D : DM) (k : Nat) : Nat → Int32 := D.2.2 k
def sF (D : DM) (k : Nat) (F : FM) : DM := (fun j => if j = k then F else D.1 j, D.2)
def sD (D : DM) (k : Nat) (v : Int32) : DM := (D.1, fun j => if j = k then v else D.2.1 j, D.2.2)
def sR (D : DM) (k : Nat) (f : Nat → Int32) : DM := (D.1, D.2.1, fun j => if j = k then f else D.2.2 j)
theorem dF_sF (D : DM) (k j : Nat) (F : FM) : dF (sF D k F) j = if j = k then F else dF D j := rfl
theorem dF_sD (D : DM) (k j : Nat) (v : Int32) : dF (sD D k v) j = dF D j := rfl
theorem dF_sR (D : DM) (k j : Nat) (f : Nat → Int32) : dF (sR D k f) j = dF D j := rfl
theorem dI_sF (D : DM) (k j : Nat) (F : FM) : dI (sF D k F) j = dI D j := rfl
theorem dI_sD (D : DM) (k j : Nat) (v : Int32) : dI (sD D k v) j = if j = k then v else dI D j := rfl
theorem dI_sR (D : DM) (k j : Nat) (f : Nat → Int32) : dI (sR D k f) j = dI D j := rfl
theorem dR_sF (D : DM) (k j : Nat) (F : FM) : dR (sF D k F) j = dR D j := rfl
theorem dR_sD (D : DM) (k j : Nat) (v : Int32) : dR (sD D k v) j = dR D j := rfl
theorem dR_sR (D : DM) (k j : Nat) (f : Nat → Int32) : dR (sR D k f) j = if j = k then f else dR D j := rfl
def dspO (G : GX) (D : DM) : List Value := [.ref (ad G 1), .ref (ad G 11), .ref (ad G 21), .ref (ad G 31), .ref (ad G 113), .ref (ad G 117), .int (dI D 0), .int (dI D 1), .int (dI D 2), .int (dI D 3), .int (dI D 4)]
def hisO (G : GX) (D : DM) : List Value := [.ref (ad G 32), .int (dI D 5), .int (dI D 6)]
def rdrO (G : GX) (D : DM) : List Value := [.ref (ad G 114), .ref (ad G 116), .int (dI D 7), .int (dI D 8), .int (dI D 9)]
def isD (G : GX) (N : Nat) (S : Nat → va_E) (D : DM) : Prop :=
  118 < N ∧ isF G N S 1 (dF D 0) ∧ isF G N S 11 (dF D 1) ∧ isF G N S 21 (dF D 2) ∧ (∀ i : Nat, i < 8 → isF G N S (33 + 10 * i) (dF D (3 + i))) ∧ S 0 = .inr (4, dspO G D) ∧ S 31 = .inr (2, hisO G D) ∧ S 32 = .inl (gF G, 8, .inr (.inr (.inr (.inr (fun i => some (ad G (33 + 10 * i))))))) ∧ S 113 = .inr (0, rdrO G D) ∧ isT G N S 114 (dI D 10, dR D 1) ∧ S 116 = arI G 3 (dR D 0) ∧ isT G N S 117 (dI D 11, dR D 2)
section ISD
variable {X : CX} {G : GX} {N nL pc a c : Nat} {lo : List (Nat × Value)} {st : List Value} {S : Nat → va_E} {D : DM}
theorem isD.l0 (h : isD G N S D) : 0 < N := by have := h.1; omega
theorem isD.l31 (h : isD G N S D) : 31 < N := by have := h.1; omega
theorem isD.l32 (h : isD G N S D) : 32 < N := by have := h.1; omega
theorem isD.l113 (h : isD G N S D) : 113 < N := by have := h.1; omega
theorem isD.l116 (h : isD G N S D) : 116 < N := by have := h.1; omega
theorem isD.f0 (h : isD G N S D) : isF G N S 1 (dF D 0) := h.2.1
theorem isD.f1 (h : isD G N S D) : isF G N S 11 (dF D 1) := h.2.2.1
theorem isD.f2 (h : isD G N S D) : isF G N S 21 (dF D 2) := h.2.2.2.1
theorem isD.fk (h : isD G N S D) {i : Nat} (hi : i < 8) : isF G N S (33 + 10 * i) (dF D (3 + i)) := h.2.2.2.2.1 i hi
theorem isD.o0 (h : isD G N S D) : S 0 = .inr (4, dspO G D) := h.2.2.2.2.2.1
theorem isD.o31 (h : isD G N S D) : S 31 = .inr (2, hisO G D) := h.2.2.2.2.2.2.1
theorem isD.o32 (h : isD G N S D) : S 32 = .inl (gF G, 8, .inr (.inr (.inr (.inr (fun i => some (ad G (33 + 10 * i))))))) := h.2.2.2.2.2.2.2.1
theorem isD.o113 (h : isD G N S D) : S 113 = .inr (0, rdrO G D) := h.2.2.2.2.2.2.2.2.1
theorem isD.t1 (h : isD G N S D) : isT G N S 114 (dI D 10, dR D 1) := h.2.2.2.2.2.2.2.2.2.1
theorem isD.o116 (h : isD G N S D) : S 116 = arI G 3 (dR D 0) := h.2.2.2.2.2.2.2.2.2.2.1
theorem isD.t2 (h : isD G N S D) : isT G N S 117 (dI D 11, dR D 2) := h.2.2.2.2.2.2.2.2.2.2.2
def DR (S S' : Nat → va_E) : Prop := ∀ k : Nat, 118 < k → S' k = S k
theorem DR.rfl' : DR S S := fun _ _ => rfl
theorem DR.trans {S1 S2 : Nat → va_E} (h1 : DR S S1) (h2 : DR S1 S2) : DR S S2 := fun k hk => (h2 k hk).trans (h1 k hk)
theorem DR.up {k : Nat} {e : va_E} (h : k ≤ 118) : DR S (va_up S k e) := fun j hj => by
  unfold va_up
  rw [if_neg (by omega)]
theorem DR.f {b : Nat} {S1 : Nat → va_E} (h : FR b S S1) (hb : b + 9 ≤ 118) : DR S S1 := fun k hk => h k (by omega)
theorem DR.t {b : Nat} {S1 : Nat → va_E} (h : TR b S S1) (hb : b + 1 ≤ 118) : DR S S1 := fun k hk => h k (by omega)
/-- the whole class by a world that agrees with it -/
theorem isD.world {S' : Nat → va_E} (h : isD G N S D) (e : ∀ k, k ≤ 118 → S' k = S k) : isD G N S' D :=
  ⟨h.1, h.f0.world (fun k _ _ => e k (by omega)), h.f1.world (fun k _ _ => e k (by omega)), h.f2.world (fun k _ _ => e k (by omega)), fun i hi => (h.fk hi).world (fun k _ _ => e k (by omega)), (e _ (by omega)).trans h.o0, (e _ (by omega)).trans h.o31, (e _ (by omega)).trans h.o32, (e _ (by omega)).trans h.o113, h.t1.world (fun k _ _ => e k (by omega)), (e _ (by omega)).trans h.o116, h.t2.world (fun k _ _ => e k (by omega))⟩

theorem isD.u0 {S1 : Nat → va_E} {F : FM} (h : isD G N S D) (hF : isF G N S1 1 F) (r : FR 1 S S1) : isD G N S1 (sF D 0 F) :=
  ⟨h.1, hF, h.f1.world (fun k _ _ => r k (by omega)), h.f2.world (fun k _ _ => r k (by omega)), fun i hi => by rw [dF_sF, if_neg (by omega)]; exact (h.fk hi).world (fun k _ _ => r k (by omega)), (r _ (by omega)).trans h.o0, (r _ (by omega)).trans h.o31, (r _ (by omega)).trans h.o32, (r _ (by omega)).trans h.o113, h.t1.world (fun k _ _ => r k (by omega)), (r _ (by omega)).trans h.o116, h.t2.world (fun k _ _ => r k (by omega))⟩
theorem isD.u1 {S1 : Nat → va_E} {F : FM} (h : isD G N S D) (hF : isF G N S1 11 F) (r : FR 11 S S1) : isD G N S1 (sF D 1 F) :=
  ⟨h.1, h.f0.world (fun k _ _ => r k (by omega)), hF, h.f2.world (fun k _ _ => r k (by omega)), fun i hi => by rw [dF_sF, if_neg (by omega)]; exact (h.fk hi).world (fun k _ _ => r k (by omega)), (r _ (by omega)).trans h.o0, (r _ (by omega)).trans h.o31, (r _ (by omega)).trans h.o32, (r _ (by omega)).trans h.o113, h.t1.world (fun k _ _ => r k (by omega)), (r _ (by omega)).trans h.o116, h.t2.world (fun k _ _ => r k (by omega))⟩
theorem isD.u2 {S1 : Nat → va_E} {F : FM} (h : isD G N S D) (hF : isF G N S1 21 F) (r : FR 21 S S1) : isD G N S1 (sF D 2 F) :=
  ⟨h.1, h.f0.world (fun k _ _ => r k (by omega)), h.f1.world (fun k _ _ => r k (by omega)), hF, fun i hi => by rw [dF_sF, if_neg (by omega)]; exact (h.fk hi).world (fun k _ _ => r k (by omega)), (r _ (by omega)).trans h.o0, (r _ (by omega)).trans h.o31, (r _ (by omega)).trans h.o32, (r _ (by omega)).trans h.o113, h.t1.world (fun k _ _ => r k (by omega)), (r _ (by omega)).trans h.o116, h.t2.world (fun k _ _ => r k (by omega))⟩
theorem isD.uk {S1 : Nat → va_E} {F : FM} {j : Nat} (hj : j < 8) (h : isD G N S D) (hF : isF G N S1 (33 + 10 * j) F) (r : FR (33 + 10 * j) S S1) : isD G N S1 (sF D (3 + j) F) := by
  refine ⟨h.1, ?_, ?_, ?_, fun i hi => ?_, (r _ (by omega)).trans h.o0, (r _ (by omega)).trans h.o31, (r _ (by omega)).trans h.o32, (r _ (by omega)).trans h.o113, h.t1.world (fun k _ _ => r k (by omega)), (r _ (by omega)).trans h.o116, h.t2.world (fun k _ _ => r k (by omega))⟩
  · rw [dF_sF, if_neg (by omega)]; exact h.f0.world (fun k _ _ => r k (by omega))
  · rw [dF_sF, if_neg (by omega)]; exact h.f1.world (fun k _ _ => r k (by omega))
  · rw [dF_sF, if_neg (by omega)]; exact h.f2.world (fun k _ _ => r k (by omega))
  · rw [dF_sF]
    by_cases e : i = j
    · subst e; rw [if_pos rfl]; exact hF
    · rw [if_neg (by omega)]; exact (h.fk hi).world (fun k _ _ => r k (by omega))
theorem isD.vt1 {S1 : Nat → va_E} {T : TX} (h : isD G N S D) (hT : isT G N S1 114 T) (r : TR 114 S S1) : isD G N S1 (sR (sD D 10 T.1) 1 T.2) :=
  ⟨h.1, h.f0.world (fun k _ _ => r k (by omega)), h.f1.world (fun k _ _ => r k (by omega)), h.f2.world (fun k _ _ => r k (by omega)), fun i hi => (h.fk hi).world (fun k _ _ => r k (by omega)), (r _ (by omega)).trans h.o0, (r _ (by omega)).trans h.o31, (r _ (by omega)).trans h.o32, (r _ (by omega)).trans h.o113, hT, (r _ (by omega)).trans h.o116, h.t2.world (fun k _ _ => r k (by omega))⟩
theorem isD.vt2 {S1 : Nat → va_E} {T : TX} (h : isD G N S D) (hT : isT G N S1 117 T) (r : TR 117 S S1) : isD G N S1 (sR (sD D 11 T.1) 2 T.2) :=
  ⟨h.1, h.f0.world (fun k _ _ => r k (by omega)), h.f1.world (fun k _ _ => r k (by omega)), h.f2.world (fun k _ _ => r k (by omega)), fun i hi => (h.fk hi).world (fun k _ _ => r k (by omega)), (r _ (by omega)).trans h.o0, (r _ (by omega)).trans h.o31, (r _ (by omega)).trans h.o32, (r _ (by omega)).trans h.o113, h.t1.world (fun k _ _ => r k (by omega)), (r _ (by omega)).trans h.o116, hT⟩
theorem wD0 (h : isD G N S D) {v : Int32} (k : ∀ S1, isD G N S1 (sD D 0 v) → DR S S1 → AW X G nL N pc lo st S1 a c) : AW X G nL N pc lo st (va_up S 0 (.inr (4, (dspO G D).set 6 (.int v)))) a c :=
  k _ ⟨h.1, h.f0.world (fun k _ _ => by unfold va_up; rw [if_neg (by omega)]), h.f1.world (fun k _ _ => by unfold va_up; rw [if_neg (by omega)]), h.f2.world (fun k _ _ => by unfold va_up; rw [if_neg (by omega)]), fun i hi => (h.fk hi).world (fun k _ _ => by unfold va_up; rw [if_neg (by omega)]), (by simp [va_up, dspO, sD, dI]), (by unfold va_up; rw [if_neg (by decide)]; exact h.o31), (by unfold va_up; rw [if_neg (by decide)]; exact h.o32), (by unfold va_up; rw [if_neg (by decide)]; exact h.o113), h.t1.world (fun k _ _ => by unfold va_up; rw [if_neg (by omega)]), (by unfold va_up; rw [if_neg (by decide)]; exact h.o116), h.t2.world (fun k _ _ => by unfold va_up; rw [if_neg (by omega)])⟩ (DR.up (by decide))
theorem wD1 (h : isD G N S D) {v : Int32} (k : ∀ S1, isD G N S1 (sD D 1 v) → DR S S1 → AW X G nL N pc lo st S1 a c) : AW X G nL N pc lo st (va_up S 0 (.inr (4, (dspO G D).set 7 (.int v)))) a c :=
  k _ ⟨h.1, h.f0.world (fun k _ _ => by unfold va_up; rw [if_neg (by omega)]), h.f1.world (fun k _ _ => by unfold va_up; rw [if_neg (by omega)]), h.f2.world (fun k _ _ => by unfold va_up; rw [if_neg (by omega)]), fun i hi => (h.fk hi).world (fun k _ _ => by unfold va_up; rw [if_neg (by omega)]), (by simp [va_up, dspO, sD, dI]), (by unfold va_up; rw [if_neg (by decide)]; exact h.o31), (by unfold va_up; rw [if_neg (by decide)]; exact h.o32), (by unfold va_up; rw [if_neg (by decide)]; exact h.o113), h.t1.world (fun k _ _ => by unfold va_up; rw [if_neg (by omega)]), (by unfold va_up; rw [if_neg (by decide)]; exact h.o116), h.t2.world (fun k _ _ => by unfold va_up; rw [if_neg (by omega)])⟩ (DR.up (by decide))
theorem wD2 (h : isD G N S D) {v : Int32} (k : ∀ S1, isD G N S1 (sD D 2 v) → DR S S1 → AW X G nL N pc lo st S1 a c) : AW X G nL N pc lo st (va_up S 0 (.inr (4, (dspO G D).set 8 (.int v)))) a c :=
  k _ ⟨h.1, h.f0.world (fun k _ _ => by unfold va_up; rw [if_neg (by omega)]), h.f1.world (fun k _ _ => by unfold va_up; rw [if_neg (by omega)]), h.f2.world (fun k _ _ => by unfold va_up; rw [if_neg (by omega)]), fun i hi => (h.fk hi).world (fun k _ _ => by unfold va_up; rw [if_neg (by omega)]), (by simp [va_up, dspO, sD, dI]), (by unfold va_up; rw [if_neg (by decide)]; exact h.o31), (by unfold va_up; rw [if_neg (by decide)]; exact h.o32), (by unfold va_up; rw [if_neg (by decide)]; exact h.o113), h.t1.world (fun k _ _ => by unfold va_up; rw [if_neg (by omega)]), (by unfold va_up; rw [if_neg (by decide)]; exact h.o116), h.t2.world (fun k _ _ => by unfold va_up; rw [if_neg (by omega)])⟩ (DR.up (by decide))
theorem wD3 (h : isD G N S D) {v : Int32} (k : ∀ S1, isD G N S1 (sD D 3 v) → DR S S1 → AW X G nL N pc lo st S1 a c) : AW X G nL N pc lo st (va_up S 0 (.inr (4, (dspO G D).set 9 (.int v)))) a c :=
  k _ ⟨h.1, h.f0.world (fun k _ _ => by unfold va_up; rw [if_neg (by omega)]), h.f1.world (fun k _ _ => by unfold va_up; rw [if_neg (by omega)]), h.f2.world (fun k _ _ => by unfold va_up; rw [if_neg (by omega)]), fun i hi => (h.fk hi).world (fun k _ _ => by unfold va_up; rw [if_neg (by omega)]), (by simp [va_up, dspO, sD, dI]), (by unfold va_up; rw [if_neg (by decide)]; exact h.o31), (by unfold va_up; rw [if_neg (by decide)]; exact h.o32), (by unfold va_up; rw [if_neg (by decide)]; exact h.o113), h.t1.world (fun k _ _ => by unfold va_up; rw [if_neg (by omega)]), (by unfold va_up; rw [if_neg (by decide)]; exact h.o116), h.t2.world (fun k _ _ => by unfold va_up; rw [if_neg (by omega)])⟩ (DR.up (by decide))
theorem wD4 (h : isD G N S D) {v : Int32} (k : ∀ S1, isD G N S1 (sD D 4 v) → DR S S1 → AW X G nL N pc lo st S1 a c) : AW X G nL N pc lo st (va_up S 0 (.inr (4, (dspO G D).set 10 (.int v)))) a c :=
  k _ ⟨h.1, h.f0.world (fun k _ _ => by unfold va_up; rw [if_neg (by omega)]), h.f1.world (fun k _ _ => by unfold va_up; rw [if_neg (by omega)]), h.f2.world (fun k _ _ => by unfold va_up; rw [if_neg (by omega)]), fun i hi => (h.fk hi).world (fun k _ _ => by unfold va_up; rw [if_neg (by omega)]), (by simp [va_up, dspO, sD, dI]), (by unfold va_up; rw [if_neg (by decide)]; exact h.o31), (by unfold va_up; rw [if_neg (by decide)]; exact h.o32), (by unfold va_up; rw [if_neg (by decide)]; exact h.o113), h.t1.world (fun k _ _ => by unfold va_up; rw [if_neg (by omega)]), (by unfold va_up; rw [if_neg (by decide)]; exact h.o116), h.t2.world (fun k _ _ => by unfold va_up; rw [if_neg (by omega)])⟩ (DR.up (by decide))
theorem wD5 (h : isD G N S D) {v : Int32} (k : ∀ S1, isD G N S1 (sD D 5 v) → DR S S1 → AW X G nL N pc lo st S1 a c) : AW X G nL N pc lo st (va_up S 31 (.inr (2, (hisO G D).set 1 (.int v)))) a c :=
  k _ ⟨h.1, h.f0.world (fun k _ _ => by unfold va_up; rw [if_neg (by omega)]), h.f1.world (fun k _ _ => by unfold va_up; rw [if_neg (by omega)]), h.f2.world (fun k _ _ => by unfold va_up; rw [if_neg (by omega)]), fun i hi => (h.fk hi).world (fun k _ _ => by unfold va_up; rw [if_neg (by omega)]), (by unfold va_up; rw [if_neg (by decide)]; exact h.o0), (by simp [va_up, hisO, sD, dI]), (by unfold va_up; rw [if_neg (by decide)]; exact h.o32), (by unfold va_up; rw [if_neg (by decide)]; exact h.o113), h.t1.world (fun k _ _ => by unfold va_up; rw [if_neg (by omega)]), (by unfold va_up; rw [if_neg (by decide)]; exact h.o116), h.t2.world (fun k _ _ => by unfold va_up; rw [if_neg (by omega)])⟩ (DR.up (by decide))
theorem wD6 (h : isD G N S D) {v : Int32} (k : ∀ S1, isD G N S1 (sD D 6 v) → DR S S1 → AW X G nL N pc lo st S1 a c) : AW X G nL N pc lo st (va_up S 31 (.inr (2, (hisO G D).set 2 (.int v)))) a c :=
  k _ ⟨h.1, h.f0.world (fun k _ _ => by unfold va_up; rw [if_neg (by omega)]), h.f1.world (fun k _ _ => by unfold va_up; rw [if_neg (by omega)]), h.f2.world (fun k _ _ => by unfold va_up; rw [if_neg (by omega)]), fun i hi => (h.fk hi).world (fun k _ _ => by unfold va_up; rw [if_neg (by omega)]), (by unfold va_up; rw [if_neg (by decide)]; exact h.o0), (by simp [va_up, hisO, sD, dI]), (by unfold va_up; rw [if_neg (by decide)]; exact h.o32), (by unfold va_up; rw [if_neg (by decide)]; exact h.o113), h.t1.world (fun k _ _ => by unfold va_up; rw [if_neg (by omega)]), (by unfold va_up; rw [if_neg (by decide)]; exact h.o116), h.t2.world (fun k _ _ => by unfold va_up; rw [if_neg (by omega)])⟩ (DR.up (by decide))
theorem wD7 (h : isD G N S D) {v : Int32} (k : ∀ S1, isD G N S1 (sD D 7 v) → DR S S1 → AW X G nL N pc lo st S1 a c) : AW X G nL N pc lo st (va_up S 113 (.inr (0, (rdrO G D).set 2 (.int v)))) a c :=
  k _ ⟨h.1, h.f0.world (fun k _ _ => by unfold va_up; rw [if_neg (by omega)]), h.f1.world (fun k _ _ => by unfold va_up; rw [if_neg (by omega)]), h.f2.world (fun k _ _ => by unfold va_up; rw [if_neg (by omega)]), fun i hi => (h.fk hi).world (fun k _ _ => by unfold va_up; rw [if_neg (by omega)]), (by unfold va_up; rw [if_neg (by decide)]; exact h.o0), (by unfold va_up; rw [if_neg (by decide)]; exact h.o31), (by unfold va_up; rw [if_neg (by decide)]; exact h.o32), (by simp [va_up, rdrO, sD, dI]), h.t1.world (fun k _ _ => by unfold va_up; rw [if_neg (by omega)]), (by unfold va_up; rw [if_neg (by decide)]; exact h.o116), h.t2.world (fun k _ _ => by unfold va_up; rw [if_neg (by omega)])⟩ (DR.up (by decide))
theorem wD8 (h : isD G N S D) {v : Int32} (k : ∀ S1, isD G N S1 (sD D 8 v) → DR S S1 → AW X G nL N pc lo st S1 a c) : AW X G nL N pc lo st (va_up S 113 (.inr (0, (rdrO G D).set 3 (.int v)))) a c :=
  k _ ⟨h.1, h.f0.world (fun k _ _ => by unfold va_up; rw [if_neg (by omega)]), h.f1.world (fun k _ _ => by unfold va_up; rw [if_neg (by omega)]), h.f2.world (fun k _ _ => by unfold va_up; rw [if_neg (by omega)]), fun i hi => (h.fk hi).world (fun k _ _ => by unfold va_up; rw [if_neg (by omega)]), (by unfold va_up; rw [if_neg (by decide)]; exact h.o0), (by unfold va_up; rw [if_neg (by decide)]; exact h.o31), (by unfold va_up; rw [if_neg (by decide)]; exact h.o32), (by simp [va_up, rdrO, sD, dI]), h.t1.world (fun k _ _ => by unfold va_up; rw [if_neg (by omega)]), (by unfold va_up; rw [if_neg (by decide)]; exact h.o116), h.t2.world (fun k _ _ => by unfold va_up; rw [if_neg (by omega)])⟩ (DR.up (by decide))
theorem wD9 (h : isD G N S D) {v : Int32} (k : ∀ S1, isD G N S1 (sD D 9 v) → DR S S1 → AW X G nL N pc lo st S1 a c) : AW X G nL N pc lo st (va_up S 113 (.inr (0, (rdrO G D).set 4 (.int v)))) a c :=
  k _ ⟨h.1, h.f0.world (fun k _ _ => by unfold va_up; rw [if_neg (by omega)]), h.f1.world (fun k _ _ => by unfold va_up; rw [if_neg (by omega)]), h.f2.world (fun k _ _ => by unfold va_up; rw [if_neg (by omega)]), fun i hi => (h.fk hi).world (fun k _ _ => by unfold va_up; rw [if_neg (by omega)]), (by unfold va_up; rw [if_neg (by decide)]; exact h.o0), (by unfold va_up; rw [if_neg (by decide)]; exact h.o31), (by unfold va_up; rw [if_neg (by decide)]; exact h.o32), (by simp [va_up, rdrO, sD, dI]), h.t1.world (fun k _ _ => by unfold va_up; rw [if_neg (by omega)]), (by unfold va_up; rw [if_neg (by decide)]; exact h.o116), h.t2.world (fun k _ _ => by unfold va_up; rw [if_neg (by omega)])⟩ (DR.up (by decide))
theorem wDargs (h : isD G N S D) {f : Nat → Int32} (k : ∀ S1, isD G N S1 (sR D 0 f) → DR S S1 → AW X G nL N pc lo st S1 a c) : AW X G nL N pc lo st (va_up S 116 (.inl (gI G, 3, .inl f))) a c :=
  k _ ⟨h.1, h.f0.world (fun k _ _ => by unfold va_up; rw [if_neg (by omega)]), h.f1.world (fun k _ _ => by unfold va_up; rw [if_neg (by omega)]), h.f2.world (fun k _ _ => by unfold va_up; rw [if_neg (by omega)]), fun i hi => (h.fk hi).world (fun k _ _ => by unfold va_up; rw [if_neg (by omega)]), (by unfold va_up; rw [if_neg (by decide)]; exact h.o0), (by unfold va_up; rw [if_neg (by decide)]; exact h.o31), (by unfold va_up; rw [if_neg (by decide)]; exact h.o32), (by unfold va_up; rw [if_neg (by decide)]; exact h.o113), h.t1.world (fun k _ _ => by unfold va_up; rw [if_neg (by omega)]), (by unfold va_up; rw [if_pos rfl]; rfl), h.t2.world (fun k _ _ => by unfold va_up; rw [if_neg (by omega)])⟩ (DR.up (by decide))
end ISD
/-- an operation's end: an answer or an exception, and what is left -/
theorem kD {G : GX} {N : Nat} {S S1 : Nat → va_E} {K : RK} {op : RO × DM} {D1 : DM} {o : RO} (hk : ∀ S1, isD G N S1 op.2 → DR S S1 → K op.1 S1) (h : isD G N S1 D1) (r : DR S S1) (e : op = (o, D1)) : K o S1 := by
  subst e
  exact hk S1 h r
/-! the history -/
def hKp (D : DM) (j : Nat) : DM := sD (sD (sF D (3 + j) (dF D 0)) 5 (nI ((j + 1) % 8))) 6 (if 8 < dI D 6 + 1 then 8 else dI D 6 + 1)
def hTb (D : DM) (j : Nat) : DM := sD (sD (sF D 0 (dF D (3 + (j + 7) % 8))) 5 (nI ((j + 7) % 8))) 6 (dI D 6 - 1)
/-! the reader of commands -/
def rSg (D : DM) : Int32 := tSig (dI D 10, dR D 1) (dI D 8)
def rAd (D : DM) : DM := sD D 8 (dI D 8 + 1)
def rSn (D : DM) (c : Int32) : DM × Bool := if rSg D = c then (rAd D, true) else (D, false)
def rKp (D : DM) (v : Int32) : DM := sD (sR D 0 (sAt 3 (dR D 0) (dI D 7) v)) 7 (dI D 7 + 1)
def rDr (D : DM) : DM × Bool := if isDir' (rSg D) then (rAd (rKp D (rSg D)), true) else (D, false)
def rDl : Nat → DM → Int32 → Int32 → DM × Int32 × Int32
  | 0, D, v, n => (D, v, n)
  | k + 1, D, v, n => if wIn (rSg D) 48 57 then rDl k (rAd D) (v * 10 + rSg D - 48) (n + 1) else (D, v, n)
def rDg (m : Nat) (D : DM) : DM × Bool := (rKp (rDl m D 0 0).1 (rDl m D 0 0).2.1, if (rDl m D 0 0).2.2 ≤ 0 then false else true)
def rPt (D : DM) (c : Int32) : DM × Bool := if c = 49 then rDg 1 D else if c = 110 then rDg 3 D else if c = 119 then rDr D else rSn D c
def pOf (c : Int32) : Option Nat :=
  if c = 97 then some 1 else if c = 98 then some 5 else if c = 99 then some 3 else if c = 100 then some 6 else if c = 102 then some 2 else if c = 103 then some 2 else if c = 113 then some 2 else if c = 114 then some 2 else if c = 115 then some 3 else if c = 116 then some 2 else if c = 117 then some 2 else if c = 118 then some 6 else if c = 119 then some 4 else none
def pVl (G : GX) (o : Option Nat) : Value := match o with
  | none => .null
  | some i => .ref (gK G i)
def sCh (i j : Nat) : Int32 := (bytS.getD i []).getD j 0
def sLn (i : Nat) : Nat := lenS.getD i 0
def rPs (i : Nat) : Nat → Nat → DM → DM × Bool
  | _, 0, D => (D, true)
  | j, k + 1, D => if (rPt D (sCh i j)).2 then rPs i (j + 1) k (rPt D (sCh i j)).1 else ((rPt D (sCh i j)).1, false)
def rN1 (D : DM) : DM × Bool := if dI D 8 ≤ 0 then (D, true) else rSn D 59
def rN2 (D : DM) : DM := sD (rAd (sD D 9 (rSg D))) 7 0
def rNx (D : DM) : DM × Bool := if (rN1 D).2 then (match pOf (rSg (rN1 D).1) with
  | none => ((rN1 D).1, false)
  | some i => rPs i 0 (sLn i) (rN2 (rN1 D).1)) else ((rN1 D).1, false)
/-- k commands more at most, the next one's number is j -/
def rCt : Nat → Nat → DM → DM × Int32
  | _, 0, D => (D, 0)
  | j, k + 1, D => if (rNx D).2 then (if dI (rNx D).1 10 ≤ dI (rNx D).1 8 then ((rNx D).1, nI j) else rCt (j + 1) k (rNx D).1) else ((rNx D).1, 0)
def rCc (D : DM) : DM × Int32 := rCt 1 60 (sD D 8 0)
def rAr (D : DM) (i : Int32) : Int32 := if dI D 7 ≤ i then 0 else vAt 3 (dR D 0) i
