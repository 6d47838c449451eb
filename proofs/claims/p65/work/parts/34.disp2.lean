/-! THE DISPATCHER'S METHODS: what they answer or throw, and what they leave behind. -/
abbrev eI : String := "java/lang/IndexOutOfBoundsException"
abbrev eA : String := "java/lang/IllegalArgumentException"
abbrev eU : String := "java/lang/UnsupportedOperationException"
abbrev eS : String := "java/lang/IllegalStateException"
abbrev eN : String := "java/util/NoSuchElementException"
abbrev eX : String := "java/lang/ArithmeticException"
theorem nar_chr (x : Int32) : vp_nar .char x = chr' x := by
  rw [vp_nar_char]
  have e2 : x.toUInt32.toUInt16.toUInt32 = x.toUInt32 % 65536 := by
    apply UInt32.toNat_inj.mp
    simp
  rw [e2]
  rfl
theorem chr_of {x : Int32} (h : isCh x) : chr' x = x := by
  rw [← nar_chr]
  unfold vp_nar
  rw [h.1]
/-- the place of the history's next farm -/
def hJ (D : DM) : Nat := (dI D 5).toNatClampNeg
def zRej (D : DM) (r d c : Int32) : DM := sD (sD (sD D 2 r) 3 d) 4 c
/-- a rejected change -/
def zBad (D : DM) (o a b c : Int32) : RO × DM :=
  if jud (dF D 0) o a b c = -1 then (.inr eI, D)
  else if jud (dF D 0) o a b c = -2 then (.inr eA, D)
  else (.inr eU, zRej D (jud (dF D 0) o a b c) (det (dF D 0) (jud (dF D 0) o a b c) a b) 0)
/-- a change by its letter -/
def zCh (D : DM) (o a b c : Int32) : RO × DM :=
  if jud (dF D 0) o a b c = 0 then (.inl (some (.int (fCar (dF D 0) o a b c).2)), sF (hKp D (hJ D)) 0 (fCar (dF D 0) o a b c).1)
  else zBad D o a b c
theorem isD.f0K {G : GX} {N j : Nat} {S : Nat → va_E} {D : DM} (h : isD G N S (hKp D j)) : isF G N S 1 (dF D 0) := by
  have h2 := h.f0
  unfold hKp at h2
  rw [dF_sD, dF_sD, dF_sF, if_neg (by omega)] at h2
  exact h2
/-- what the class's methods ask of the class -/
def vD (D : DM) : Prop := (∀ k, k < 11 → nF (dF D k)) ∧ isCh (fI (dF D 0) 1) ∧ wF (dF D 0) ∧ dI D 5 = nI (hJ D) ∧ hJ D < 8 ∧ rowC (dR D 1) ∧ rowC (dR D 2)
def zBP (F : FM) (p : Int32) : Nat → Nat → RO
  | _, 0 => .inr eN
  | j, k + 1 => if bidF F (nI j) then (if bAo F (nI j) 24 = p then .inl (some (.int (nI j))) else zBP F p (j + 1) k) else zBP F p (j + 1) k
def zHT (F : FM) : Nat → Nat → RO
  | _, 0 => .inr eN
  | j, k + 1 => if bidF F (fI F 4 + nI j - (fI F 4 + nI j) / 24 * 24) then .inl (some (.int (nI j))) else zHT F (j + 1) k
def zTP (F : FM) (p : Int32) : Nat → Nat → RO
  | _, 0 => .inr eN
  | j, k + 1 => if tAo F (nI j) (fN F) = p then .inl (some (.int (nI j))) else zTP F p (j + 1) k
def zBd (F : FM) : Nat → Int32 × Int32
  | 0 => (78, -1)
  | n + 1 => if sumI F (sCh 0 n) (fI F 2) (fN F) ≤ (zBd F n).2 then zBd F n else (sCh 0 n, sumI F (sCh 0 n) (fI F 2) (fN F))
theorem zBd_ch (F : FM) : ∀ n, n ≤ 4 → isCh (zBd F n).1
  | 0, _ => ⟨rfl, rfl⟩
  | n + 1, h => by
    unfold zBd
    split
    · exact zBd_ch F n (by omega)
    · exact sCh_is (i := 0) (by decide) (show n < sLn 0 from by unfold sLn lenS; simp; omega)
def zCon (F : FM) : Bool :=
  if sumI F (fI F 1) (fI F 2) (fN F) = bSum F (lCnt F) then (if lg_cmp (fL F 0) (fL F 1 + fL F 2 + fL F 3) = 0 then (if crews F < 0 then false else true) else false) else false
def zUn (D : DM) : RO × DM := if dI D 6 ≤ 0 then (.inr eS, D) else (.inl (some (.int (dI D 6 - 1))), hTb D (hJ D))
def zSv (D : DM) : RO × DM := (.inl (some (.int (fI (dF D 0) 0))), sD (sF D 2 (dF D 0)) 0 1)
def zRs (D : DM) : RO × DM := if dI D 0 = 0 then (.inr eS, D) else (.inl (some (.int (fI (dF D 2) 0))), sD (sF D 0 (dF D 2)) 6 0)
def zAp (D : DM) (c : Int32) : RO × DM :=
  if wIn c 32 126 then (if 60 ≤ dI D 10 then (.inr eS, D) else (.inl (some (.int (tAdd (dI D 10, dR D 1) c).1)), sR (sD D 10 (tAdd (dI D 10, dR D 1) c).1) 1 (tAdd (dI D 10, dR D 1) c).2))
  else (.inr eA, D)
def zIn (D : DM) (x : Int32) : RO × DM :=
  if wIn x 1 48 then (.inl (some (.int (fL (fPas (dF D 0) x.toNatClampNeg) 4 - fL (dF D 0) 4).toInt32)), sF (sF D 1 (dF D 0)) 1 (fPas (dF D 0) x.toNatClampNeg)) else (.inr eA, D)
/-- the output's texts -/
def oT (D : DM) (T : TX) : DM := sR (sD D 11 T.1) 2 T.2
def oTx (D : DM) : TX := (dI D 11, dR D 2)
def zNm (D : DM) (c v : Int32) : DM := oT (oT D (tAdd (oTx D) c)) (tNum (oTx (oT D (tAdd (oTx D) c))) v)
def zW5 (D : DM) (t : Int32) : DM :=
  zNm (zNm (zNm (zNm (oT (oT D (0, dR D 2)) (tNum (oTx (oT D (0, dR D 2))) t)) 64 (vAt 12 (fA (dF D 0) 0) t)) 44 (vAt 12 (fA (dF D 0) 1) t)) 112 (vAt 12 (fA (dF D 0) 2) t)) 61 (outp (dF D 0) t (fI (dF D 0) 1) (fI (dF D 0) 2))
def zW6 (D E : DM) (t : Int32) : DM :=
  if curt (dF D 0) t then zNm E 60 (vAt 12 (fA (dF D 0) 4) t) else if inSt (dF D 0) t 2 then oT E (tAdd (oTx E) 120) else if inSt (dF D 0) t 3 then zNm E 115 (vAt 12 (fA (dF D 0) 5) t) else E
def zWt (D : DM) (t : Int32) : RO × DM := if hasT (dF D 0) t then (.inl (some (.int (dI (zW6 D (zW5 D t) t) 11))), zW6 D (zW5 D t) t) else (.inr eI, D)
def zOA (D : DM) (x : Int32) : RO := if wIn x 0 (dI D 11 - 1) then .inl (some (.int (tSig (oTx D) x))) else .inr eI
/-! commands carried out -/
def clI (D : DM) : DM := sR (sD D 10 0) 1 (dR D 1)
def zRf (D : DM) (v n : Int32) : RO × DM := if v = -1 then (.inr eS, D) else if v = -2 then (.inr eS, D) else (.inr eU, zRej D 10 n v)
/-- the next command's judgement; its change -/
def zJu (D : DM) : Int32 := jud (dF D 1) (dI D 9) (rAr D 0) (rAr D 1) (rAr D 2)
def zDo (D : DM) : DM := sF D 1 (fCar (dF D 1) (dI D 9) (rAr D 0) (rAr D 1) (rAr D 2)).1
def zLp : Nat → Nat → DM → RO × DM
  | _, 0, D => (.inl none, D)
  | j, k + 1, D => if zJu (rNx D).1 = 0 then zLp (j + 1) k (zDo (rNx D).1) else zRf (clI (rNx D).1) (zJu (rNx D).1) (nI j)
/-- the state at the first command -/
def zX0 (D : DM) : DM := sD (sF D 1 (dF D 0)) 8 0
def zXe (n : Nat) (r : RO × DM) : RO × DM := match r.1 with
  | .inl _ => (.inl (some (.int (nI n))), sF (hKp (clI r.2) (hJ (clI r.2))) 0 (dF (hKp (clI r.2) (hJ (clI r.2))) 1))
  | .inr E => (.inr E, r.2)
def zEx (D : DM) : RO × DM :=
  if (rCc D).2 = 0 then (.inr eA, clI (sD (rCc D).1 1 (dI (rCc D).1 8))) else zXe (rCc D).2.toNatClampNeg (zLp 0 (rCc D).2.toNatClampNeg (zX0 (rCc D).1))
theorem rCt_n : ∀ (k j : Nat) (D : DM), ∃ n, n ≤ j + k ∧ (rCt j k D).2 = nI n
  | 0, j, D => ⟨0, by omega, rfl⟩
  | k + 1, j, D => by
    unfold rCt
    split
    · split
      · exact ⟨j, by omega, rfl⟩
      · obtain ⟨n, h1, h2⟩ := rCt_n k (j + 1) (rNx D).1
        exact ⟨n, by omega, h2⟩
    · exact ⟨0, by omega, rfl⟩
theorem rCc_n (D : DM) : ∃ n, n ≤ 61 ∧ (rCc D).2 = nI n := rCt_n 60 1 _
theorem rSt (D : DM) (k : Nat) (hk : k < 7 ∨ 9 < k) : dI (rCc D).1 k = dI D k := (Sm_Cc D).2.1 k hk
theorem dF_hKp (D : DM) (j : Nat) {k : Nat} (hk : k < 3) : dF (hKp D j) k = dF D k := by
  unfold hKp
  rw [dF_sD, dF_sD, dF_sF, if_neg (by omega)]
theorem vD.sm {D D' : DM} (h : vD D) (s : Sm D D') : vD D' := by
  have e : ∀ k, dF D' k = dF D k := fun k => congrFun s.1 k
  have e5 : dI D' 5 = dI D 5 := s.2.1 5 (by omega)
  have eJ : hJ D' = hJ D := by unfold hJ; rw [e5]
  obtain ⟨h1, h2, h3, h4, h5, h6, h7⟩ := h
  refine ⟨fun k hk => by rw [e]; exact h1 k hk, by rw [e]; exact h2, by rw [e]; exact h3, by rw [e5, eJ]; exact h4, by rw [eJ]; exact h5, by rw [s.2.2 1 (by omega)]; exact h6, by rw [s.2.2 2 (by omega)]; exact h7⟩
theorem vD_cl {D : DM} (h : vD D) : vD (clI D) := ⟨h.1, h.2.1, h.2.2.1, h.2.2.2.1, h.2.2.2.2.1, h.2.2.2.2.2.1, h.2.2.2.2.2.2⟩
theorem nmD {G : GX} {N : Nat} {S : Nat → va_E} {E : DM} (h : isD G N S E) : ∃ Z, Z = E ∧ isD G N S Z := ⟨E, rfl, h⟩
