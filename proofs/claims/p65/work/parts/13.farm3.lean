/-! the rest of the farm: lines, orders, judgements, changes -/
def blo (F : FM) : Bool := if fI F 1 = 78 then true else if fI F 1 = 83 then true else false
def tLn (F : FM) (l d : Int32) : Int32 := if fI F 1 = 69 then tIn F l (5 - d) else if fI F 1 = 78 then tIn F d l else if fI F 1 = 83 then tIn F (4 - d) l else tIn F l d
def lNear (F : FM) (l : Int32) : Nat → Bool
  | 0 => false
  | n + 1 => inSt F (tLn F l (nI n)) 1
def lFar (F : FM) (l : Int32) : Nat → Bool
  | 0 => false
  | n + 1 => lNear F l n
theorem lNear_0 (F : FM) (l : Int32) : lNear F l 0 = false := rfl
theorem lNear_s (F : FM) (l : Int32) (n : Nat) : lNear F l (n + 1) = inSt F (tLn F l (nI n)) 1 := rfl
theorem lFar_0 (F : FM) (l : Int32) : lFar F l 0 = false := rfl
theorem lFar_s (F : FM) (l : Int32) (n : Nat) : lFar F l (n + 1) = lNear F l n := rfl
def lSum (F : FM) (l : Int32) : Nat → Int32
  | 0 => 0
  | n + 1 => lSum F l n + lim F (tLn F l (nI n)) (pwr F (tLn F l (nI n)) (fI F 2) (wak' (lNear F l n) (lFar F l n)))
def lLen (F : FM) : Nat := if blo F then 5 else 6
def lCnt (F : FM) : Nat := if blo F then 6 else 5
def bSum (F : FM) : Nat → Int32
  | 0 => 0
  | n + 1 => bSum F n + lSum F (nI n) (lLen F)
def tAh (F : FM) (a c : Int32) : Bool :=
  if outp F a (fI F 1) (fI F 2) - outp F c (fI F 1) (fI F 2) = 0 then
    (if vAt 12 (fA F 2) a - vAt 12 (fA F 2) c = 0 then (if c ≤ a then false else true) else (if vAt 12 (fA F 2) a - vAt 12 (fA F 2) c ≤ 0 then false else true))
  else (if outp F a (fI F 1) (fI F 2) - outp F c (fI F 1) (fI F 2) ≤ 0 then false else true)
def tAo (F : FM) (t : Int32) : Nat → Int32
  | 0 => 0
  | n + 1 => if tAh F (nI n) t then tAo F t n + 1 else tAo F t n
def bAh (F : FM) (a c : Int32) : Bool :=
  if vAt 24 (fA F 7) a - vAt 24 (fA F 7) c = 0 then
    (if vAt 24 (fA F 8) a - vAt 24 (fA F 8) c = 0 then (if c ≤ a then false else true) else (if vAt 24 (fA F 8) a - vAt 24 (fA F 8) c ≤ 0 then false else true))
  else (if vAt 24 (fA F 7) a - vAt 24 (fA F 7) c ≤ 0 then false else true)
def bAo (F : FM) (t : Int32) : Nat → Int32
  | 0 => 0
  | n + 1 => if bidF F (nI n) then (if bAh F (nI n) t then bAo F t n + 1 else bAo F t n) else bAo F t n
def jAdd (F : FM) (r c p : Int32) : Int32 := if isCell' r c then (if wIn p 1 9 then (if fI F 0 < 12 then (if tIn F r c < 0 then 0 else 2) else 1) else -2) else -1
def jSnd (F : FM) (t x : Int32) : Int32 := if wIn x 1 12 then (if inSt F t 2 then (if 2 ≤ cSt F 3 (fN F) then 5 else 0) else 4) else -2
def jTur (F : FM) (o t x : Int32) : Int32 :=
  if o = 99 then (if wIn x 0 90 then (if inSt F t 1 then 0 else 3) else -2)
  else if o = 114 then (if inSt F t 3 then 0 else 6)
  else if o = 115 then jSnd F t x
  else if o = 117 then (if inSt F t 1 then (if curt F t then 0 else 7) else 3)
  else (if inSt F t 1 then 0 else 3)
def jBid (F : FM) (o x p q : Int32) : Int32 :=
  if o = 113 then (if bidF F x then 0 else 9) else if wIn p 1 50 then (if wIn q 1 500 then (if bidF F x then 8 else 0) else -2) else -2
def jud (F : FM) (o a b c : Int32) : Int32 :=
  if o = 97 then jAdd F a b c
  else if o = 98 then (if isHour' a then jBid F o a b c else -1)
  else if o = 99 then (if hasT F a then jTur F o a b else -1)
  else if o = 102 then (if hasT F a then jTur F o a b else -1)
  else if o = 103 then (if wIn a 0 999 then 0 else -2)
  else if o = 113 then (if isHour' a then jBid F o a b c else -1)
  else if o = 114 then (if hasT F a then jTur F o a b else -1)
  else if o = 115 then (if hasT F a then jTur F o a b else -1)
  else if o = 116 then (if wIn a 1 48 then 0 else -2)
  else if o = 117 then (if hasT F a then jTur F o a b else -1)
  else if o = 119 then (if isWind' a b then 0 else -2)
  else 0
def det (F : FM) (r a b : Int32) : Int32 :=
  if r = 1 then 12 else if r = 2 then tIn F a b else if r = 3 then vAt 12 (fA F 5) a else if r = 5 then fSv F 0 (fN F) else if r = 8 then vAt 24 (fA F 7) a else if r = 9 then cBd F 24
  else outp F a (fI F 1) (fI F 2)
/-! changes -/
def fAdd (F : FM) (r c p : Int32) : FM := sI (sA (sA (sA (sA (sA (sA F 0 (sAt 12 (fA F 0) (fI F 0) r)) 1 (sAt 12 (fA F 1) (fI F 0) c)) 2 (sAt 12 (fA F 2) (fI F 0) p)) 3 (sAt 12 (fA F 3) (fI F 0) 1)) 4 (sAt 12 (fA F 4) (fI F 0) (-1))) 6 (sAt 90 (fA F 6) (plc' r c) (fI F 0 + 1))) 0 (fI F 0 + 1)
def fBrk (F : FM) (t : Int32) : FM := sA (sA F 3 (sAt 12 (fA F 3) t 2)) 4 (sAt 12 (fA F 4) t (-1))
def fSta (F : FM) (t x : Int32) : FM := sA (sA F 3 (sAt 12 (fA F 3) t 3)) 5 (sAt 12 (fA F 5) t x)
def fSto (F : FM) (t : Int32) : FM := sA (sA F 3 (sAt 12 (fA F 3) t 2)) 5 (sAt 12 (fA F 5) t 0)
def fChg (F : FM) (t x : Int32) : FM := sA F 4 (sAt 12 (fA F 4) t x)
def fWnd (F : FM) (d x : Int32) : FM := sI (sI F 1 d) 2 x
def fBid (F : FM) (x p q : Int32) : FM := sA (sA F 7 (sAt 24 (fA F 7) x p)) 8 (sAt 24 (fA F 8) x q)
def fUnb (F : FM) (x : Int32) : FM := sA (sA F 7 (sAt 24 (fA F 7) x 0)) 8 (sAt 24 (fA F 8) x 0)
def bst (F : FM) : Nat → Int32 × Int32
  | 0 => (-1, -1)
  | n + 1 => if outp F (nI n) (fI F 1) (fI F 2) ≤ (bst F n).2 then bst F n else (nI n, outp F (nI n) (fI F 1) (fI F 2))
def exc (F : FM) : Int32 := sumI F (fI F 1) (fI F 2) (fN F) - fI F 3
def fDst (F : FM) : FM := fChg F (bst F (fN F)).1 (if outp F (bst F (fN F)).1 (fI F 1) (fI F 2) - exc F < 0 then 0 else outp F (bst F (fN F)).1 (fI F 1) (fI F 2) - exc F)
def dRun : Nat → FM → Int32 → FM × Int32
  | 0, F, c => (F, c)
  | k + 1, F, c => if 0 < exc F then dRun k (fDst F) (c + 1) else (F, c)
def fEal (F : FM) : Nat → FM × Int32
  | 0 => (F, 0)
  | n + 1 => if curt (fEal F n).1 (nI n) then (fChg (fEal F n).1 (nI n) (-1), (fEal F n).2 + 1) else fEal F n
def fWo1 (P : FM) (t : Int32) : FM :=
  if inSt P t 3 then
    (if vAt 12 (fA P 5) t - 1 = 0 then sA (sA P 5 (sAt 12 (fA P 5) t (vAt 12 (fA P 5) t - 1))) 3 (sAt 12 (fA P 3) t 1) else sA P 5 (sAt 12 (fA P 5) t (vAt 12 (fA P 5) t - 1)))
  else P
def fWos (F : FM) : Nat → FM
  | 0 => F
  | n + 1 => fWo1 (fWos F n) (nI n)
def hr' (F : FM) : Int32 := fI F 4 - fI F 4 / 24 * 24
def del' (F : FM) (en : Int32) : Int32 := if vAt 24 (fA F 8) (hr' F) < en - en / 20 then vAt 24 (fA F 8) (hr' F) else en - en / 20
def fAcc (F : FM) (en : Int32) : FM :=
  sL (sL (sL (sL (sL F 0 (fL F 0 + en.toInt64)) 1 (fL F 1 + (en / 20).toInt64)) 2 (fL F 2 + (del' F en).toInt64)) 3 (fL F 3 + (en - en / 20 - del' F en).toInt64)) 4 (fL F 4 + (vAt 24 (fA F 7) (hr' F) * (del' F en - (vAt 24 (fA F 8) (hr' F) - del' F en))).toInt64)
def fHr (P : FM) : FM := sI (fWos (fAcc P (sumI P (fI P 1) (fI P 2) (fN P))) (fN P)) 4 (fI P 4 + 1)
def fPas (F : FM) : Nat → FM
  | 0 => F
  | n + 1 => fHr (fPas F n)
theorem fEal_I (F : FM) (n k : Nat) : fI (fEal F n).1 k = fI F k := by
  induction n with
  | zero => rfl
  | succ n ih => unfold fEal; split <;> exact ih
theorem fWo1_I (F : FM) (t : Int32) (k : Nat) : fI (fWo1 F t) k = fI F k := by unfold fWo1; split <;> (try split) <;> rfl
theorem fWos_I (F : FM) (n k : Nat) : fI (fWos F n) k = fI F k := by
  induction n with
  | zero => rfl
  | succ n ih => unfold fWos; rw [fWo1_I]; exact ih
theorem fHr_eq (P : FM) : sI (fWos (fAcc P (sumI P (fI P 1) (fI P 2) (fN P))) (fN (fAcc P (sumI P (fI P 1) (fI P 2) (fN P))))) 4 (fI (fWos (fAcc P (sumI P (fI P 1) (fI P 2) (fN P))) (fN (fAcc P (sumI P (fI P 1) (fI P 2) (fN P))))) 4 + 1) = fHr P := by unfold fHr; rw [fWos_I]; rfl
theorem fAcc_I (F : FM) (e : Int32) (k : Nat) : fI (fAcc F e) k = fI F k := rfl
theorem fHr_I (F : FM) (k : Nat) (hk : k ≠ 4) : fI (fHr F) k = fI F k := by
  unfold fHr
  rw [fI_sI, if_neg hk, fWos_I, fAcc_I]
theorem fPas_I (F : FM) (n k : Nat) (hk : k ≠ 4) : fI (fPas F n) k = fI F k := by
  induction n with
  | zero => rfl
  | succ n ih => unfold fPas; rw [fHr_I _ _ hk]; exact ih
theorem wF.of {F F2 : FM} (h : wF F) (e : fI F2 0 = fI F 0) : wF F2 := by
  unfold wF fN at *
  rw [e]; exact h
theorem fN.of {F F2 : FM} (e : fI F2 0 = fI F 0) : fN F2 = fN F := by unfold fN; rw [e]
def isCh (d : Int32) : Prop := narrow .char (.int d) = .int d ∧ fits .char (.int d) = true
/-- rows hold nothing beyond their ends -/
def lenF : Nat → Nat
  | 6 => 90
  | 7 => 24
  | 8 => 24
  | _ => 12
def nF (F : FM) : Prop := ∀ j : Nat, j < 9 → ∀ i : Nat, lenF j ≤ i → fA F j i = 0
def cpR (n : Nat) (f g : Nat → Int32) : Nat → Int32 := fun i => if i < n then f i else g i
theorem cpR_eq {m : Nat} {f g : Nat → Int32} (hf : ∀ i, m ≤ i → f i = 0) (hg : ∀ i, m ≤ i → g i = 0) : cpR m f g = f := by
  funext i
  unfold cpR
  by_cases h : i < m
  · rw [if_pos h]
  · rw [if_neg h, hf i (by omega), hg i (by omega)]
theorem isF.eqv {G : GX} {N b : Nat} {S : Nat → va_E} {F F2 : FM} (h : isF G N S b F) (hA : ∀ j, j < 9 → fA F j = fA F2 j) (hI : ∀ j, j < 5 → fI F j = fI F2 j) (hL : ∀ j, j < 5 → fL F j = fL F2 j) : isF G N S b F2 := by
  obtain ⟨h0, h1, h2, h3, h4, h5, h6, h7, h8, h9, h10⟩ := h
  refine ⟨h0, ?_, ?_, ?_, ?_, ?_, ?_, ?_, ?_, ?_, ?_⟩
  · rw [h1]; simp only [farmO, hI 0 (by decide), hI 1 (by decide), hI 2 (by decide), hI 3 (by decide), hI 4 (by decide), hL 0 (by decide), hL 1 (by decide), hL 2 (by decide), hL 3 (by decide), hL 4 (by decide)]
  · rw [h2, hA 0 (by decide)]
  · rw [h3, hA 1 (by decide)]
  · rw [h4, hA 2 (by decide)]
  · rw [h5, hA 3 (by decide)]
  · rw [h6, hA 4 (by decide)]
  · rw [h7, hA 5 (by decide)]
  · rw [h8, hA 6 (by decide)]
  · rw [h9, hA 7 (by decide)]
  · rw [h10, hA 8 (by decide)]
section WUP
variable {X : CX} {G : GX} {nL N pc b : Nat} {lo : List (Nat × Value)} {st : List Value} {S : Nat → va_E} {F : FM} {a c : Nat}
theorem wI0 (hF : isF G N S b F) {v : Int32} (k : ∀ S1, isF G N S1 b (sI F 0 v) → FR b S S1 → AW X G nL N pc lo st S1 a c) : AW X G nL N pc lo st (va_up S b (.inr (1, (farmO G b F).set 9 (.int v)))) a c := k _ (hF.pI0 v) (FR.up (by omega))
theorem wL0 (hF : isF G N S b F) {v : Int64} (k : ∀ S1, isF G N S1 b (sL F 0 v) → FR b S S1 → AW X G nL N pc lo st S1 a c) : AW X G nL N pc lo st (va_up S b (.inr (1, (farmO G b F).set 14 (.long v)))) a c := k _ (hF.pL0 v) (FR.up (by omega))
theorem wI1 (hF : isF G N S b F) {v : Int32} (k : ∀ S1, isF G N S1 b (sI F 1 v) → FR b S S1 → AW X G nL N pc lo st S1 a c) : AW X G nL N pc lo st (va_up S b (.inr (1, (farmO G b F).set 10 (.int v)))) a c := k _ (hF.pI1 v) (FR.up (by omega))
theorem wL1 (hF : isF G N S b F) {v : Int64} (k : ∀ S1, isF G N S1 b (sL F 1 v) → FR b S S1 → AW X G nL N pc lo st S1 a c) : AW X G nL N pc lo st (va_up S b (.inr (1, (farmO G b F).set 15 (.long v)))) a c := k _ (hF.pL1 v) (FR.up (by omega))
theorem wI2 (hF : isF G N S b F) {v : Int32} (k : ∀ S1, isF G N S1 b (sI F 2 v) → FR b S S1 → AW X G nL N pc lo st S1 a c) : AW X G nL N pc lo st (va_up S b (.inr (1, (farmO G b F).set 11 (.int v)))) a c := k _ (hF.pI2 v) (FR.up (by omega))
theorem wL2 (hF : isF G N S b F) {v : Int64} (k : ∀ S1, isF G N S1 b (sL F 2 v) → FR b S S1 → AW X G nL N pc lo st S1 a c) : AW X G nL N pc lo st (va_up S b (.inr (1, (farmO G b F).set 16 (.long v)))) a c := k _ (hF.pL2 v) (FR.up (by omega))
theorem wI3 (hF : isF G N S b F) {v : Int32} (k : ∀ S1, isF G N S1 b (sI F 3 v) → FR b S S1 → AW X G nL N pc lo st S1 a c) : AW X G nL N pc lo st (va_up S b (.inr (1, (farmO G b F).set 12 (.int v)))) a c := k _ (hF.pI3 v) (FR.up (by omega))
theorem wL3 (hF : isF G N S b F) {v : Int64} (k : ∀ S1, isF G N S1 b (sL F 3 v) → FR b S S1 → AW X G nL N pc lo st S1 a c) : AW X G nL N pc lo st (va_up S b (.inr (1, (farmO G b F).set 17 (.long v)))) a c := k _ (hF.pL3 v) (FR.up (by omega))
theorem wI4 (hF : isF G N S b F) {v : Int32} (k : ∀ S1, isF G N S1 b (sI F 4 v) → FR b S S1 → AW X G nL N pc lo st S1 a c) : AW X G nL N pc lo st (va_up S b (.inr (1, (farmO G b F).set 13 (.int v)))) a c := k _ (hF.pI4 v) (FR.up (by omega))
theorem wL4 (hF : isF G N S b F) {v : Int64} (k : ∀ S1, isF G N S1 b (sL F 4 v) → FR b S S1 → AW X G nL N pc lo st S1 a c) : AW X G nL N pc lo st (va_up S b (.inr (1, (farmO G b F).set 18 (.long v)))) a c := k _ (hF.pL4 v) (FR.up (by omega))
theorem wA0 (hF : isF G N S b F) {f : Nat → Int32} (k : ∀ S1, isF G N S1 b (sA F 0 f) → FR b S S1 → AW X G nL N pc lo st S1 a c) : AW X G nL N pc lo st (va_up S (b + 1) (.inl (gI G, 12, .inl f))) a c := k _ (hF.pA0 f) (FR.up (by omega))
theorem wA1 (hF : isF G N S b F) {f : Nat → Int32} (k : ∀ S1, isF G N S1 b (sA F 1 f) → FR b S S1 → AW X G nL N pc lo st S1 a c) : AW X G nL N pc lo st (va_up S (b + 2) (.inl (gI G, 12, .inl f))) a c := k _ (hF.pA1 f) (FR.up (by omega))
theorem wA2 (hF : isF G N S b F) {f : Nat → Int32} (k : ∀ S1, isF G N S1 b (sA F 2 f) → FR b S S1 → AW X G nL N pc lo st S1 a c) : AW X G nL N pc lo st (va_up S (b + 3) (.inl (gI G, 12, .inl f))) a c := k _ (hF.pA2 f) (FR.up (by omega))
theorem wA3 (hF : isF G N S b F) {f : Nat → Int32} (k : ∀ S1, isF G N S1 b (sA F 3 f) → FR b S S1 → AW X G nL N pc lo st S1 a c) : AW X G nL N pc lo st (va_up S (b + 4) (.inl (gI G, 12, .inl f))) a c := k _ (hF.pA3 f) (FR.up (by omega))
theorem wA4 (hF : isF G N S b F) {f : Nat → Int32} (k : ∀ S1, isF G N S1 b (sA F 4 f) → FR b S S1 → AW X G nL N pc lo st S1 a c) : AW X G nL N pc lo st (va_up S (b + 5) (.inl (gI G, 12, .inl f))) a c := k _ (hF.pA4 f) (FR.up (by omega))
theorem wA5 (hF : isF G N S b F) {f : Nat → Int32} (k : ∀ S1, isF G N S1 b (sA F 5 f) → FR b S S1 → AW X G nL N pc lo st S1 a c) : AW X G nL N pc lo st (va_up S (b + 6) (.inl (gI G, 12, .inl f))) a c := k _ (hF.pA5 f) (FR.up (by omega))
theorem wA6 (hF : isF G N S b F) {f : Nat → Int32} (k : ∀ S1, isF G N S1 b (sA F 6 f) → FR b S S1 → AW X G nL N pc lo st S1 a c) : AW X G nL N pc lo st (va_up S (b + 7) (.inl (gI G, 90, .inl f))) a c := k _ (hF.pA6 f) (FR.up (by omega))
theorem wA7 (hF : isF G N S b F) {f : Nat → Int32} (k : ∀ S1, isF G N S1 b (sA F 7 f) → FR b S S1 → AW X G nL N pc lo st S1 a c) : AW X G nL N pc lo st (va_up S (b + 8) (.inl (gI G, 24, .inl f))) a c := k _ (hF.pA7 f) (FR.up (by omega))
theorem wA8 (hF : isF G N S b F) {f : Nat → Int32} (k : ∀ S1, isF G N S1 b (sA F 8 f) → FR b S S1 → AW X G nL N pc lo st S1 a c) : AW X G nL N pc lo st (va_up S (b + 9) (.inl (gI G, 24, .inl f))) a c := k _ (hF.pA8 f) (FR.up (by omega))
end WUP
