/-! WHAT THE REFERENCE IS: its numbers by their slots, its rows; what its methods answer, in the words of its code. -/
abbrev MM : Type := (Nat → Int32) × (Nat → Int32) × (Nat → Int32) × (Nat → Int32) × (Nat → Int32)
def mI (Q : MM) (k : Nat) : Int32 := Q.1 k
def mM (Q : MM) : Nat → Int32 := Q.2.1
def mL (Q : MM) : Nat → Int32 := Q.2.2.1
def mN (Q : MM) : Nat → Int32 := Q.2.2.2.1
def mC (Q : MM) : Nat → Int32 := Q.2.2.2.2
def sMI (Q : MM) (k : Nat) (v : Int32) : MM := (fun j => if j = k then v else Q.1 j, Q.2)
def sMM (Q : MM) (f : Nat → Int32) : MM := (Q.1, f, Q.2.2)
def sML (Q : MM) (f : Nat → Int32) : MM := (Q.1, Q.2.1, f, Q.2.2.2)
def sMN (Q : MM) (f : Nat → Int32) : MM := (Q.1, Q.2.1, Q.2.2.1, f, Q.2.2.2.2)
def sMC (Q : MM) (f : Nat → Int32) : MM := (Q.1, Q.2.1, Q.2.2.1, Q.2.2.2.1, f)
theorem mI_sI (Q : MM) (k j : Nat) (v : Int32) : mI (sMI Q k v) j = if j = k then v else mI Q j := rfl
theorem mI_sM (Q : MM) (f : Nat → Int32) (j : Nat) : mI (sMM Q f) j = mI Q j := rfl
theorem mM_sI (Q : MM) (k : Nat) (v : Int32) : mM (sMI Q k v) = mM Q := rfl
theorem mM_sM (Q : MM) (f : Nat → Int32) : mM (sMM Q f) = f := rfl
def modO (G : GX) (Q : MM) : List Value := [.int (mI Q 0), .ref (ad G 120), .int (mI Q 2), .int (mI Q 3), .int (mI Q 4), .int (mI Q 5), .int (mI Q 6), .int (mI Q 7), .ref (ad G 121), .int (mI Q 9), .ref (ad G 122), .int (mI Q 11), .int (mI Q 12), .int (mI Q 13), .int (mI Q 14), .ref (ad G 123), .int (mI Q 16)]
section ISM
variable {G : GX} {N : Nat} {S : Nat → va_E} {Q : MM}
end ISM
section MUP
variable {X : CX} {G : GX} {nL N pc pc' : Nat} {lo : List (Nat × Value)} {st : List Value} {S : Nat → va_E} {Q : MM} {a c : Nat} {cc : ByteArray} {own : String} {rm : Nat × Nat × Nat × Nat}
theorem r_ialdk (h : OK X G N cc own nL rm) {k k0 n : Nat} {f : Nat → Int32} {i : Int32} (hd : decode cc pc = .ok (.iaload, 1)) (hp : pc + 1 = pc') (hk : k < N) (hc : S k = .inl (gI G, n, .inl f)) (hin : vp_in i n) (hi : i.toNatClampNeg = k0) (kk : AW X G nL N pc' lo (.int (f k0) :: st) S a c) : AW X G nL N pc lo (.int i :: .ref (ad G k) :: st) S a c := by
  subst hi
  exact r_iald h hd hp hk hc hin kk
theorem r_iastk (h : OK X G N cc own nL rm) {k k0 n : Nat} {f : Nat → Int32} {i x : Int32} (hd : decode cc pc = .ok (.iastore, 1)) (hp : pc + 1 = pc') (hk : k < N) (hc : S k = .inl (gI G, n, .inl f)) (hin : vp_in i n) (hi : i.toNatClampNeg = k0) (kk : AW X G nL N pc' lo st (va_up S k (.inl (gI G, n, .inl (upd f k0 x)))) a c) : AW X G nL N pc lo (.int x :: .int i :: .ref (ad G k) :: st) S a c := by
  subst hi
  exact r_iast h hd hp hk hc hin kk
end MUP
def qN (M : Nat → Int32) : Nat := (M 0).toNatClampNeg
def wM (M : Nat → Int32) : Prop := M 0 = nI (qN M) ∧ qN M ≤ 12
def qT (M : Nat → Int32) (t w : Int32) : Int32 := M (57 + 6 * t + w).toNatClampNeg
theorem ix_T {t : Int32} {w : Nat} (ht : vp_in t 12) (hw : w < 6) : vp_in (57 + 6 * t + nI w) 1548 := by
  obtain ⟨j, hj, rfl⟩ := vp_in_of ht (by decide)
  rw [show (57 : Int32) = nI 57 from rfl, show (6 : Int32) = nI 6 from rfl, pk_mul, nI_add, nI_add]
  exact vp_in_nI (by omega) (by decide)
theorem qT_nI (M : Nat → Int32) {j w : Nat} (hj : j < 12) (hw : w < 6) : qT M (nI j) (nI w) = M (57 + 6 * j + w) := by
  unfold qT
  rw [show (57 : Int32) = nI 57 from rfl, show (6 : Int32) = nI 6 from rfl, pk_mul, nI_add, nI_add, nI_clamp (by omega)]
def qIT (M : Nat → Int32) (t : Int32) : Bool := wIn t 0 (M 0 - 1)
def qIC (M : Nat → Int32) (r c : Int32) : Nat → Nat → Int32
  | _, 0 => -1
  | j, k + 1 => if qT M (nI j) 0 = r then (if qT M (nI j) 1 = c then nI j else qIC M r c (j + 1) k) else qIC M r c (j + 1) k
def qIn (M : Nat → Int32) (r c : Int32) : Int32 := qIC M r c 0 (qN M)
theorem qIC_rng (M : Nat → Int32) (r c : Int32) : ∀ (k j : Nat), j + k ≤ 12 → qIC M r c j k = -1 ∨ ∃ i, i < 12 ∧ qIC M r c j k = nI i
  | 0, j, _ => Or.inl rfl
  | k + 1, j, h => by
    unfold qIC
    split
    · split
      · exact Or.inr ⟨j, by omega, rfl⟩
      · exact qIC_rng M r c k (j + 1) (by omega)
    · exact qIC_rng M r c k (j + 1) (by omega)
theorem qIn_in {M : Nat → Int32} (hM : wM M) {r c : Int32} (h : ¬ qIn M r c < 0) : vp_in (qIn M r c) 12 := by
  rcases qIC_rng M r c (qN M) 0 (by have := hM.2; omega) with e | ⟨i, hi, e⟩
  · exact absurd (by unfold qIn; rw [e]; decide) h
  · unfold qIn; rw [e]; exact vp_in_nI hi (by decide)
def qFac (x : Int32) : Int32 := if x < 3 then 0 else if x ≤ 22 then (if 5 ≤ x then (if 8 ≤ x then (if 12 ≤ x then 10 else 8) else 5) else 2) else 0
def qDn (M : Nat → Int32) (f : Int32) : Int32 := if M 1 = 0 then -f else if M 1 = 2 then f else 0
def qRt (M : Nat → Int32) (f : Int32) : Int32 := if M 1 = 1 then f else if M 1 = 3 then -f else 0
def qWk (M : Nat → Int32) (t f : Int32) : Int32 := if qIn M (qT M t 0 + qDn M f) (qT M t 1 + qRt M f) < 0 then 0 else if qT M (qIn M (qT M t 0 + qDn M f) (qT M t 1 + qRt M f)) 3 = 0 then 1 else 0
def qLo (M : Nat → Int32) (t : Int32) : Int32 := 3 * qWk M t 1 + qWk M t 2
def qAv (M : Nat → Int32) (t : Int32) : Int32 := if qT M t 3 = 0 then (if 0 ≤ qFac (M 2) - qLo M t then qT M t 2 * (qFac (M 2) - qLo M t) else 0) else 0
def qOu (M : Nat → Int32) (t : Int32) : Int32 := if qT M t 5 - 1 < 0 then qAv M t else if qAv M t ≤ qT M t 5 - 1 then qAv M t else qT M t 5 - 1
def qTo (M : Nat → Int32) : Nat → Int32
  | 0 => 0
  | n + 1 => qTo M n + qOu M (nI n)
def qIS (M : Nat → Int32) (s : Int32) : Nat → Int32
  | 0 => 0
  | n + 1 => qIS M s n + (if qT M (nI n) 3 = s then 1 else 0)
def qFS (M : Nat → Int32) : Nat → Nat → Int32
  | _, 0 => 0
  | j, k + 1 => if qT M (nI j) 3 = 2 then nI j else qFS M (j + 1) k
def qWay (d : Int32) : Int32 := if d = 78 then 0 else if d = 69 then 1 else if d = 83 then 2 else if d = 87 then 3 else -1
def qSgn (w : Int32) : Int32 := if w = 0 then 78 else if w = 1 then 69 else if w = 2 then 83 else 87
def qPr (M : Nat → Int32) (x : Int32) : Int32 := M (9 + 2 * x).toNatClampNeg
def qQu (M : Nat → Int32) (x : Int32) : Int32 := M (9 + 2 * x + 1).toNatClampNeg
def qBd (M : Nat → Int32) : Nat → Int32
  | 0 => 0
  | n + 1 => qBd M n + (if qPr M (nI n) ≤ 0 then 0 else 1)
theorem ix_P {x : Int32} (hx : vp_in x 24) : vp_in (9 + 2 * x) 1548 ∧ vp_in (9 + 2 * x + 1) 1548 := by
  obtain ⟨j, hj, rfl⟩ := vp_in_of hx (by decide)
  rw [show (9 : Int32) = nI 9 from rfl, show (2 : Int32) = nI 2 from rfl, pk_mul, nI_add, nI_1]
  exact ⟨vp_in_nI (by omega) (by decide), vp_in_nI (by omega) (by decide)⟩
theorem wIn_in {x lw hi : Int32} {a n : Nat} (h : wIn x lw hi = true) (hl : lw = nI 0) (hh : hi = nI a) (ha : a < n) (hn : n < 2 ^ 31) : vp_in x n := by
  unfold wIn at h
  by_cases h1 : x < lw
  · rw [if_pos h1] at h; cases h
  · by_cases h2 : hi < x
    · rw [if_neg h1, if_pos h2] at h; cases h
    · subst hl; subst hh
      obtain ⟨j, hj, rfl⟩ := nI_of h1
      have : ¬ a < j := fun z => h2 (nI_lt z hj)
      exact vp_in_nI (by omega) hn
theorem qIT_in {M : Nat → Int32} (hM : wM M) {t : Int32} (h : qIT M t = true) : vp_in t 12 := by
  unfold qIT at h
  rw [hM.1] at h
  by_cases h0 : qN M = 0
  · rw [h0] at h
    unfold wIn at h
    by_cases h1 : t < 0
    · rw [if_pos h1] at h; cases h
    · rw [if_neg h1] at h
      have h2 : ¬ (nI 0 - 1 < t) := fun z => by rw [if_pos z] at h; cases h
      exact absurd (Int32.lt_of_lt_of_le (by decide : nI 0 - 1 < 0) (Int32.not_lt.mp h1)) h2
  · have e : nI (qN M) - 1 = nI (qN M - 1) := by rw [show qN M = (qN M - 1) + 1 by omega]; exact nI_pred _
    rw [e] at h
    exact wIn_in h rfl rfl (by have := hM.2; omega) (by decide)
