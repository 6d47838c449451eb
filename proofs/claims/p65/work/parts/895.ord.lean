/-! THE ORDERS of bids and turbines; the hours to the next bid. -/
theorem sub_eq0 {a b : Nat} (ha : a < 2 ^ 30) (hb : b < 2 ^ 30) : nI a - nI b = 0 ↔ a = b := by
  constructor
  · intro z
    have z1 := (sub_le0 ha hb).mp (by rw [z]; decide)
    have z2 : nI b - nI a = 0 := by
      rw [← Int32.neg_sub, z]
      decide
    have z3 := (sub_le0 hb ha).mp (by rw [z2]; decide)
    omega
  · intro z
    subst z
    exact Int32.sub_self _
def lexB (X Y : Nat → Nat) (a c : Nat) : Bool := decide (X c < X a ∨ (X a = X c ∧ (Y c < Y a ∨ (Y a = Y c ∧ a < c))))
theorem ah_nat {x1 x2 y1 y2 a c : Nat} (h1 : x1 < 2 ^ 30) (h2 : x2 < 2 ^ 30) (h3 : y1 < 2 ^ 30) (h4 : y2 < 2 ^ 30) (h5 : a < 2 ^ 30) (h6 : c < 2 ^ 30) :
    (if nI x1 - nI x2 = 0 then (if nI y1 - nI y2 = 0 then (if nI c ≤ nI a then false else true) else (if nI y1 - nI y2 ≤ 0 then false else true)) else (if nI x1 - nI x2 ≤ 0 then false else true)) = decide (x2 < x1 ∨ (x1 = x2 ∧ (y2 < y1 ∨ (y1 = y2 ∧ a < c)))) := by
  by_cases e1 : x1 = x2
  · rw [if_pos ((sub_eq0 h1 h2).mpr e1)]
    by_cases e2 : y1 = y2
    · rw [if_pos ((sub_eq0 h3 h4).mpr e2)]
      by_cases e3 : c ≤ a
      · rw [if_pos ((nI_leI (by omega) (by omega)).mpr e3), decide_eq_false (by omega)]
      · rw [if_neg (fun z => e3 ((nI_leI (by omega) (by omega)).mp z)), decide_eq_true (by omega)]
    · rw [if_neg (fun z => e2 ((sub_eq0 h3 h4).mp z))]
      by_cases e3 : y1 ≤ y2
      · rw [if_pos ((sub_le0 h3 h4).mpr e3), decide_eq_false (by omega)]
      · rw [if_neg (fun z => e3 ((sub_le0 h3 h4).mp z)), decide_eq_true (by omega)]
  · rw [if_neg (fun z => e1 ((sub_eq0 h1 h2).mp z))]
    by_cases e3 : x1 ≤ x2
    · rw [if_pos ((sub_le0 h1 h2).mpr e3), decide_eq_false (by omega)]
    · rw [if_neg (fun z => e3 ((sub_le0 h1 h2).mp z)), decide_eq_true (by omega)]
theorem lex_SO (P : Nat → Bool) (X Y : Nat → Nat) (n : Nat) : SO P (lexB X Y) n := by
  refine ⟨fun a _ => ?_, fun a b _ _ _ _ hne => ?_, fun a b c _ _ _ h1 h2 => ?_⟩
  · unfold lexB
    rw [decide_eq_false (by omega)]
  · unfold lexB
    rw [decide_eq_true_eq, decide_eq_true_eq]
    omega
  · unfold lexB at h1 h2 ⊢
    rw [decide_eq_true_eq] at h1 h2 ⊢
    omega
section ORD
variable {B : Nat} {F : FM} {M : Nat → Int32}
/-- an hour's price, its quantity; a turbine's output, its power -/
def pN (F : FM) (x : Nat) : Nat := (vAt 24 (fA F 7) (nI x)).toNatClampNeg
def uN (F : FM) (x : Nat) : Nat := (vAt 24 (fA F 8) (nI x)).toNatClampNeg
def oF (F : FM) (x : Nat) : Nat := (outp F (nI x) (fI F 1) (fI F 2)).toNatClampNeg
def rF (F : FM) (x : Nat) : Nat := (vAt 12 (fA F 2) (nI x)).toNatClampNeg
def isB' (F : FM) (x : Nat) : Bool := bidF F (nI x)
theorem bid_of (hM : okM B M) (hF : eqF F M) {x : Nat} (hx : x < 24) : pN F x ≤ 50 ∧ uN F x ≤ 500 ∧ (pN F x = 0 ↔ uN F x = 0) ∧ vAt 24 (fA F 7) (nI x) = nI (pN F x) ∧ vAt 24 (fA F 8) (nI x) = nI (uN F x) ∧ isB' F x = decide (0 < pN F x) := by
  obtain ⟨p, u, h1, h2, h3, -, -, h4, h5, h6⟩ := bid_eq hM hF hx
  have e1 : pN F x = p := by
    unfold pN
    rw [h4, nI_clamp (by omega)]
  have e2 : uN F x = u := by
    unfold uN
    rw [h5, nI_clamp (by omega)]
  rw [e1, e2]
  exact ⟨h1, h2, h3, h4, h5, h6⟩
theorem tur_of (hM : okM B M) (hF : eqF F M) {x : Nat} (hx : x < qN M) : oF F x ≤ 90 ∧ rF F x ≤ 9 ∧ outp F (nI x) (fI F 1) (fI F 2) = nI (oF F x) ∧ vAt 12 (fA F 2) (nI x) = nI (rF F x) := by
  obtain ⟨h1, h2, -⟩ := out_oN hM hF hx
  obtain ⟨r, c, p, s, hh, l, t⟩ := tf_of hM hF hx
  have e1 : oF F x = oN M x := by
    unfold oF
    rw [h2, nI_clamp (by omega)]
  have e3 : vAt 12 (fA F 2) (nI x) = nI p := t.2.2.2.2.2.2.2.2.2.2.2.2.1
  have hp := t.2.2.2.1
  have e2 : rF F x = p := by
    unfold rF
    rw [e3, nI_clamp (by omega)]
  rw [e1, e2]
  exact ⟨h1, hp.2, h2, e3⟩
theorem bAh_lex (hM : okM B M) (hF : eqF F M) {a c : Nat} (ha : a < 24) (hc : c < 24) : bAh F (nI a) (nI c) = lexB (pN F) (uN F) a c := by
  obtain ⟨a1, a2, -, a3, a4, -⟩ := bid_of hM hF ha
  obtain ⟨c1, c2, -, c3, c4, -⟩ := bid_of hM hF hc
  unfold bAh lexB
  rw [a3, c3, a4, c4]
  exact ah_nat (by omega) (by omega) (by omega) (by omega) (by omega) (by omega)
theorem tAh_lex (hM : okM B M) (hF : eqF F M) {a c : Nat} (ha : a < qN M) (hc : c < qN M) : tAh F (nI a) (nI c) = lexB (oF F) (rF F) a c := by
  have h12 := hM.1.2
  obtain ⟨a1, a2, a3, a4⟩ := tur_of hM hF ha
  obtain ⟨c1, c2, c3, c4⟩ := tur_of hM hF hc
  unfold tAh lexB
  rw [a3, c3, a4, c4]
  exact ah_nat (by omega) (by omega) (by omega) (by omega) (by omega) (by omega)
theorem bAo_rk (hM : okM B M) (hF : eqF F M) {x : Nat} (hx : x < 24) : ∀ n, n ≤ 24 → bAo F (nI x) n = nI (num (fun b => isB' F b && lexB (pN F) (uN F) b x) n)
  | 0, _ => rfl
  | n + 1, h => by
    have q := bAo_rk hM hF hx n (by omega)
    unfold bAo num
    rw [bAh_lex hM hF (show n < 24 by omega) hx, q]
    have e : bidF F (nI n) = isB' F n := rfl
    rw [e]
    cases isB' F n <;> cases lexB (pN F) (uN F) n x <;> simp [nI_1]
theorem tAo_rk (hM : okM B M) (hF : eqF F M) {x : Nat} (hx : x < qN M) : ∀ n, n ≤ qN M → tAo F (nI x) n = nI (num (fun b => true && lexB (oF F) (rF F) b x) n)
  | 0, _ => rfl
  | n + 1, h => by
    have q := tAo_rk hM hF hx n (by omega)
    unfold tAo num
    rw [tAh_lex hM hF (show n < qN M by omega) hx, q]
    cases lexB (oF F) (rF F) n x <;> simp [nI_1]
/-- how many bids -/
def nB (F : FM) : Nat := num (isB' F) 24
theorem zBP_no {p : Int32} : ∀ (k j : Nat), (∀ i, j ≤ i → i < j + k → bidF F (nI i) = true → ¬ bAo F (nI i) 24 = p) → zBP F p j k = .inr eN
  | 0, _, _ => rfl
  | k + 1, j, h => by
    unfold zBP
    have q := zBP_no k (j + 1) (fun i h1 h2 => h i (by omega) (by omega))
    split
    · rename_i z
      rw [if_neg (h j (Nat.le_refl _) (by omega) z)]
      exact q
    · exact q
theorem zBP_yes {p : Int32} {a : Nat} (hb : bidF F (nI a) = true) (hr : bAo F (nI a) 24 = p) : ∀ (k j : Nat), j ≤ a → a < j + k → (∀ i, j ≤ i → i < a → bidF F (nI i) = true → ¬ bAo F (nI i) 24 = p) → zBP F p j k = .inl (some (.int (nI a)))
  | 0, _, h1, h2, _ => absurd h2 (by omega)
  | k + 1, j, h1, h2, h3 => by
    unfold zBP
    by_cases e : j = a
    · subst e
      rw [if_pos hb, if_pos hr]
    · have q := zBP_yes hb hr k (j + 1) (by omega) (by omega) (fun i g1 g2 => h3 i (by omega) g2)
      split
      · rename_i z
        rw [if_neg (h3 j (Nat.le_refl _) (by omega) z)]
        exact q
      · exact q
theorem num_bd24 (f : Nat → Bool) : num f 24 ≤ 24 := num_le f 24
theorem bid_hit (hM : okM B M) (hF : eqF F M) {k : Nat} (hk : k < nB F) : ∃ a, a < 24 ∧ isB' F a = true ∧ rk (isB' F) (lexB (pN F) (uN F)) 24 a = k ∧ zBP F (nI k) 0 24 = .inl (some (.int (nI a))) := by
  have hs := lex_SO (isB' F) (pN F) (uN F) 24
  obtain ⟨a, h1, h2, h3⟩ := rk_ex hs hk
  refine ⟨a, h1, h2, h3, ?_⟩
  have hn := num_le (isB' F) 24
  unfold nB at hk
  refine zBP_yes h2 (by rw [bAo_rk hM hF h1 24 (Nat.le_refl _)]; show nI (rk (isB' F) (lexB (pN F) (uN F)) 24 a) = _; rw [h3]) 24 0 (Nat.zero_le _) (by omega) (fun i _ hi pi z => ?_)
  rw [bAo_rk hM hF (show i < 24 by omega) 24 (Nat.le_refl _)] at z
  have hb := num_le (fun b => isB' F b && lexB (pN F) (uN F) b i) 24
  have z2 := (nI_eq (by omega) (by omega)).mp z
  have := rk_inj hs (show i < 24 by omega) h1 pi h2 (by rw [h3]; exact z2)
  omega
theorem bid_miss (hM : okM B M) (hF : eqF F M) : zBP F (nI (nB F)) 0 24 = .inr eN := by
  have hs := lex_SO (isB' F) (pN F) (uN F) 24
  refine zBP_no 24 0 (fun i _ hi pi z => ?_)
  rw [bAo_rk hM hF (show i < 24 by omega) 24 (Nat.le_refl _)] at z
  have hb := num_le (fun b => isB' F b && lexB (pN F) (uN F) b i) 24
  have hn := num_le (isB' F) 24
  have z2 := (nI_eq (by omega) (by unfold nB; omega)).mp z
  have z3 := rk_bd hs (show i < 24 by omega) pi
  unfold rk at z3
  unfold nB at z2
  omega
theorem zTP_no {p : Int32} : ∀ (k j : Nat), (∀ i, j ≤ i → i < j + k → ¬ tAo F (nI i) (fN F) = p) → zTP F p j k = .inr eN
  | 0, _, _ => rfl
  | k + 1, j, h => by
    unfold zTP
    rw [if_neg (h j (Nat.le_refl _) (by omega))]
    exact zTP_no k (j + 1) (fun i h1 h2 => h i (by omega) (by omega))
theorem zTP_yes {p : Int32} {a : Nat} (hr : tAo F (nI a) (fN F) = p) : ∀ (k j : Nat), j ≤ a → a < j + k → (∀ i, j ≤ i → i < a → ¬ tAo F (nI i) (fN F) = p) → zTP F p j k = .inl (some (.int (nI a)))
  | 0, _, h1, h2, _ => absurd h2 (by omega)
  | k + 1, j, h1, h2, h3 => by
    unfold zTP
    by_cases e : j = a
    · subst e
      rw [if_pos hr]
    · rw [if_neg (h3 j (Nat.le_refl _) (by omega))]
      exact zTP_yes hr k (j + 1) (by omega) (by omega) (fun i g1 g2 => h3 i (by omega) g2)
theorem num_all : ∀ n, num (fun _ => true) n = n
  | 0 => rfl
  | n + 1 => by
    unfold num
    rw [if_pos rfl, num_all n]
theorem tur_hit (hM : okM B M) (hF : eqF F M) {k : Nat} (hk : k < qN M) : ∃ a, a < qN M ∧ rk (fun _ => true) (lexB (oF F) (rF F)) (qN M) a = k ∧ zTP F (nI k) 0 (fN F) = .inl (some (.int (nI a))) := by
  have h12 := hM.1.2
  have hs := lex_SO (fun _ => true) (oF F) (rF F) (qN M)
  obtain ⟨a, h1, h2, h3⟩ := rk_ex hs (show k < num (fun _ => true) (qN M) by rw [num_all]; exact hk)
  refine ⟨a, h1, h3, ?_⟩
  rw [fN_eq hF.1]
  have hfn := fN_eq hF.1
  have key : ∀ i, i < qN M → tAo F (nI i) (fN F) = nI (rk (fun _ => true) (lexB (oF F) (rF F)) (qN M) i) := fun i hi => by
    rw [hfn, tAo_rk hM hF hi _ (Nat.le_refl _)]
    rfl
  refine zTP_yes (by rw [key a h1, h3]) (qN M) 0 (Nat.zero_le _) (by omega) (fun i _ hi z => ?_)
  rw [key i (by omega)] at z
  have hb := rk_bd hs (show i < qN M by omega) rfl
  rw [num_all] at hb
  have z2 := (nI_eq (by omega) (by omega)).mp z
  have := rk_inj hs (show i < qN M by omega) h1 rfl rfl (by rw [h3]; exact z2)
  omega
theorem tur_miss (hM : okM B M) (hF : eqF F M) : zTP F (nI (qN M)) 0 (fN F) = .inr eN := by
  have h12 := hM.1.2
  have hs := lex_SO (fun _ => true) (oF F) (rF F) (qN M)
  have hfn := fN_eq hF.1
  rw [hfn]
  refine zTP_no (qN M) 0 (fun i _ hi z => ?_)
  rw [hfn, tAo_rk hM hF (show i < qN M by omega) _ (Nat.le_refl _)] at z
  have hb := rk_bd hs (show i < qN M by omega) rfl
  rw [num_all] at hb
  have z2 := (nI_eq (by have := num_le (fun b => true && lexB (oF F) (rF F) b i) (qN M); omega) (by omega)).mp z
  have hb2 : num (fun b => true && lexB (oF F) (rF F) b i) (qN M) < qN M := hb
  omega
end ORD
/-! round the hours -/
theorem num_sh (Q : Nat → Bool) : ∀ n, num (fun h => Q (h + 1)) n + (if Q 0 then 1 else 0) = num Q n + (if Q n then 1 else 0)
  | 0 => by simp [num]
  | n + 1 => by
    have q := num_sh Q n
    show (if Q (n + 1) = true then num (fun h => Q (h + 1)) n + 1 else num (fun h => Q (h + 1)) n) + (if Q 0 then 1 else 0) = (if Q n = true then num Q n + 1 else num Q n) + (if Q (n + 1) then 1 else 0)
    by_cases e2 : Q n = true
    · rw [if_pos e2] at q
      rw [if_pos (c := Q n = true) e2]
      by_cases e1 : Q (n + 1) = true
      · rw [if_pos e1, if_pos e1]
        omega
      · rw [if_neg e1, if_neg e1]
        omega
    · rw [if_neg e2] at q
      rw [if_neg (c := Q n = true) e2]
      by_cases e1 : Q (n + 1) = true
      · rw [if_pos e1, if_pos e1]
        omega
      · rw [if_neg e1, if_neg e1]
        omega
theorem num_rot (P : Nat → Bool) : ∀ t, num (fun h => P ((t + h) % 24)) 24 = num P 24
  | 0 => num_congr 24 (fun i hi => by rw [show (0 + i) % 24 = i by omega])
  | t + 1 => by
    have q := num_rot P t
    have q2 := num_sh (fun h => P ((t + h) % 24)) 24
    have e : (fun h => P ((t + 1 + h) % 24)) = fun h => P ((t + (h + 1)) % 24) := funext fun h => by rw [show t + 1 + h = t + (h + 1) by omega]
    rw [e]
    have e0 : P ((t + 0) % 24) = P ((t + 24) % 24) := by rw [show (t + 24) % 24 = (t + 0) % 24 by omega]
    simp only [e0] at q2
    omega
