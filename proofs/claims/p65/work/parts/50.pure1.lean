/-! THE COUPLING: what the reference's row holds; how a farm stands to it. -/
def tv (M : Nat → Int32) (j w : Nat) : Int32 := M (57 + 6 * j + w)
theorem qT0 {M : Nat → Int32} {j : Nat} (hj : j < 12) : qT M (nI j) 0 = tv M j 0 := qT_nI M (w := 0) hj (by decide)
theorem qT1 {M : Nat → Int32} {j : Nat} (hj : j < 12) : qT M (nI j) 1 = tv M j 1 := qT_nI M (w := 1) hj (by decide)
theorem qT2 {M : Nat → Int32} {j : Nat} (hj : j < 12) : qT M (nI j) 2 = tv M j 2 := qT_nI M (w := 2) hj (by decide)
theorem qT3 {M : Nat → Int32} {j : Nat} (hj : j < 12) : qT M (nI j) 3 = tv M j 3 := qT_nI M (w := 3) hj (by decide)
theorem qT4 {M : Nat → Int32} {j : Nat} (hj : j < 12) : qT M (nI j) 4 = tv M j 4 := qT_nI M (w := 4) hj (by decide)
theorem qT5 {M : Nat → Int32} {j : Nat} (hj : j < 12) : qT M (nI j) 5 = tv M j 5 := qT_nI M (w := 5) hj (by decide)
/-- the same, as a number -/
def tn (M : Nat → Int32) (j w : Nat) : Nat := (tv M j w).toNatClampNeg
/-- a turbine's row -/
def okT (M : Nat → Int32) (j : Nat) : Prop := (∀ w, w < 6 → tv M j w = nI (tn M j w)) ∧ tn M j 0 < 5 ∧ tn M j 1 < 6 ∧ 1 ≤ tn M j 2 ∧ tn M j 2 ≤ 9 ∧ tn M j 3 < 3 ∧ tn M j 4 ≤ 12 ∧ tn M j 5 ≤ 91 ∧ (0 < tn M j 5 → tn M j 3 = 0) ∧ (tn M j 3 = 2 → 1 ≤ tn M j 4)
def eqT (F : FM) (M : Nat → Int32) (j : Nat) : Prop := fA F 0 j = tv M j 0 ∧ fA F 1 j = tv M j 1 ∧ fA F 2 j = tv M j 2 ∧ fA F 3 j = tv M j 3 + 1 ∧ fA F 5 j = tv M j 4 ∧ fA F 4 j = tv M j 5 - 1
def cnt (M : Nat → Int32) (s : Nat) : Nat → Nat
  | 0 => 0
  | n + 1 => cnt M s n + (if tv M n 3 = nI s then 1 else 0)
theorem cnt_le (M : Nat → Int32) (s : Nat) : ∀ n, cnt M s n ≤ n
  | 0 => Nat.le_refl _
  | n + 1 => by
    unfold cnt
    have := cnt_le M s n
    split <;> omega
theorem qIS_cnt (M : Nat → Int32) (s : Nat) : ∀ n, n ≤ 12 → qIS M (nI s) n = nI (cnt M s n)
  | 0, _ => rfl
  | n + 1, h => by
    unfold qIS cnt
    rw [qIS_cnt M s n (by omega), qT3 (by omega)]
    by_cases e : tv M n 3 = nI s
    · rw [if_pos e, if_pos e, nI_1]
    · rw [if_neg e, if_neg e]
      exact Int32.add_zero _
/-- the bids -/
def pv (M : Nat → Int32) (x : Nat) : Int32 := M (9 + 2 * x)
def uv (M : Nat → Int32) (x : Nat) : Int32 := M (9 + 2 * x + 1)
theorem qPr_pv {M : Nat → Int32} {x : Nat} (hx : x < 24) : qPr M (nI x) = pv M x := by
  unfold qPr pv
  rw [show (9 : Int32) = nI 9 from rfl, show (2 : Int32) = nI 2 from rfl, pk_mul, nI_add, nI_clamp (by omega)]
theorem qQu_uv {M : Nat → Int32} {x : Nat} (hx : x < 24) : qQu M (nI x) = uv M x := by
  unfold qQu uv
  rw [show (9 : Int32) = nI 9 from rfl, show (2 : Int32) = nI 2 from rfl, pk_mul, nI_add, nI_1, nI_clamp (by omega)]
def okB (M : Nat → Int32) (x : Nat) : Prop := ∃ p u : Nat, pv M x = nI p ∧ uv M x = nI u ∧ p ≤ 50 ∧ u ≤ 500 ∧ (p = 0 ↔ u = 0)
/-- the accounts, after t hours -/
def okA (M : Nat → Int32) (t : Nat) : Prop := ∃ (m l s : Nat) (c : Int), M 5 = nI m ∧ M 6 = nI l ∧ M 7 = nI s ∧ M 8 = Int32.ofInt c ∧ l + s ≤ m ∧ m ≤ 1080 * t ∧ -(25000 * (t : Int)) ≤ c ∧ c ≤ 25000 * (t : Int)
def wy (M : Nat → Int32) : Nat := (M 1).toNatClampNeg
/-- the reference's row; not more than B hours have passed -/
def okM (B : Nat) (M : Nat → Int32) : Prop :=
  wM M ∧ (∀ j, j < qN M → okT M j) ∧ (∀ i j, i < qN M → j < qN M → tv M i 0 = tv M j 0 → tv M i 1 = tv M j 1 → i = j) ∧ cnt M 2 (qN M) ≤ 2 ∧
  (M 1 = nI (wy M) ∧ wy M < 4) ∧ (∃ s, s < 31 ∧ M 2 = nI s) ∧ (∃ g, g ≤ 999 ∧ M 3 = nI g) ∧ (∃ t, t ≤ B ∧ M 4 = nI t ∧ okA M t) ∧ ∀ x, x < 24 → okB M x
/-- the cells -/
def eqC (F : FM) (M : Nat → Int32) : Prop := ∀ x y : Nat, x < 9 → y < 10 → fA F 6 (10 * x + y) = qIn M (nI x - 2) (nI y - 2) + 1
def eqA (F : FM) (M : Nat → Int32) : Prop := fL F 0 = (M 5).toInt64 ∧ fL F 1 = (M 6).toInt64 ∧ fL F 2 = (M 7).toInt64 ∧ fL F 3 = (M 5 - M 6 - M 7).toInt64 ∧ fL F 4 = (M 8).toInt64
/-- where the turbines stand, and how -/
def eqP (F : FM) (M : Nat → Int32) : Prop := fI F 0 = M 0 ∧ (∀ j, j < qN M → eqT F M j) ∧ eqC F M
/-- a farm is what the row says -/
def eqF (F : FM) (M : Nat → Int32) : Prop :=
  eqP F M ∧ fI F 1 = qSgn (M 1) ∧ fI F 2 = M 2 ∧ fI F 3 = M 3 ∧ fI F 4 = M 4 ∧ (∀ j, qN M ≤ j → j < 12 → fA F 5 j = 0) ∧ (∀ x, x < 24 → fA F 7 x = pv M x ∧ fA F 8 x = uv M x) ∧ eqA F M ∧ nF F
/-! the search for a cell's turbine -/
theorem qIC_spec (M : Nat → Int32) (r c : Int32) : ∀ (k j : Nat), j + k ≤ 12 →
    (∃ i, j ≤ i ∧ i < j + k ∧ tv M i 0 = r ∧ tv M i 1 = c ∧ qIC M r c j k = nI i) ∨ ((∀ i, j ≤ i → i < j + k → ¬ (tv M i 0 = r ∧ tv M i 1 = c)) ∧ qIC M r c j k = -1)
  | 0, j, _ => Or.inr ⟨fun i h1 h2 => absurd h1 (by omega), rfl⟩
  | k + 1, j, h => by
    unfold qIC
    rw [qT0 (by omega), qT1 (by omega)]
    by_cases e0 : tv M j 0 = r
    · rw [if_pos e0]
      by_cases e1 : tv M j 1 = c
      · rw [if_pos e1]
        exact Or.inl ⟨j, Nat.le_refl _, by omega, e0, e1, rfl⟩
      · rw [if_neg e1]
        rcases qIC_spec M r c k (j + 1) (by omega) with ⟨i, h1, h2, h3⟩ | ⟨h1, h2⟩
        · exact Or.inl ⟨i, by omega, by omega, h3⟩
        · refine Or.inr ⟨fun i a b => ?_, h2⟩
          by_cases q : i = j
          · subst q
            exact fun z => e1 z.2
          · exact h1 i (by omega) (by omega)
    · rw [if_neg e0]
      rcases qIC_spec M r c k (j + 1) (by omega) with ⟨i, h1, h2, h3⟩ | ⟨h1, h2⟩
      · exact Or.inl ⟨i, by omega, by omega, h3⟩
      · refine Or.inr ⟨fun i a b => ?_, h2⟩
        by_cases q : i = j
        · subst q
          exact fun z => e0 z.1
        · exact h1 i (by omega) (by omega)
theorem qIn_spec {M : Nat → Int32} (hw : wM M) (r c : Int32) :
    (∃ i, i < qN M ∧ tv M i 0 = r ∧ tv M i 1 = c ∧ qIn M r c = nI i) ∨ ((∀ i, i < qN M → ¬ (tv M i 0 = r ∧ tv M i 1 = c)) ∧ qIn M r c = -1) := by
  rcases qIC_spec M r c (qN M) 0 (by have := hw.2; omega) with ⟨i, h1, h2, h3⟩ | ⟨h1, h2⟩
  · exact Or.inl ⟨i, by omega, h3⟩
  · exact Or.inr ⟨fun i hi => h1 i (by omega) (by omega), h2⟩
/-- it finds the one that stands there -/
theorem qIn_at {B : Nat} {M : Nat → Int32} (h : okM B M) {j : Nat} (hj : j < qN M) : qIn M (tv M j 0) (tv M j 1) = nI j := by
  rcases qIn_spec h.1 (tv M j 0) (tv M j 1) with ⟨i, h1, h2, h3, h4⟩ | ⟨h1, h2⟩
  · rw [h4, h.2.2.1 i j h1 hj h2 h3]
  · exact absurd ⟨rfl, rfl⟩ (h1 j hj)
theorem qIn_congr {M M' : Nat → Int32} (hw : wM M) (h0 : M' 0 = M 0) (h : ∀ j, j < qN M → tv M' j 0 = tv M j 0 ∧ tv M' j 1 = tv M j 1) (r c : Int32) : qIn M' r c = qIn M r c := by
  have hn : qN M' = qN M := qN_of h0
  have key : ∀ (k j : Nat), j + k ≤ qN M → qIC M' r c j k = qIC M r c j k := by
    intro k
    induction k with
    | zero => intro j _; rfl
    | succ k ih =>
      intro j hj
      have := hw.2
      unfold qIC
      rw [qT0 (by omega), qT1 (by omega), qT0 (by omega), qT1 (by omega), (h j (by omega)).1, (h j (by omega)).2, ih (j + 1) (by omega)]
  unfold qIn
  rw [hn]
  exact key _ 0 (by omega)
/-! power -/
theorem fac_eq : ∀ s, s < 31 → fac' (nI s) = qFac (nI s) := by decide +kernel
theorem pow_eq : ∀ s, s < 31 → ∀ a b : Bool, ∀ p, p < 10 → (if fac' (nI s) - wak' a b ≤ 0 then (0 : Int32) else nI p * (fac' (nI s) - wak' a b)) = (if 0 ≤ qFac (nI s) - (3 * b2i a + b2i b) then nI p * (qFac (nI s) - (3 * b2i a + b2i b)) else 0) := by decide +kernel
theorem pow_rng : ∀ s, s < 31 → ∀ a b : Bool, ∀ p, p < 10 → (if 0 ≤ qFac (nI s) - (3 * b2i a + b2i b) then nI p * (qFac (nI s) - (3 * b2i a + b2i b)) else 0) = nI (if 0 ≤ qFac (nI s) - (3 * b2i a + b2i b) then nI p * (qFac (nI s) - (3 * b2i a + b2i b)) else 0).toNatClampNeg ∧ (if 0 ≤ qFac (nI s) - (3 * b2i a + b2i b) then nI p * (qFac (nI s) - (3 * b2i a + b2i b)) else 0).toNatClampNeg ≤ 90 := by decide +kernel
/-- a running turbine in a cell -/
def runAt (M : Nat → Int32) (r c : Int32) : Bool := if qIn M r c < 0 then false else if qT M (qIn M r c) 3 = 0 then true else false
theorem qWk_run (M : Nat → Int32) (t f : Int32) : qWk M t f = b2i (runAt M (qT M t 0 + qDn M f) (qT M t 1 + qRt M f)) := by
  unfold qWk runAt b2i
  split
  · rfl
  · split <;> rfl
theorem m1_neg : (-1 : Int32) < 0 := by decide
theorem inSt_nI {F : FM} {j : Nat} (hj : j < 12) (s : Int32) : inSt F (nI j) s = if fA F 3 j = s then true else false := by
  unfold inSt
  rw [if_neg (nI_pos (by omega)), if_neg (nI_ge hj (by decide)), nI_clamp (by omega)]
theorem st_eq : ∀ s, s < 3 → ∀ k, k < 3 → ((nI s + 1 = nI (k + 1)) ↔ (nI s = nI k)) := by decide +kernel
theorem inSt_eq {B : Nat} {F : FM} {M : Nat → Int32} (hM : okM B M) (hF : eqP F M) {j : Nat} (hj : j < qN M) {k : Nat} (hk : k < 3) : inSt F (nI j) (nI (k + 1)) = if tv M j 3 = nI k then true else false := by
  have h12 := hM.1.2
  rw [inSt_nI (by omega), (hF.2.1 j hj).2.2.2.1]
  have ht := hM.2.1 j hj
  have e := ht.1 3 (by decide)
  have q := st_eq (tn M j 3) ht.2.2.2.2.2.1 k hk
  rw [e]
  by_cases z : nI (tn M j 3) = nI k
  · rw [if_pos z, if_pos (q.mpr z)]
  · rw [if_neg z, if_neg (fun y => z (q.mp y))]
theorem inSt_run {B : Nat} {F : FM} {M : Nat → Int32} (hM : okM B M) (hF : eqP F M) (r c : Int32) : inSt F (qIn M r c) 1 = runAt M r c := by
  unfold runAt
  have h12 := hM.1.2
  rcases qIn_spec hM.1 r c with ⟨i, h1, h2, h3, h4⟩ | ⟨h1, h2⟩
  · rw [h4, if_neg (nI_pos (by omega)), qT3 (by omega)]
    exact inSt_eq hM hF h1 (k := 0) (by decide)
  · rw [h2, if_pos m1_neg]
    rfl
/-- the cell that is f upwind of (r, c), in the row with its margin -/
def cx (w r f : Nat) : Nat := if w = 0 then r + 2 - f else if w = 2 then r + 2 + f else r + 2
def cy (w c f : Nat) : Nat := if w = 1 then c + 2 + f else if w = 3 then c + 2 - f else c + 2
def dnW (m f : Int32) : Int32 := if m = 0 then -f else if m = 2 then f else 0
def rtW (m f : Int32) : Int32 := if m = 1 then f else if m = 3 then -f else 0
theorem cell_u1 : ∀ w, w < 4 → ∀ r, r < 5 → ∀ c, c < 6 → plc' (nI r) (nI c) + stp' (qSgn (nI w)) = nI (10 * cx w r 1 + cy w c 1) := by decide +kernel
theorem cell_u2 : ∀ w, w < 4 → ∀ r, r < 5 → ∀ c, c < 6 → plc' (nI r) (nI c) + 2 * stp' (qSgn (nI w)) = nI (10 * cx w r 2 + cy w c 2) := by decide +kernel
theorem cell_x : ∀ w, w < 4 → ∀ r, r < 5 → ∀ f, f < 3 → 0 < f → cx w r f < 9 ∧ nI (cx w r f) - 2 = nI r + dnW (nI w) (nI f) := by decide +kernel
theorem cell_y : ∀ w, w < 4 → ∀ c, c < 6 → ∀ f, f < 3 → 0 < f → cy w c f < 10 ∧ nI (cy w c f) - 2 = nI c + rtW (nI w) (nI f) := by decide +kernel
theorem cell_up (w : Nat) (hw : w < 4) (r : Nat) (hr : r < 5) (c : Nat) (hc : c < 6) : (plc' (nI r) (nI c) + stp' (qSgn (nI w)) = nI (10 * cx w r 1 + cy w c 1) ∧ plc' (nI r) (nI c) + 2 * stp' (qSgn (nI w)) = nI (10 * cx w r 2 + cy w c 2)) ∧ (cx w r 1 < 9 ∧ cy w c 1 < 10 ∧ cx w r 2 < 9 ∧ cy w c 2 < 10) ∧
    (nI (cx w r 1) - 2 = nI r + dnW (nI w) 1 ∧ nI (cy w c 1) - 2 = nI c + rtW (nI w) 1 ∧ nI (cx w r 2) - 2 = nI r + dnW (nI w) 2 ∧ nI (cy w c 2) - 2 = nI c + rtW (nI w) 2) :=
  ⟨⟨cell_u1 w hw r hr c hc, cell_u2 w hw r hr c hc⟩, ⟨(cell_x w hw r hr 1 (by decide) (by decide)).1, (cell_y w hw c hc 1 (by decide) (by decide)).1, (cell_x w hw r hr 2 (by decide) (by decide)).1, (cell_y w hw c hc 2 (by decide) (by decide)).1⟩, ⟨(cell_x w hw r hr 1 (by decide) (by decide)).2, (cell_y w hw c hc 1 (by decide) (by decide)).2, (cell_x w hw r hr 2 (by decide) (by decide)).2, (cell_y w hw c hc 2 (by decide) (by decide)).2⟩⟩
theorem cell_rd {F : FM} {M : Nat → Int32} (hC : eqC F M) {x y : Nat} (hx : x < 9) (hy : y < 10) : vAt 90 (fA F 6) (nI (10 * x + y)) - 1 = qIn M (nI x - 2) (nI y - 2) := by
  rw [vAt_nI (by omega) (by decide), hC x y hx hy]
  exact Int32.add_sub_cancel _ _
theorem cell_in : ∀ r, r < 5 → ∀ c, c < 6 → plc' (nI r) (nI c) = nI (10 * (r + 2) + (c + 2)) ∧ nI (r + 2) - 2 = nI r ∧ nI (c + 2) - 2 = nI c := by decide +kernel
theorem tIn_eq {F : FM} {M : Nat → Int32} (hC : eqC F M) {r c : Nat} (hr : r < 5) (hc : c < 6) : tIn F (nI r) (nI c) = qIn M (nI r) (nI c) := by
  obtain ⟨h1, h2, h3⟩ := cell_in r hr c hc
  unfold tIn
  rw [h1, cell_rd hC (by omega) (by omega), h2, h3]
theorem los_eq {B : Nat} {F : FM} {M : Nat → Int32} (hM : okM B M) (hF : eqP F M) {j : Nat} (hj : j < qN M) {w : Nat} (hw : w < 4) :
    ∃ a b : Bool, los F (nI j) (qSgn (nI w)) = wak' a b ∧ ∀ M', M' 0 = M 0 → M' 1 = nI w → (∀ i, i < qN M → ∀ k, k < 6 → tv M' i k = tv M i k) → qLo M' (nI j) = 3 * b2i a + b2i b := by
  have h12 := hM.1.2
  have ht := hM.2.1 j hj
  have e0 := ht.1 0 (by decide)
  have e1 := ht.1 1 (by decide)
  have hT := hF.2.1 j hj
  obtain ⟨⟨p1, p2⟩, ⟨x1, y1, x2, y2⟩, ⟨n1, m1, n2, m2⟩⟩ := cell_up w hw (tn M j 0) ht.2.1 (tn M j 1) ht.2.2.1
  refine ⟨runAt M (tv M j 0 + dnW (nI w) 1) (tv M j 1 + rtW (nI w) 1), runAt M (tv M j 0 + dnW (nI w) 2) (tv M j 1 + rtW (nI w) 2), ?_, ?_⟩
  · unfold los
    rw [vAt_nI (by omega) (by decide), vAt_nI (by omega) (by decide), hT.1, hT.2.1, e0, e1, p1, p2, cell_rd hF.2.2 x1 y1, cell_rd hF.2.2 x2 y2, n1, m1, n2, m2, inSt_run hM hF, inSt_run hM hF]
  · intro M' h0 h1 h
    have hr : ∀ r c, runAt M' r c = runAt M r c := by
      intro r c
      have hq : qIn M' r c = qIn M r c := qIn_congr hM.1 h0 (fun i hi => ⟨h i hi 0 (by decide), h i hi 1 (by decide)⟩) r c
      unfold runAt
      rw [hq]
      rcases qIn_spec hM.1 r c with ⟨i, a1, a2, a3, a4⟩ | ⟨a1, a2⟩
      · rw [a4, qT3 (by omega), qT3 (by omega), h i a1 3 (by decide)]
      · rw [a2, if_pos m1_neg, if_pos m1_neg]
    have hd : ∀ f, qDn M' f = dnW (nI w) f := fun f => by unfold qDn dnW; rw [h1]
    have hg : ∀ f, qRt M' f = rtW (nI w) f := fun f => by unfold qRt rtW; rw [h1]
    unfold qLo
    rw [qWk_run, qWk_run, hr, hr, hd, hd, hg, hg, qT0 (by omega), qT1 (by omega), h j hj 0 (by decide), h j hj 1 (by decide)]
/-- a turbine's output -/
theorem out_eq {B : Nat} {F : FM} {M : Nat → Int32} (hM : okM B M) (hF : eqP F M) {j : Nat} (hj : j < qN M) {w s : Nat} (hw : w < 4) (hs : s < 31) {M' : Nat → Int32} (h0 : M' 0 = M 0) (h1 : M' 1 = nI w) (h2 : M' 2 = nI s) (h : ∀ i, i < qN M → ∀ k, k < 6 → tv M' i k = tv M i k) :
    ∃ o, o ≤ 90 ∧ outp F (nI j) (qSgn (nI w)) (nI s) = nI o ∧ qOu M' (nI j) = nI o ∧ (0 < o → tv M j 3 = 0) ∧ (0 < tn M j 5 → o < tn M j 5) := by
  have h12 := hM.1.2
  have ht := hM.2.1 j hj
  have hT := hF.2.1 j hj
  obtain ⟨a, b, hl, hq⟩ := los_eq hM hF hj hw
  have hq := hq M' h0 h1 h
  have hp := pow_eq s hs a b (tn M j 2) (by have := ht.2.2.2.2.1; omega)
  have hr := pow_rng s hs a b (tn M j 2) (by have := ht.2.2.2.2.1; omega)
  have e2 := ht.1 2 (by decide)
  have e5 := ht.1 5 (by decide)
  have hs1 : inSt F (nI j) 1 = if tv M j 3 = 0 then true else false := inSt_eq hM hF hj (k := 0) (by decide)
  obtain ⟨P, hPe⟩ : ∃ P, P = (if 0 ≤ qFac (nI s) - (3 * b2i a + b2i b) then nI (tn M j 2) * (qFac (nI s) - (3 * b2i a + b2i b)) else 0) := ⟨_, rfl⟩
  rw [← hPe] at hp hr
  -- the available power
  have hc : pwr F (nI j) (nI s) (los F (nI j) (qSgn (nI w))) = if tv M j 3 = 0 then P else 0 := by
    unfold pwr
    rw [hl, hs1, vAt_nI (by omega) (by decide), hT.2.2.1, e2]
    by_cases z : tv M j 3 = 0
    · rw [if_pos z, if_pos z, if_pos rfl]
      exact hp
    · rw [if_neg z, if_neg z]
      split <;> rfl
  have hm : qAv M' (nI j) = if tv M j 3 = 0 then P else 0 := by
    unfold qAv
    rw [hq, h2, qT3 (by omega), qT2 (by omega), h j hj 3 (by decide), h j hj 2 (by decide), e2]
    by_cases z : tv M j 3 = 0
    · rw [if_pos z, if_pos z, hPe]
    · rw [if_neg z, if_neg z]
  obtain ⟨v, hv9, hv, hv0⟩ : ∃ v, v ≤ 90 ∧ (if tv M j 3 = 0 then P else 0) = nI v ∧ (0 < v → tv M j 3 = 0) := by
    by_cases z : tv M j 3 = 0
    · exact ⟨P.toNatClampNeg, hr.2, by rw [if_pos z]; exact hr.1, fun _ => z⟩
    · exact ⟨0, by omega, by rw [if_neg z]; rfl, fun q => absurd q (by omega)⟩
  have ho : outp F (nI j) (qSgn (nI w)) (nI s) = lim F (nI j) (nI v) := by unfold outp; rw [hc, hv]
  have hlim : vAt 12 (fA F 4) (nI j) = nI (tn M j 5) - 1 := by rw [vAt_nI (by omega) (by decide), hT.2.2.2.2.2, e5]
  have hqo : qOu M' (nI j) = if qT M' (nI j) 5 - 1 < 0 then nI v else if nI v ≤ qT M' (nI j) 5 - 1 then nI v else qT M' (nI j) 5 - 1 := by unfold qOu; rw [hm, hv]
  have h5 : qT M' (nI j) 5 = nI (tn M j 5) := by rw [qT5 (by omega), h j hj 5 (by decide), e5]
  have hl91 := ht.2.2.2.2.2.2.2.1
  rw [h5] at hqo
  cases hk : tn M j 5 with
  | zero =>
    rw [hk] at hlim hqo
    refine ⟨v, hv9, ?_, ?_, hv0, fun q => absurd q (by omega)⟩
    · rw [ho]; unfold lim; rw [hlim]; exact if_pos rfl
    · rw [hqo]; exact if_pos (by decide)
  | succ k =>
    rw [hk, nI_pred] at hlim hqo
    have hne : ¬ nI k = -1 := fun z => nI_pos (n := k) (by omega) (by rw [z]; decide)
    rw [if_neg (nI_pos (by omega))] at hqo
    by_cases q : v < k
    · refine ⟨v, hv9, ?_, ?_, hv0, fun _ => by omega⟩
      · rw [ho]; unfold lim; rw [hlim, if_neg hne, if_pos (nI_lt q (by omega))]
      · rw [hqo, if_pos (nI_le (by omega) (by omega))]
    · refine ⟨k, by omega, ?_, ?_, fun z => hv0 (by omega), fun _ => by omega⟩
      · rw [ho]; unfold lim; rw [hlim, if_neg hne, if_neg (nI_nlt (by omega) (by omega))]
      · rw [hqo]
        by_cases q2 : v = k
        · subst q2; rw [if_pos (nI_le (Nat.le_refl _) (by omega))]
        · rw [if_neg (nI_ge (by omega) (by omega))]
