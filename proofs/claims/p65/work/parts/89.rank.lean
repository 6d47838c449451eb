/-! RANKS: in a strict order every place from 0 on is held by one. -/
/-- how many below n -/
def num (f : Nat → Bool) : Nat → Nat
  | 0 => 0
  | n + 1 => if f n then num f n + 1 else num f n
theorem num_le (f : Nat → Bool) : ∀ n, num f n ≤ n
  | 0 => Nat.le_refl _
  | n + 1 => by
    have := num_le f n
    unfold num
    split <;> omega
theorem num_mono {f g : Nat → Bool} : ∀ n, (∀ i, i < n → f i = true → g i = true) → num f n ≤ num g n
  | 0, _ => Nat.le_refl _
  | n + 1, h => by
    have q := num_mono n (fun i hi => h i (by omega))
    have q2 := h n (by omega)
    unfold num
    by_cases e : f n = true
    · rw [if_pos e, if_pos (q2 e)]
      omega
    · rw [if_neg e]
      split <;> omega
theorem num_congr {f g : Nat → Bool} : ∀ n, (∀ i, i < n → f i = g i) → num f n = num g n
  | 0, _ => rfl
  | n + 1, h => by
    unfold num
    rw [num_congr n (fun i hi => h i (by omega)), h n (by omega)]
theorem num_lt {f g : Nat → Bool} {a : Nat} : ∀ n, (∀ i, i < n → f i = true → g i = true) → a < n → g a = true → f a = false → num f n < num g n
  | 0, _, ha, _, _ => absurd ha (Nat.not_lt_zero a)
  | n + 1, h, ha, h1, h2 => by
    unfold num
    by_cases e : a = n
    · subst e
      have q := num_mono a (fun i hi => h i (by omega))
      rw [if_pos h1, if_neg (by rw [h2]; decide)]
      omega
    · have q := num_lt (a := a) n (fun i hi => h i (by omega)) (by omega) h1 h2
      have q2 := h n (by omega)
      by_cases e2 : f n = true
      · rw [if_pos e2, if_pos (q2 e2)]
        omega
      · rw [if_neg e2]
        split <;> omega
theorem num_or {f g k : Nat → Bool} : ∀ n, (∀ i, i < n → k i = true → f i = true ∨ g i = true) → num k n ≤ num f n + num g n
  | 0, _ => Nat.le_refl _
  | n + 1, h => by
    have q := num_or n (fun i hi => h i (by omega))
    have q2 := h n (by omega)
    unfold num
    by_cases e : k n = true
    · rw [if_pos e]
      rcases q2 e with z | z
      · rw [if_pos z]
        split <;> omega
      · rw [if_pos z]
        split <;> omega
    · rw [if_neg e]
      split <;> split <;> omega
theorem num_0 {f : Nat → Bool} : ∀ n, (∀ i, i < n → f i = false) → num f n = 0
  | 0, _ => rfl
  | n + 1, h => by
    unfold num
    rw [if_neg (by rw [h n (by omega)]; decide)]
    exact num_0 n (fun i hi => h i (by omega))
theorem num_one {f : Nat → Bool} : ∀ n, (∀ i j, i < n → j < n → f i = true → f j = true → i = j) → num f n ≤ 1
  | 0, _ => Nat.zero_le _
  | n + 1, h => by
    unfold num
    by_cases e : f n = true
    · rw [if_pos e]
      have q : num f n = 0 := num_0 n (fun i hi => by
        cases z : f i with
        | false => rfl
        | true => exact absurd (h i n (by omega) (by omega) z e) (by omega))
      omega
    · rw [if_neg e]
      exact num_one n (fun i j hi hj => h i j (by omega) (by omega))
theorem num_pos {f : Nat → Bool} : ∀ n, 0 < num f n → ∃ i, i < n ∧ f i = true
  | 0, h => absurd h (Nat.lt_irrefl _)
  | n + 1, h => by
    unfold num at h
    by_cases e : f n = true
    · exact ⟨n, by omega, e⟩
    · rw [if_neg e] at h
      obtain ⟨i, h1, h2⟩ := num_pos n h
      exact ⟨i, by omega, h2⟩
/-- a strict order of the things P below n -/
def SO (P : Nat → Bool) (lt : Nat → Nat → Bool) (n : Nat) : Prop :=
  (∀ a, a < n → lt a a = false) ∧ (∀ a b, a < n → b < n → P a = true → P b = true → a ≠ b → lt a b = true ∨ lt b a = true) ∧ ∀ a b c, a < n → b < n → c < n → lt a b = true → lt b c = true → lt a c = true
def rk (P : Nat → Bool) (lt : Nat → Nat → Bool) (n a : Nat) : Nat := num (fun b => P b && lt b a) n
section RK
variable {P : Nat → Bool} {lt : Nat → Nat → Bool} {n : Nat}
theorem rk_lt (h : SO P lt n) {a b : Nat} (ha : a < n) (hb : b < n) (pa : P a = true) (hl : lt a b = true) : rk P lt n a < rk P lt n b := by
  unfold rk
  refine num_lt (a := a) n (fun i hi z => ?_) ha (by rw [pa, hl]; rfl) (by rw [pa, h.1 a ha]; rfl)
  rw [Bool.and_eq_true] at z ⊢
  exact ⟨z.1, h.2.2 i a b hi ha hb z.2 hl⟩
theorem rk_inj (h : SO P lt n) {a b : Nat} (ha : a < n) (hb : b < n) (pa : P a = true) (pb : P b = true) (e : rk P lt n a = rk P lt n b) : a = b := by
  by_cases z : a = b
  · exact z
  · rcases h.2.1 a b ha hb pa pb z with q | q
    · have := rk_lt h ha hb pa q
      omega
    · have := rk_lt h hb ha pb q
      omega
theorem rk_bd (h : SO P lt n) {a : Nat} (ha : a < n) (pa : P a = true) : rk P lt n a < num P n := by
  unfold rk
  refine num_lt (a := a) n (fun i hi z => ?_) ha pa (by rw [pa, h.1 a ha]; rfl)
  rw [Bool.and_eq_true] at z
  exact z.1
/-- not more than k of rank less than k -/
theorem rk_few (h : SO P lt n) : ∀ k, num (fun b => P b && decide (rk P lt n b < k)) n ≤ k
  | 0 => by
    rw [num_0]
    · exact Nat.le_refl _
    · intro i hi
      simp
  | k + 1 => by
    have q := rk_few h k
    have q2 : num (fun b => P b && decide (rk P lt n b = k)) n ≤ 1 := num_one n (fun i j hi hj z1 z2 => by
      simp only [Bool.and_eq_true, decide_eq_true_eq] at z1 z2
      exact rk_inj h hi hj z1.1 z2.1 (by omega))
    have q3 := num_or (f := fun b => P b && decide (rk P lt n b < k)) (g := fun b => P b && decide (rk P lt n b = k)) (k := fun b => P b && decide (rk P lt n b < k + 1)) n (fun i hi z => by
      simp only [Bool.and_eq_true, decide_eq_true_eq] at z ⊢
      rcases Nat.lt_or_ge (rk P lt n i) k with y | y
      · exact Or.inl ⟨z.1, y⟩
      · exact Or.inr ⟨z.1, by omega⟩)
    omega
/-- one of the least rank, of those whose rank is k or more -/
theorem rk_min (k : Nat) : ∀ (m : Nat), (∃ a, a < n ∧ P a = true ∧ k ≤ rk P lt n a ∧ rk P lt n a ≤ m) → ∃ a, a < n ∧ P a = true ∧ k ≤ rk P lt n a ∧ ∀ b, b < n → P b = true → k ≤ rk P lt n b → rk P lt n a ≤ rk P lt n b
  | 0, ⟨a, h1, h2, h3, h4⟩ => ⟨a, h1, h2, h3, fun b _ _ _ => by omega⟩
  | m + 1, ⟨a, h1, h2, h3, h4⟩ => by
    by_cases e : ∃ a, a < n ∧ P a = true ∧ k ≤ rk P lt n a ∧ rk P lt n a ≤ m
    · exact rk_min k m e
    · refine ⟨a, h1, h2, h3, fun b b1 b2 b3 => ?_⟩
      rcases Nat.lt_or_ge m (rk P lt n b) with y | y
      · omega
      · exact absurd ⟨b, b1, b2, b3, y⟩ e
theorem rk_ex (h : SO P lt n) {k : Nat} (hk : k < num P n) : ∃ a, a < n ∧ P a = true ∧ rk P lt n a = k := by
  have hf := rk_few h k
  have e : ∃ a, a < n ∧ P a = true ∧ k ≤ rk P lt n a := by
    refine Classical.byContradiction (fun z => ?_)
    have q := num_mono (f := P) (g := fun b => P b && decide (rk P lt n b < k)) n (fun i hi pi => by
      simp only [Bool.and_eq_true, decide_eq_true_eq]
      refine ⟨pi, ?_⟩
      rcases Nat.lt_or_ge (rk P lt n i) k with y | y
      · exact y
      · exact absurd ⟨i, hi, pi, y⟩ z)
    omega
  obtain ⟨a0, a1, a2, a3⟩ := e
  obtain ⟨a, b1, b2, b3, b4⟩ := rk_min k (rk P lt n a0) ⟨a0, a1, a2, a3, Nat.le_refl _⟩
  refine ⟨a, b1, b2, ?_⟩
  have q := num_mono (f := fun b => P b && lt b a) (g := fun b => P b && decide (rk P lt n b < k)) n (fun i hi z => by
    simp only [Bool.and_eq_true, decide_eq_true_eq] at z ⊢
    refine ⟨z.1, ?_⟩
    rcases Nat.lt_or_ge (rk P lt n i) k with y | y
    · exact y
    · have y2 := b4 i hi z.1 y
      have y3 := rk_lt h hi b1 z.1 z.2
      omega)
  have q2 : rk P lt n a ≤ k := Nat.le_trans q hf
  omega
theorem rk_next (h : SO P lt n) {a b k : Nat} (ha : a < n) (hb : b < n) (pa : P a = true) (pb : P b = true) (ea : rk P lt n a = k) (eb : rk P lt n b = k + 1) : lt a b = true := by
  have hne : a ≠ b := fun z => by
    subst z
    omega
  rcases h.2.1 a b ha hb pa pb hne with q | q
  · exact q
  · have := rk_lt h hb ha pb q
    omega
end RK
