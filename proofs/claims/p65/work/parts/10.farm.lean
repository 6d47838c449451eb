/-! WHAT THE FARM IS: its rows and numbers; what its methods answer, in the words of its code. -/
abbrev FM : Type := (Nat → Nat → Int32) × (Nat → Int32) × (Nat → Int64)
def fA (F : FM) (j : Nat) : Nat → Int32 := F.1 j
def fI (F : FM) (j : Nat) : Int32 := F.2.1 j
def fL (F : FM) (j : Nat) : Int64 := F.2.2 j
def sA (F : FM) (j : Nat) (f : Nat → Int32) : FM := (fun k => if k = j then f else F.1 k, F.2)
def sI (F : FM) (j : Nat) (v : Int32) : FM := (F.1, fun k => if k = j then v else F.2.1 k, F.2.2)
def sL (F : FM) (j : Nat) (v : Int64) : FM := (F.1, F.2.1, fun k => if k = j then v else F.2.2 k)
theorem fA_sA (F : FM) (j k : Nat) (f : Nat → Int32) : fA (sA F j f) k = if k = j then f else fA F k := rfl
theorem fA_sI (F : FM) (j k : Nat) (v : Int32) : fA (sI F j v) k = fA F k := rfl
theorem fA_sL (F : FM) (j k : Nat) (v : Int64) : fA (sL F j v) k = fA F k := rfl
theorem fI_sA (F : FM) (j k : Nat) (f : Nat → Int32) : fI (sA F j f) k = fI F k := rfl
theorem fI_sI (F : FM) (j k : Nat) (v : Int32) : fI (sI F j v) k = if k = j then v else fI F k := rfl
theorem fI_sL (F : FM) (j k : Nat) (v : Int64) : fI (sL F j v) k = fI F k := rfl
theorem fL_sA (F : FM) (j k : Nat) (f : Nat → Int32) : fL (sA F j f) k = fL F k := rfl
theorem fL_sI (F : FM) (j k : Nat) (v : Int32) : fL (sI F j v) k = fL F k := rfl
theorem fL_sL (F : FM) (j k : Nat) (v : Int64) : fL (sL F j v) k = if k = j then v else fL F k := rfl
def arI (G : GX) (n : Nat) (f : Nat → Int32) : va_E := .inl (gI G, n, .inl f)
def arC (G : GX) (n : Nat) (f : Nat → Int32) : va_E := .inl (gC G, n, .inl f)
def farmO (G : GX) (b : Nat) (F : FM) : List Value := [.ref (ad G (b + 1)), .ref (ad G (b + 2)), .ref (ad G (b + 3)), .ref (ad G (b + 4)), .ref (ad G (b + 5)), .ref (ad G (b + 6)), .ref (ad G (b + 7)), .ref (ad G (b + 8)), .ref (ad G (b + 9)), .int (fI F 0), .int (fI F 1), .int (fI F 2), .int (fI F 3), .int (fI F 4), .long (fL F 0), .long (fL F 1), .long (fL F 2), .long (fL F 3), .long (fL F 4)]
/-- a farm F lies at place b -/
def isF (G : GX) (N : Nat) (S : Nat → va_E) (b : Nat) (F : FM) : Prop :=
  b + 9 < N ∧ S b = .inr (1, farmO G b F) ∧ S (b + 1) = arI G 12 (fA F 0) ∧ S (b + 2) = arI G 12 (fA F 1) ∧ S (b + 3) = arI G 12 (fA F 2) ∧ S (b + 4) = arI G 12 (fA F 3) ∧ S (b + 5) = arI G 12 (fA F 4) ∧ S (b + 6) = arI G 12 (fA F 5) ∧ S (b + 7) = arI G 90 (fA F 6) ∧ S (b + 8) = arI G 24 (fA F 7) ∧ S (b + 9) = arI G 24 (fA F 8)
section ISF
variable {G : GX} {N b : Nat} {S S' : Nat → va_E} {F : FM}
theorem isF.l0 (h : isF G N S b F) : b < N := by have := h.1; omega
theorem isF.l1 (h : isF G N S b F) : b + 1 < N := by have := h.1; omega
theorem isF.l2 (h : isF G N S b F) : b + 2 < N := by have := h.1; omega
theorem isF.l3 (h : isF G N S b F) : b + 3 < N := by have := h.1; omega
theorem isF.l4 (h : isF G N S b F) : b + 4 < N := by have := h.1; omega
theorem isF.l5 (h : isF G N S b F) : b + 5 < N := by have := h.1; omega
theorem isF.l6 (h : isF G N S b F) : b + 6 < N := by have := h.1; omega
theorem isF.l7 (h : isF G N S b F) : b + 7 < N := by have := h.1; omega
theorem isF.l8 (h : isF G N S b F) : b + 8 < N := by have := h.1; omega
theorem isF.l9 (h : isF G N S b F) : b + 9 < N := h.1
theorem isF.o (h : isF G N S b F) : S b = .inr (1, farmO G b F) := h.2.1
theorem isF.r1 (h : isF G N S b F) : S (b + 1) = arI G 12 (fA F 0) := h.2.2.1
theorem isF.r2 (h : isF G N S b F) : S (b + 2) = arI G 12 (fA F 1) := h.2.2.2.1
theorem isF.r3 (h : isF G N S b F) : S (b + 3) = arI G 12 (fA F 2) := h.2.2.2.2.1
theorem isF.r4 (h : isF G N S b F) : S (b + 4) = arI G 12 (fA F 3) := h.2.2.2.2.2.1
theorem isF.r5 (h : isF G N S b F) : S (b + 5) = arI G 12 (fA F 4) := h.2.2.2.2.2.2.1
theorem isF.r6 (h : isF G N S b F) : S (b + 6) = arI G 12 (fA F 5) := h.2.2.2.2.2.2.2.1
theorem isF.r7 (h : isF G N S b F) : S (b + 7) = arI G 90 (fA F 6) := h.2.2.2.2.2.2.2.2.1
theorem isF.r8 (h : isF G N S b F) : S (b + 8) = arI G 24 (fA F 7) := h.2.2.2.2.2.2.2.2.2.1
theorem isF.r9 (h : isF G N S b F) : S (b + 9) = arI G 24 (fA F 8) := h.2.2.2.2.2.2.2.2.2.2
end ISF
/-- nothing but the farm at b has changed -/
def FR (b : Nat) (S S' : Nat → va_E) : Prop := ∀ k : Nat, (k < b ∨ b + 9 < k) → S' k = S k
theorem FR.rfl' {b : Nat} {S : Nat → va_E} : FR b S S := fun _ _ => rfl
theorem FR.trans {b : Nat} {S S1 S2 : Nat → va_E} (h1 : FR b S S1) (h2 : FR b S1 S2) : FR b S S2 := fun k hk => (h2 k hk).trans (h1 k hk)
theorem FR.up {b k : Nat} {S : Nat → va_E} {e : va_E} (h : b ≤ k ∧ k ≤ b + 9) : FR b S (va_up S k e) := fun j hj => by
  unfold va_up
  rw [if_neg (by omega)]
theorem isF.fr {G : GX} {N b b2 : Nat} {S S' : Nat → va_E} {F : FM} (h : isF G N S b F) (hf : FR b2 S S') (hd : b + 9 < b2 ∨ b2 + 9 < b) : isF G N S' b F := by
  obtain ⟨h0, h1, h2, h3, h4, h5, h6, h7, h8, h9, h10⟩ := h
  exact ⟨h0, (hf b (by omega)).trans h1, (hf _ (by omega)).trans h2, (hf _ (by omega)).trans h3, (hf _ (by omega)).trans h4, (hf _ (by omega)).trans h5, (hf _ (by omega)).trans h6, (hf _ (by omega)).trans h7, (hf _ (by omega)).trans h8, (hf _ (by omega)).trans h9, (hf _ (by omega)).trans h10⟩
theorem isF.world {G : GX} {N b : Nat} {S S' : Nat → va_E} {F : FM} (h : isF G N S b F) (e : ∀ k, b ≤ k → k ≤ b + 9 → S' k = S k) : isF G N S' b F := by
  obtain ⟨h0, h1, h2, h3, h4, h5, h6, h7, h8, h9, h10⟩ := h
  exact ⟨h0, (e b (by omega) (by omega)).trans h1, (e _ (by omega) (by omega)).trans h2, (e _ (by omega) (by omega)).trans h3, (e _ (by omega) (by omega)).trans h4, (e _ (by omega) (by omega)).trans h5, (e _ (by omega) (by omega)).trans h6, (e _ (by omega) (by omega)).trans h7, (e _ (by omega) (by omega)).trans h8, (e _ (by omega) (by omega)).trans h9, (e _ (by omega) (by omega)).trans h10⟩
theorem isF.pI0 {G : GX} {N b : Nat} {S : Nat → va_E} {F : FM} (h : isF G N S b F) (v : Int32) : isF G N (va_up S b (.inr (1, (farmO G b F).set 9 (.int v)))) b (sI F 0 v) := by
  obtain ⟨h0, h1, h2, h3, h4, h5, h6, h7, h8, h9, h10⟩ := h
  refine ⟨h0, ?_, ?_, ?_, ?_, ?_, ?_, ?_, ?_, ?_, ?_⟩
  · simp [va_up, farmO, sI, fI, fL]
  all_goals (simp only [va_up]; rw [if_neg (by omega)]; assumption)
theorem isF.pI1 {G : GX} {N b : Nat} {S : Nat → va_E} {F : FM} (h : isF G N S b F) (v : Int32) : isF G N (va_up S b (.inr (1, (farmO G b F).set 10 (.int v)))) b (sI F 1 v) := by
  obtain ⟨h0, h1, h2, h3, h4, h5, h6, h7, h8, h9, h10⟩ := h
  refine ⟨h0, ?_, ?_, ?_, ?_, ?_, ?_, ?_, ?_, ?_, ?_⟩
  · simp [va_up, farmO, sI, fI, fL]
  all_goals (simp only [va_up]; rw [if_neg (by omega)]; assumption)
theorem isF.pI2 {G : GX} {N b : Nat} {S : Nat → va_E} {F : FM} (h : isF G N S b F) (v : Int32) : isF G N (va_up S b (.inr (1, (farmO G b F).set 11 (.int v)))) b (sI F 2 v) := by
  obtain ⟨h0, h1, h2, h3, h4, h5, h6, h7, h8, h9, h10⟩ := h
  refine ⟨h0, ?_, ?_, ?_, ?_, ?_, ?_, ?_, ?_, ?_, ?_⟩
  · simp [va_up, farmO, sI, fI, fL]
  all_goals (simp only [va_up]; rw [if_neg (by omega)]; assumption)
theorem isF.pI3 {G : GX} {N b : Nat} {S : Nat → va_E} {F : FM} (h : isF G N S b F) (v : Int32) : isF G N (va_up S b (.inr (1, (farmO G b F).set 12 (.int v)))) b (sI F 3 v) := by
  obtain ⟨h0, h1, h2, h3, h4, h5, h6, h7, h8, h9, h10⟩ := h
  refine ⟨h0, ?_, ?_, ?_, ?_, ?_, ?_, ?_, ?_, ?_, ?_⟩
  · simp [va_up, farmO, sI, fI, fL]
  all_goals (simp only [va_up]; rw [if_neg (by omega)]; assumption)
theorem isF.pI4 {G : GX} {N b : Nat} {S : Nat → va_E} {F : FM} (h : isF G N S b F) (v : Int32) : isF G N (va_up S b (.inr (1, (farmO G b F).set 13 (.int v)))) b (sI F 4 v) := by
  obtain ⟨h0, h1, h2, h3, h4, h5, h6, h7, h8, h9, h10⟩ := h
  refine ⟨h0, ?_, ?_, ?_, ?_, ?_, ?_, ?_, ?_, ?_, ?_⟩
  · simp [va_up, farmO, sI, fI, fL]
  all_goals (simp only [va_up]; rw [if_neg (by omega)]; assumption)
theorem isF.pL0 {G : GX} {N b : Nat} {S : Nat → va_E} {F : FM} (h : isF G N S b F) (v : Int64) : isF G N (va_up S b (.inr (1, (farmO G b F).set 14 (.long v)))) b (sL F 0 v) := by
  obtain ⟨h0, h1, h2, h3, h4, h5, h6, h7, h8, h9, h10⟩ := h
  refine ⟨h0, ?_, ?_, ?_, ?_, ?_, ?_, ?_, ?_, ?_, ?_⟩
  · simp [va_up, farmO, sL, fI, fL]
  all_goals (simp only [va_up]; rw [if_neg (by omega)]; assumption)
theorem isF.pL1 {G : GX} {N b : Nat} {S : Nat → va_E} {F : FM} (h : isF G N S b F) (v : Int64) : isF G N (va_up S b (.inr (1, (farmO G b F).set 15 (.long v)))) b (sL F 1 v) := by
  obtain ⟨h0, h1, h2, h3, h4, h5, h6, h7, h8, h9, h10⟩ := h
  refine ⟨h0, ?_, ?_, ?_, ?_, ?_, ?_, ?_, ?_, ?_, ?_⟩
  · simp [va_up, farmO, sL, fI, fL]
  all_goals (simp only [va_up]; rw [if_neg (by omega)]; assumption)
theorem isF.pL2 {G : GX} {N b : Nat} {S : Nat → va_E} {F : FM} (h : isF G N S b F) (v : Int64) : isF G N (va_up S b (.inr (1, (farmO G b F).set 16 (.long v)))) b (sL F 2 v) := by
  obtain ⟨h0, h1, h2, h3, h4, h5, h6, h7, h8, h9, h10⟩ := h
  refine ⟨h0, ?_, ?_, ?_, ?_, ?_, ?_, ?_, ?_, ?_, ?_⟩
  · simp [va_up, farmO, sL, fI, fL]
  all_goals (simp only [va_up]; rw [if_neg (by omega)]; assumption)
theorem isF.pL3 {G : GX} {N b : Nat} {S : Nat → va_E} {F : FM} (h : isF G N S b F) (v : Int64) : isF G N (va_up S b (.inr (1, (farmO G b F).set 17 (.long v)))) b (sL F 3 v) := by
  obtain ⟨h0, h1, h2, h3, h4, h5, h6, h7, h8, h9, h10⟩ := h
  refine ⟨h0, ?_, ?_, ?_, ?_, ?_, ?_, ?_, ?_, ?_, ?_⟩
  · simp [va_up, farmO, sL, fI, fL]
  all_goals (simp only [va_up]; rw [if_neg (by omega)]; assumption)
theorem isF.pL4 {G : GX} {N b : Nat} {S : Nat → va_E} {F : FM} (h : isF G N S b F) (v : Int64) : isF G N (va_up S b (.inr (1, (farmO G b F).set 18 (.long v)))) b (sL F 4 v) := by
  obtain ⟨h0, h1, h2, h3, h4, h5, h6, h7, h8, h9, h10⟩ := h
  refine ⟨h0, ?_, ?_, ?_, ?_, ?_, ?_, ?_, ?_, ?_, ?_⟩
  · simp [va_up, farmO, sL, fI, fL]
  all_goals (simp only [va_up]; rw [if_neg (by omega)]; assumption)
theorem isF.pA0 {G : GX} {N b : Nat} {S : Nat → va_E} {F : FM} (h : isF G N S b F) (f : Nat → Int32) : isF G N (va_up S (b + 1) (arI G 12 f)) b (sA F 0 f) := by
  obtain ⟨h0, h1, h2, h3, h4, h5, h6, h7, h8, h9, h10⟩ := h
  refine ⟨h0, ?_, ?_, ?_, ?_, ?_, ?_, ?_, ?_, ?_, ?_⟩
  · simp only [va_up]; rw [if_neg (by omega)]; assumption
  · simp only [va_up, if_true]; rfl
  · simp only [va_up]; rw [if_neg (by omega)]; first | rfl | assumption
  · simp only [va_up]; rw [if_neg (by omega)]; first | rfl | assumption
  · simp only [va_up]; rw [if_neg (by omega)]; first | rfl | assumption
  · simp only [va_up]; rw [if_neg (by omega)]; first | rfl | assumption
  · simp only [va_up]; rw [if_neg (by omega)]; first | rfl | assumption
  · simp only [va_up]; rw [if_neg (by omega)]; first | rfl | assumption
  · simp only [va_up]; rw [if_neg (by omega)]; first | rfl | assumption
  · simp only [va_up]; rw [if_neg (by omega)]; first | rfl | assumption
theorem isF.pA1 {G : GX} {N b : Nat} {S : Nat → va_E} {F : FM} (h : isF G N S b F) (f : Nat → Int32) : isF G N (va_up S (b + 2) (arI G 12 f)) b (sA F 1 f) := by
  obtain ⟨h0, h1, h2, h3, h4, h5, h6, h7, h8, h9, h10⟩ := h
  refine ⟨h0, ?_, ?_, ?_, ?_, ?_, ?_, ?_, ?_, ?_, ?_⟩
  · simp only [va_up]; rw [if_neg (by omega)]; assumption
  · simp only [va_up]; rw [if_neg (by omega)]; first | rfl | assumption
  · simp only [va_up, if_true]; rfl
  · simp only [va_up]; rw [if_neg (by omega)]; first | rfl | assumption
  · simp only [va_up]; rw [if_neg (by omega)]; first | rfl | assumption
  · simp only [va_up]; rw [if_neg (by omega)]; first | rfl | assumption
  · simp only [va_up]; rw [if_neg (by omega)]; first | rfl | assumption
  · simp only [va_up]; rw [if_neg (by omega)]; first | rfl | assumption
  · simp only [va_up]; rw [if_neg (by omega)]; first | rfl | assumption
  · simp only [va_up]; rw [if_neg (by omega)]; first | rfl | assumption
theorem isF.pA2 {G : GX} {N b : Nat} {S : Nat → va_E} {F : FM} (h : isF G N S b F) (f : Nat → Int32) : isF G N (va_up S (b + 3) (arI G 12 f)) b (sA F 2 f) := by
  obtain ⟨h0, h1, h2, h3, h4, h5, h6, h7, h8, h9, h10⟩ := h
  refine ⟨h0, ?_, ?_, ?_, ?_, ?_, ?_, ?_, ?_, ?_, ?_⟩
  · simp only [va_up]; rw [if_neg (by omega)]; assumption
  · simp only [va_up]; rw [if_neg (by omega)]; first | rfl | assumption
  · simp only [va_up]; rw [if_neg (by omega)]; first | rfl | assumption
  · simp only [va_up, if_true]; rfl
  · simp only [va_up]; rw [if_neg (by omega)]; first | rfl | assumption
  · simp only [va_up]; rw [if_neg (by omega)]; first | rfl | assumption
  · simp only [va_up]; rw [if_neg (by omega)]; first | rfl | assumption
  · simp only [va_up]; rw [if_neg (by omega)]; first | rfl | assumption
  · simp only [va_up]; rw [if_neg (by omega)]; first | rfl | assumption
  · simp only [va_up]; rw [if_neg (by omega)]; first | rfl | assumption
theorem isF.pA3 {G : GX} {N b : Nat} {S : Nat → va_E} {F : FM} (h : isF G N S b F) (f : Nat → Int32) : isF G N (va_up S (b + 4) (arI G 12 f)) b (sA F 3 f) := by
  obtain ⟨h0, h1, h2, h3, h4, h5, h6, h7, h8, h9, h10⟩ := h
  refine ⟨h0, ?_, ?_, ?_, ?_, ?_, ?_, ?_, ?_, ?_, ?_⟩
  · simp only [va_up]; rw [if_neg (by omega)]; assumption
  · simp only [va_up]; rw [if_neg (by omega)]; first | rfl | assumption
  · simp only [va_up]; rw [if_neg (by omega)]; first | rfl | assumption
  · simp only [va_up]; rw [if_neg (by omega)]; first | rfl | assumption
  · simp only [va_up, if_true]; rfl
  · simp only [va_up]; rw [if_neg (by omega)]; first | rfl | assumption
  · simp only [va_up]; rw [if_neg (by omega)]; first | rfl | assumption
  · simp only [va_up]; rw [if_neg (by omega)]; first | rfl | assumption
  · simp only [va_up]; rw [if_neg (by omega)]; first | rfl | assumption
  · simp only [va_up]; rw [if_neg (by omega)]; first | rfl | assumption
theorem isF.pA4 {G : GX} {N b : Nat} {S : Nat → va_E} {F : FM} (h : isF G N S b F) (f : Nat → Int32) : isF G N (va_up S (b + 5) (arI G 12 f)) b (sA F 4 f) := by
  obtain ⟨h0, h1, h2, h3, h4, h5, h6, h7, h8, h9, h10⟩ := h
  refine ⟨h0, ?_, ?_, ?_, ?_, ?_, ?_, ?_, ?_, ?_, ?_⟩
  · simp only [va_up]; rw [if_neg (by omega)]; assumption
  · simp only [va_up]; rw [if_neg (by omega)]; first | rfl | assumption
  · simp only [va_up]; rw [if_neg (by omega)]; first | rfl | assumption
  · simp only [va_up]; rw [if_neg (by omega)]; first | rfl | assumption
  · simp only [va_up]; rw [if_neg (by omega)]; first | rfl | assumption
  · simp only [va_up, if_true]; rfl
  · simp only [va_up]; rw [if_neg (by omega)]; first | rfl | assumption
  · simp only [va_up]; rw [if_neg (by omega)]; first | rfl | assumption
  · simp only [va_up]; rw [if_neg (by omega)]; first | rfl | assumption
  · simp only [va_up]; rw [if_neg (by omega)]; first | rfl | assumption
theorem isF.pA5 {G : GX} {N b : Nat} {S : Nat → va_E} {F : FM} (h : isF G N S b F) (f : Nat → Int32) : isF G N (va_up S (b + 6) (arI G 12 f)) b (sA F 5 f) := by
  obtain ⟨h0, h1, h2, h3, h4, h5, h6, h7, h8, h9, h10⟩ := h
  refine ⟨h0, ?_, ?_, ?_, ?_, ?_, ?_, ?_, ?_, ?_, ?_⟩
  · simp only [va_up]; rw [if_neg (by omega)]; assumption
  · simp only [va_up]; rw [if_neg (by omega)]; first | rfl | assumption
  · simp only [va_up]; rw [if_neg (by omega)]; first | rfl | assumption
  · simp only [va_up]; rw [if_neg (by omega)]; first | rfl | assumption
  · simp only [va_up]; rw [if_neg (by omega)]; first | rfl | assumption
  · simp only [va_up]; rw [if_neg (by omega)]; first | rfl | assumption
  · simp only [va_up, if_true]; rfl
  · simp only [va_up]; rw [if_neg (by omega)]; first | rfl | assumption
  · simp only [va_up]; rw [if_neg (by omega)]; first | rfl | assumption
  · simp only [va_up]; rw [if_neg (by omega)]; first | rfl | assumption
theorem isF.pA6 {G : GX} {N b : Nat} {S : Nat → va_E} {F : FM} (h : isF G N S b F) (f : Nat → Int32) : isF G N (va_up S (b + 7) (arI G 90 f)) b (sA F 6 f) := by
  obtain ⟨h0, h1, h2, h3, h4, h5, h6, h7, h8, h9, h10⟩ := h
  refine ⟨h0, ?_, ?_, ?_, ?_, ?_, ?_, ?_, ?_, ?_, ?_⟩
  · simp only [va_up]; rw [if_neg (by omega)]; assumption
  · simp only [va_up]; rw [if_neg (by omega)]; first | rfl | assumption
  · simp only [va_up]; rw [if_neg (by omega)]; first | rfl | assumption
  · simp only [va_up]; rw [if_neg (by omega)]; first | rfl | assumption
  · simp only [va_up]; rw [if_neg (by omega)]; first | rfl | assumption
  · simp only [va_up]; rw [if_neg (by omega)]; first | rfl | assumption
  · simp only [va_up]; rw [if_neg (by omega)]; first | rfl | assumption
  · simp only [va_up, if_true]; rfl
  · simp only [va_up]; rw [if_neg (by omega)]; first | rfl | assumption
  · simp only [va_up]; rw [if_neg (by omega)]; first | rfl | assumption
theorem isF.pA7 {G : GX} {N b : Nat} {S : Nat → va_E} {F : FM} (h : isF G N S b F) (f : Nat → Int32) : isF G N (va_up S (b + 8) (arI G 24 f)) b (sA F 7 f) := by
  obtain ⟨h0, h1, h2, h3, h4, h5, h6, h7, h8, h9, h10⟩ := h
  refine ⟨h0, ?_, ?_, ?_, ?_, ?_, ?_, ?_, ?_, ?_, ?_⟩
  · simp only [va_up]; rw [if_neg (by omega)]; assumption
  · simp only [va_up]; rw [if_neg (by omega)]; first | rfl | assumption
  · simp only [va_up]; rw [if_neg (by omega)]; first | rfl | assumption
  · simp only [va_up]; rw [if_neg (by omega)]; first | rfl | assumption
  · simp only [va_up]; rw [if_neg (by omega)]; first | rfl | assumption
  · simp only [va_up]; rw [if_neg (by omega)]; first | rfl | assumption
  · simp only [va_up]; rw [if_neg (by omega)]; first | rfl | assumption
  · simp only [va_up]; rw [if_neg (by omega)]; first | rfl | assumption
  · simp only [va_up, if_true]; rfl
  · simp only [va_up]; rw [if_neg (by omega)]; first | rfl | assumption
theorem isF.pA8 {G : GX} {N b : Nat} {S : Nat → va_E} {F : FM} (h : isF G N S b F) (f : Nat → Int32) : isF G N (va_up S (b + 9) (arI G 24 f)) b (sA F 8 f) := by
  obtain ⟨h0, h1, h2, h3, h4, h5, h6, h7, h8, h9, h10⟩ := h
  refine ⟨h0, ?_, ?_, ?_, ?_, ?_, ?_, ?_, ?_, ?_, ?_⟩
  · simp only [va_up]; rw [if_neg (by omega)]; assumption
  · simp only [va_up]; rw [if_neg (by omega)]; first | rfl | assumption
  · simp only [va_up]; rw [if_neg (by omega)]; first | rfl | assumption
  · simp only [va_up]; rw [if_neg (by omega)]; first | rfl | assumption
  · simp only [va_up]; rw [if_neg (by omega)]; first | rfl | assumption
  · simp only [va_up]; rw [if_neg (by omega)]; first | rfl | assumption
  · simp only [va_up]; rw [if_neg (by omega)]; first | rfl | assumption
  · simp only [va_up]; rw [if_neg (by omega)]; first | rfl | assumption
  · simp only [va_up]; rw [if_neg (by omega)]; first | rfl | assumption
  · simp only [va_up, if_true]; rfl
