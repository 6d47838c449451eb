/-! THE START: both are new. -/
theorem q00_N : qN (mM Q00) = 0 := by decide
theorem q00_at {i : Nat} (h : i ≠ 3) : mM Q00 i = 0 := if_neg h
theorem ch_0 : isCh 0 := ⟨rfl, rfl⟩
theorem okM_00 : okM 0 (mM Q00) := by
  refine ⟨⟨by decide, by decide⟩, fun j hj => absurd hj (by rw [q00_N]; omega), fun i j hi => absurd hi (by rw [q00_N]; omega), by rw [q00_N]; decide, ⟨by decide, by decide⟩, ⟨0, by decide, by decide⟩, ⟨999, by decide, by decide⟩, ⟨0, Nat.le_refl _, by decide, 0, 0, 0, 0, by decide, by decide, by decide, by decide, by decide, by decide, by decide, by decide⟩, fun x hx => ⟨0, 0, ?_, ?_, by decide, by decide, by decide⟩⟩
  · exact q00_at (by omega)
  · exact q00_at (by omega)
theorem nF_00 : nF F00 := fun _ _ _ _ => rfl
theorem eqF_00 : eqF F00 (mM Q00) := by
  refine ⟨⟨by decide, fun j hj => absurd hj (by rw [q00_N]; omega), fun x y hx hy => ?_⟩, by decide, by decide, by decide, by decide, fun _ _ _ => rfl, fun x hx => ⟨?_, ?_⟩, ⟨by decide, by decide, by decide, by decide, by decide⟩, nF_00⟩
  · show (0 : Int32) = qIC (mM Q00) _ _ 0 (qN (mM Q00)) + 1
    rw [q00_N]
    show (0 : Int32) = -1 + 1
    decide
  · exact (q00_at (by omega)).symm
  · exact (q00_at (by omega)).symm
theorem rel_00 : Rel 0 0 D00 Q00 := by
  refine ⟨⟨fun _ _ => nF_00, by decide, by decide, fun _ => ch_0, fun _ => ch_0⟩, ⟨okM_00, eqF_00⟩, ⟨0, by decide, by decide, by decide, fun i hi => absurd hi (by omega)⟩, ⟨false, by decide, by decide, fun e => nomatch e⟩, ⟨by decide, by decide, by decide, by decide⟩, ⟨by decide, Or.inl (by decide)⟩, ⟨by decide, by decide, by decide, fun i hi => absurd hi (by omega)⟩, ⟨⟨0, by decide, by decide, by decide, fun i hi => absurd hi (by omega)⟩, fun _ => ch_0⟩⟩
