/-! THE LAW's calls 60 to 61. -/
theorem lc_60 {X : CX} {G : GX} {q0 L : Nat} {xs : Nat → Int32} {S : Nat → va_E} {D : DM} {Q : MM} {B q a b i : Nat} (c : LC X G q0 L xs) (hi : i + 4 ≤ L) (hL : L ≤ 2048) (hS : LSt G S D Q) (hR : Rel B q D Q) (hB : B + 24 * q + 48 ≤ 80000) (ha : a + 8 ≤ 603072) (hb : b + 64 ≤ 7157866) (kk : ∀ S1 D1 Q1 B1 q1, LSt G S1 D1 Q1 → Rel B1 q1 D1 Q1 → B1 + 24 * q1 ≤ B + 24 * q + 48 → AW X G 9 126 3033 (LO G q0 i) [] S1 (a + 8) (b + 64)) : AW X G 9 126 2976 (LO G q0 i) [] S a b := by
  obtain ⟨h, hN, hX⟩ := c
  obtain ⟨hD, hQ, ⟨f4, h4⟩, f5, h5⟩ := id hS
  obtain ⟨t, t1, t2⟩ := hR.t
  obtain ⟨hR2, hag⟩ := sv_rel hR
  refine r_aload_n (pc' := 2977) h dL_law_2976 rfl rfl ?_
  refine r_callVL (pc' := 2980) (st := []) (M := mX4_saveSnapshot) (As := []) h dL_law_2977 rfl lL_377 vX4_saveSnapshot rfl hD.l0 hD.o0 rfl rfl (by decide) ⟨by decide, by decide, by show a + 0 ≤ 603072; omega, by show b + 0 ≤ 7157866; omega⟩ (kX4_saveSnapshot hD hR.v (fun S1 hD1 hr1 => ?_))
  rw [agr_nil hag]
  show AW X G 9 126 2980 _ _ S1 _ _
  have hS1 := hS.dr hD1 hr1
  have hQ1 : isM G 126 S1 Q := hS1.2.1
  refine r_aload_n (pc' := 2981) h dL_law_2980 rfl rfl ?_
  refine r_callVL (pc' := 2984) (st := [.int _]) (M := mX5_saveSnapshot) (As := []) h dL_law_2981 rfl lL_380 vX5_saveSnapshot rfl hQ1.l0 hQ1.o rfl rfl (by show 1 + 0 ≤ 8; decide) ⟨by decide, by decide, by show a + 0 + 0 ≤ 603072; omega, by show b + 0 + 0 ≤ 7157866; omega⟩ (kX5_saveSnapshot hQ1 (fun S2 hQ2 hR3 => ?_))
  show AW X G 9 126 2984 _ _ S2 _ _
  exact r_icmp_eq (tgt := 3033) (pc' := 2987) h dL_law_2984 (by decide) rfl (fun _ => r_widen (by show a + 0 + 0 ≤ a + 8; omega) (by show b + 0 + 0 ≤ b + 64; omega) (kk S2 _ _ _ _ (hS1.m hQ2 hR3) hR2 (by omega))) (fun c => absurd rfl c)
theorem lc_61 {X : CX} {G : GX} {q0 L : Nat} {xs : Nat → Int32} {S : Nat → va_E} {D : DM} {Q : MM} {B q a b i : Nat} (c : LC X G q0 L xs) (hi : i + 4 ≤ L) (hL : L ≤ 2048) (hS : LSt G S D Q) (hR : Rel B q D Q) (hB : B + 24 * q + 48 ≤ 80000) (ha : a + 8 ≤ 603072) (hb : b + 64 ≤ 7157866) (kk : ∀ S1 D1 Q1 B1 q1, LSt G S1 D1 Q1 → Rel B1 q1 D1 Q1 → B1 + 24 * q1 ≤ B + 24 * q + 48 → AW X G 9 126 3033 (LO G q0 i) [] S1 (a + 8) (b + 64)) : AW X G 9 126 2989 (LO G q0 i) [] S a b := by
  obtain ⟨h, hN, hX⟩ := c
  obtain ⟨hD, hQ, ⟨f4, h4⟩, f5, h5⟩ := id hS
  obtain ⟨t, t1, t2⟩ := hR.t
  obtain ⟨sv, s1, -⟩ := hR.2.2.2.1
  obtain ⟨hR2, hag⟩ := rs_rel hR
  refine r_aload_n (pc' := 2990) h dL_law_2989 rfl rfl ?_
  refine r_aload_n (pc' := 2991) h dL_law_2990 rfl rfl ?_
  refine r_callSL (pc' := 2994) (st := []) (M := (yL_restoreSnapshot, cL_restoreSnapshot, 3, some .int)) (As := [.ref (ad G 0), .ref (ad G 124)]) h hN dL_law_2991 rfl lL_381 sL_restoreSnapshot rfl rfl (by decide) ⟨by decide, by decide, by show a + 1 ≤ 603072; omega, by show b + 6 ≤ 7157866; omega⟩ (kL_restoreSnapshot hD (by decide) h4 (fun K1 h1 => kX4_restoreSnapshot hD hR.v (rs_ch hR) h1) hag (fun S1 g hD1 hf hg e1 => ?_))
  show AW X G 9 126 2994 _ _ S1 _ _
  have hS1 := hS.x hD1 hf hg
  have hQ1 : isM G 126 S1 Q := hS1.2.1
  refine r_istore (pc' := 2996) h dL_law_2994 rfl (by decide) rfl ?_
  refine r_aload_n (pc' := 2997) h dL_law_2996 rfl rfl ?_
  refine r_callVL (pc' := 3000) (st := []) (M := mX5_restoreSnapshot) (As := []) h dL_law_2997 rfl lL_383 vX5_restoreSnapshot rfl hQ1.l0 hQ1.o rfl rfl (by decide) ⟨by decide, by decide, by show a + 1 + 0 ≤ 603072; omega, by show b + 6 + 0 ≤ 7157866; omega⟩ (kX5_restoreSnapshot hQ1 s1 (fun S2 hQ2 hR3 => ?_))
  show AW X G 9 126 3000 _ _ S2 _ _
  refine r_istore (pc' := 3002) h dL_law_3000 rfl (by decide) rfl ?_
  exact r_tail (tgt := 3033) h hQ2 ((hR3 124 (by decide)).trans hg) rfl rfl rfl rfl rfl e1 dL_law_3002 dL_law_3003 dL_law_3006 dL_law_3008 dL_law_3013 dL_law_3015 dL_law_3018 dL_law_3019 dL_law_3020 dL_law_3021 dL_law_3023 dL_law_3024 dL_law_3025 dL_law_3030 (by decide) (by show a + 1 + 0 ≤ 603072; omega) (by show b + 6 + 0 ≤ 7157866; omega) rfl (r_widen (by show a + 1 + 0 ≤ a + 8; omega) (by show b + 6 + 0 ≤ b + 64; omega) (kk S2 _ _ _ _ (hS1.m hQ2 hR3) hR2 (by omega)))
