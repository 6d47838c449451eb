/-! THE LAW BEGINS: two objects, two arrays. -/
theorem isM.ext {G G' : GX} {N N' : Nat} {S S' : Nat → va_E} {Q : MM} (h : isM G N S Q) (hE : Ext G G' N) (hN : N ≤ N') (hS : ∀ j, 119 ≤ j → j ≤ 123 → S' j = S j) : isM G' N' S' Q := by
  refine ⟨Nat.lt_of_lt_of_le h.1 hN, ?_, ?_, ?_, ?_, ?_⟩
  · rw [hS 119 (by decide) (by decide), h.o]
    unfold modO
    rw [hE.ad h.l1, hE.ad h.l2, hE.ad h.l3, hE.ad h.l4]
  · rw [hS 120 (by decide) (by decide), h.r1, arI_ext hE]
  · rw [hS 121 (by decide) (by decide), h.r2, arC_ext hE]
  · rw [hS 122 (by decide) (by decide), h.r3, arC_ext hE]
  · rw [hS 123 (by decide) (by decide), h.r4, arI_ext hE]
theorem isD.ext {G G' : GX} {N N' : Nat} {S S' : Nat → va_E} {D : DM} (h : isD G N S D) (hE : Ext G G' N) (hN : N ≤ N') (hS : ∀ j, j ≤ 118 → j ≠ 32 → S' j = S j) (h32 : S' 32 = .inl (gF G', 8, .inr (.inr (.inr (.inr (fun i => some (ad G' (33 + 10 * i)))))))) : isD G' N' S' D := by
  have h0 := h.1
  refine ⟨Nat.lt_of_lt_of_le h0 hN, h.f0.ext hE hN (fun j a1 a2 => hS j (by omega) (by omega)), h.f1.ext hE hN (fun j a1 a2 => hS j (by omega) (by omega)), h.f2.ext hE hN (fun j a1 a2 => hS j (by omega) (by omega)), fun i hi => (h.fk hi).ext hE hN (fun j a1 a2 => hS j (by omega) (by omega)), ?_, ?_, h32, ?_, h.t1.ext hE hN (fun j a1 a2 => hS j (by omega) (by omega)), ?_, h.t2.ext hE hN (fun j a1 a2 => hS j (by omega) (by omega))⟩
  · rw [hS 0 (by decide) (by decide), h.o0]
    unfold dspO
    rw [hE.ad (show 1 < N by omega), hE.ad (show 11 < N by omega), hE.ad (show 21 < N by omega), hE.ad (show 31 < N by omega), hE.ad (show 113 < N by omega), hE.ad (show 117 < N by omega)]
  · rw [hS 31 (by decide) (by decide), h.o31]
    unfold hisO
    rw [hE.ad (show 32 < N by omega)]
  · rw [hS 113 (by decide) (by decide), h.o113]
    unfold rdrO
    rw [hE.ad (show 114 < N by omega), hE.ad (show 116 < N by omega)]
  · rw [hS 116 (by decide) (by decide), h.o116, arI_ext hE]
theorem law_begin {X : CX} {G : GX} {S : Nat → va_E} {q0 : Nat} (h : OK X G 0 cL_law RL 9 rmL) (hA : va_AO RX1 X.2.2.2.2.1) (kk : ∀ (G' : GX) (S' : Nat → va_E) (a b : Nat), Ext G G' 0 → OK X G' 126 cL_law RL 9 rmL → LSt G' S' D00 Q00 → a ≤ 200 → b ≤ 5000 → AW X G' 9 126 28 (LO G' q0 0) [] S' a b) : AW X G 9 0 0 [(0, .ref q0)] [] S 0 0 := by
  refine r_new (pc' := 3) (ci := 4) (ty := tyX4) (fs := d00) h dL_law_0 rfl rfl inX4 tyX4_ok lL_8 nX4 vX4_init.2.1 (fun j hj => by rcases (show j = 0 ∨ j = 1 ∨ j = 2 ∨ j = 3 ∨ j = 4 ∨ j = 5 ∨ j = 6 ∨ j = 7 ∨ j = 8 ∨ j = 9 ∨ j = 10 by omega) with rfl | rfl | rfl | rfl | rfl | rfl | rfl | rfl | rfl | rfl | rfl <;> rfl) (by decide) (by decide) (fun p0 xD0 => ?_)
  have xE0 := Ext_gN G 0 p0
  have u0 := h.grow xE0 xD0
  refine r_dup (pc' := 4) u0 dL_law_3 rfl rfl ?_
  have eb0 : p0 = ad (gN G 0 p0) 0 := (ad_new G _ p0).symm
  generalize gN G 0 p0 = B0 at xE0 u0 eb0 xD0 ⊢
  rw [eb0]
  refine r_callC (pc' := 7) u0 hA dL_law_4 rfl lL_160 MX4 (by show 1 + 0 ≤ 8; decide) ⟨by decide, by decide, by decide, by decide⟩ (kX4_init (up_at _ _ _) (fun A0 T0 yE0 yD0 f0 => ?_))
  have v0 := u0.grow yE0 yD0
  rw [← yE0.ad (show 0 < 1 by decide)]
  show AW X A0 9 119 7 _ _ _ _ _
  refine r_astore_n (pc' := 8) v0 dL_law_7 rfl (by decide) rfl ?_
  refine r_new (pc' := 11) (ci := 5) (ty := tyX5) (fs := q00) v0 dL_law_8 rfl rfl inX5 tyX5_ok lL_161 nX5 vX5_init.2.1 (fun j hj => by rcases (show j = 0 ∨ j = 1 ∨ j = 2 ∨ j = 3 ∨ j = 4 ∨ j = 5 ∨ j = 6 ∨ j = 7 ∨ j = 8 ∨ j = 9 ∨ j = 10 ∨ j = 11 ∨ j = 12 ∨ j = 13 ∨ j = 14 ∨ j = 15 ∨ j = 16 by omega) with rfl | rfl | rfl | rfl | rfl | rfl | rfl | rfl | rfl | rfl | rfl | rfl | rfl | rfl | rfl | rfl | rfl <;> rfl) (by decide) (by decide) (fun p1 xD1 => ?_)
  have xE1 := Ext_gN A0 119 p1
  have u1 := v0.grow xE1 xD1
  refine r_dup (pc' := 12) u1 dL_law_11 rfl rfl ?_
  have eb1 : p1 = ad (gN A0 119 p1) 119 := (ad_new A0 _ p1).symm
  generalize gN A0 119 p1 = B1 at xE1 u1 eb1 xD1 ⊢
  rw [eb1]
  refine r_callC (pc' := 15) u1 hA dL_law_12 rfl lL_163 MX5 (by show 1 + 0 ≤ 8; decide) ⟨by decide, by decide, by decide, by decide⟩ (kX5_init (up_at _ _ _) (fun A1 T1 yE1 yD1 f1 e1 => ?_))
  have v1 := u1.grow yE1 yD1
  rw [← yE1.ad (show 119 < 120 by decide)]
  show AW X A1 9 124 15 _ _ _ _ _
  refine r_astore_n (pc' := 16) v1 dL_law_15 rfl (by decide) rfl ?_
  refine r_iconst (pc' := 17) (v := 1) v1 dL_law_16 rfl (by decide) ?_
  refine r_newa (pc' := 19) (k := 2) (a0 := (1, .inr (.inl (fun _ => 0)))) (m := 1) v1 dL_law_17 rfl rfl rfl aLong (fun _ => rfl) (by decide) (by decide) (by decide) (by decide) (by decide) (fun p2 xD2 => ?_)
  have xE2 := Ext_gN A1 124 p2
  have u2 := v1.grow xE2 xD2
  have eb2 : p2 = ad (gN A1 124 p2) 124 := (ad_new A1 _ p2).symm
  generalize gN A1 124 p2 = B2 at xE2 u2 eb2 xD2 ⊢
  rw [eb2]
  refine r_astore_n (pc' := 20) u2 dL_law_19 rfl (by decide) rfl ?_
  refine r_iconst (pc' := 21) (v := 1) u2 dL_law_20 rfl (by decide) ?_
  refine r_newa (pc' := 23) (k := 3) (a0 := (1, .inr (.inr (.inr (.inl (fun _ => 0)))))) (m := 1) u2 dL_law_21 rfl rfl rfl aDouble (fun _ => rfl) (by decide) (by decide) (by decide) (by decide) (by decide) (fun p3 xD3 => ?_)
  have xE3 := Ext_gN B2 125 p3
  have u3 := u2.grow xE3 xD3
  have eb3 : p3 = ad (gN B2 125 p3) 125 := (ad_new B2 _ p3).symm
  generalize gN B2 125 p3 = B3 at xE3 u3 eb3 xD3 ⊢
  rw [eb3]
  refine r_astore (pc' := 25) u3 dL_law_23 rfl (by decide) rfl ?_
  refine r_iconst (pc' := 26) (v := nI 0) u3 dL_law_25 rfl (by decide) ?_
  refine r_istore (pc' := 28) u3 dL_law_26 rfl (by decide) rfl ?_
  have w1 : Ext A1 B3 124 := xE2.tr' xE3 (by decide)
  have wb1 : Ext B1 B3 120 := yE1.tr' w1 (by decide)
  have w0 : Ext A0 B3 119 := xE1.tr' wb1 (by decide)
  have wb0 : Ext B0 B3 1 := yE0.tr' w0 (by decide)
  have w : Ext G B3 0 := xE0.tr' wb0 (by decide)
  rw [← w0.ad (show 0 < 119 by decide), ← w1.ad (show 119 < 124 by decide), ← xE3.ad (show 124 < 125 by decide)]
  have k0 : ∀ j, j < 119 → T1 j = T0 j := fun j hj => (e1 j hj).trans (up_ne _ _ (by omega))
  refine aw_cell (k := 32) (x := (gF A0, 8, .inr (.inr (.inr (.inr (fun i => some (ad A0 (33 + 10 * i)))))))) (y := (gF B3, 8, .inr (.inr (.inr (.inr (fun i => some (ad B3 (33 + 10 * i)))))))) ?_ ?_ ?_
  · rw [up_ne _ _ (by decide), up_ne _ _ (by decide), k0 32 (by decide)]
    exact f0.o32
  · rw [gF_ext w0]
    show vp_cell (gF A0) (8, rfs (fun i => some (ad A0 (33 + 10 * i)))) = vp_cell (gF A0) (8, rfs (fun i => some (ad B3 (33 + 10 * i))))
    rw [vp_cell_q, vp_cell_q]
    exact arr_congr _ (fun i hi => by rw [w0.ad (by omega)])
  · refine kk B3 _ _ _ w u3 ⟨f0.ext w0 (by decide) (fun j j1 j2 => ?_) (up_at _ _ _), f1.ext w1 (by decide) (fun j j1 j2 => ?_), ⟨fun _ => 0, ?_⟩, fun _ => 0, ?_⟩ (by decide) (by decide)
    · rw [up_ne _ _ j2, up_ne _ _ (by omega), up_ne _ _ (by omega), k0 j (by omega)]
    · rw [up_ne _ _ (by omega), up_ne _ _ (by omega), up_ne _ _ (by omega)]
    · rw [up_ne _ _ (by decide), up_ne _ _ (by decide), up_at]
      unfold gJ
      rw [w1.2.2.1]
    · rw [up_ne _ _ (by decide), up_at]
      unfold gE
      rw [xE3.2.2.1]
