/-! THE DISPATCHER's constructor, and the reference's. -/
/-- a new dispatcher's data; a new reference's -/
def D00 : DM := (fun _ => F00, fun j => if j = 1 then -1 else 0, fun _ _ => 0)
def Q00 : MM := (fun j => if j = 14 then -1 else 0, upd (fun _ => 0) 3 999, fun _ => 0, fun _ => 0, fun _ => 0)
def d00 : List Value := [.null, .null, .null, .null, .null, .null, .int 0, .int 0, .int 0, .int 0, .int 0]
def q00 : List Value := [.int 0, .null, .int 0, .int 0, .int 0, .int 0, .int 0, .int 0, .null, .int 0, .null, .int 0, .int 0, .int 0, .int 0, .null, .int 0]
theorem isT.ext {G G' : GX} {N N' b : Nat} {S S' : Nat → va_E} {T : TX} (h : isT G N S b T) (hE : Ext G G' N) (hN : N ≤ N') (hS : ∀ j, b ≤ j → j ≤ b + 1 → S' j = S j) : isT G' N' S' b T := by
  obtain ⟨h0, h1, h2⟩ := h
  refine ⟨by omega, ?_, ?_⟩
  · rw [hS b (by omega) (by omega), h1, hE.ad h0]
  · rw [hS _ (by omega) (by omega), h2, arC_ext hE]
theorem kX4_init {l : Launch} {G : GX} {S : Nat → va_E} {K : GX → (Nat → va_E) → Prop} (hc : S 0 = .inr (4, d00)) (hK : ∀ G' S', Ext G G' 1 → DD G' 119 → isD G' 119 S' D00 → K G' S') : RetC l G 1 119 (yX4_init, cX4_init, 1, none) (3, 53, 118, 2662) [.ref (ad G 0)] S K := by
  refine ret_enterC (by decide +kernel) (Nat.le_of_ble_eq_true rfl) rfl rfl (fun X hX h hm hA => ?_)
  subst hX
  replace h : OK X G 1 cX4_init RX4 1 (3, 53, 118, 2662) := h
  show AW X G 1 1 0 [(0, .ref (ad G 0))] [] S 0 0
  refine r_aload_n (pc' := 1) h dX4_init_0 rfl rfl ?_
  refine r_obj (pc' := 4) h dX4_init_1 rfl lX4_1 iObj cObj (by decide) (by decide) ?_
  refine r_aload_n (pc' := 5) h dX4_init_4 rfl rfl ?_
  refine r_new (pc' := 8) (ci := 1) (ty := tyX1) (fs := f00) h dX4_init_5 rfl rfl inX1 tyX1_ok lX4_7 nX1 vX1_init.2.1 (fun j hj => by rcases (show j = 0 ∨ j = 1 ∨ j = 2 ∨ j = 3 ∨ j = 4 ∨ j = 5 ∨ j = 6 ∨ j = 7 ∨ j = 8 ∨ j = 9 ∨ j = 10 ∨ j = 11 ∨ j = 12 ∨ j = 13 ∨ j = 14 ∨ j = 15 ∨ j = 16 ∨ j = 17 ∨ j = 18 by omega) with rfl | rfl | rfl | rfl | rfl | rfl | rfl | rfl | rfl | rfl | rfl | rfl | rfl | rfl | rfl | rfl | rfl | rfl | rfl <;> rfl) (by decide) (by decide) (fun q0 xD0 => ?_)
  have xE0 := Ext_gN G 1 q0
  have u0 := h.grow xE0 xD0
  refine r_dup (pc' := 9) u0 dX4_init_8 rfl rfl ?_
  have eb0 : q0 = ad (gN G 1 q0) 1 := (ad_new G _ q0).symm
  generalize gN G 1 q0 = B0 at xE0 u0 eb0 xD0 ⊢
  rw [eb0]
  refine r_callCN (pc' := 12) u0 hA dX4_init_9 rfl lX4_9 MX1 (by show 1 + (1 + 0) ≤ 8; decide) ⟨by decide, by decide, by decide, by decide⟩ (kX1_init (k := 1) (up_at _ _ _) (fun A0 T0 yE0 yD0 f0 e0 => ?_))
  replace yD0 : DD A0 11 := yD0
  have v0 := u0.grow yE0 yD0
  have zE0 : Ext G A0 1 := xE0.tr' yE0 (by decide)
  rw [← yE0.ad (show 1 < 1 + 1 by decide), ← zE0.ad (show 0 < 1 by decide)]
  have p0 : ∀ j, j < 1 → T0 j = S j := fun j hj => (e0 j (by omega)).trans (up_ne _ _ (by omega))
  show AW X A0 1 11 12 _ _ _ _ _
  refine r_putF (pc' := 15) (k := 0) (ci := 4) (j := 0) v0 hm.2.2.2 dX4_init_12 rfl (by decide) ((p0 0 (by decide)).trans hc) rfl inX4 tyX4_ok nmX4 (by decide) ⟨rfl, rfl, rfl⟩ lX4_10 rfl rfl rfl rfl rfl (Nat.le_of_ble_eq_true rfl) ?_
  obtain ⟨R0, hR0⟩ : ∃ R0, R0 = va_up T0 0 (.inr (4, (d00.set 0 (.ref (ad A0 1))))) := ⟨_, rfl⟩
  rw [← hR0]
  have o0 : R0 0 = .inr (4, (d00.set 0 (.ref (ad A0 1)))) := (congrFun hR0 0).trans (up_at _ _ _)
  have r0 : ∀ j, 0 < j → R0 j = T0 j := fun j hj => (congrFun hR0 j).trans (up_ne _ _ (by omega))
  refine r_aload_n (pc' := 16) v0 dX4_init_15 rfl rfl ?_
  refine r_new (pc' := 19) (ci := 1) (ty := tyX1) (fs := f00) v0 dX4_init_16 rfl rfl inX1 tyX1_ok lX4_7 nX1 vX1_init.2.1 (fun j hj => by rcases (show j = 0 ∨ j = 1 ∨ j = 2 ∨ j = 3 ∨ j = 4 ∨ j = 5 ∨ j = 6 ∨ j = 7 ∨ j = 8 ∨ j = 9 ∨ j = 10 ∨ j = 11 ∨ j = 12 ∨ j = 13 ∨ j = 14 ∨ j = 15 ∨ j = 16 ∨ j = 17 ∨ j = 18 by omega) with rfl | rfl | rfl | rfl | rfl | rfl | rfl | rfl | rfl | rfl | rfl | rfl | rfl | rfl | rfl | rfl | rfl | rfl | rfl <;> rfl) (by decide) (by decide) (fun q1 xD1 => ?_)
  have xE1 := Ext_gN A0 11 q1
  have u1 := v0.grow xE1 xD1
  refine r_dup (pc' := 20) u1 dX4_init_19 rfl rfl ?_
  have eb1 : q1 = ad (gN A0 11 q1) 11 := (ad_new A0 _ q1).symm
  generalize gN A0 11 q1 = B1 at xE1 u1 eb1 xD1 ⊢
  rw [eb1]
  refine r_callCN (pc' := 23) u1 hA dX4_init_20 rfl lX4_9 MX1 (by show 1 + (1 + 0) ≤ 8; decide) ⟨by decide, by decide, by decide, by decide⟩ (kX1_init (k := 11) (up_at _ _ _) (fun A1 T1 yE1 yD1 f1 e1 => ?_))
  replace yD1 : DD A1 21 := yD1
  have v1 := u1.grow yE1 yD1
  have zE1 : Ext A0 A1 11 := xE1.tr' yE1 (by decide)
  rw [← yE1.ad (show 11 < 11 + 1 by decide), ← zE1.ad (show 0 < 11 by decide)]
  have p1 : ∀ j, j < 11 → T1 j = R0 j := fun j hj => (e1 j (by omega)).trans (up_ne _ _ (by omega))
  show AW X A1 1 21 23 _ _ _ _ _
  refine r_putF (pc' := 26) (k := 0) (ci := 4) (j := 1) v1 hm.2.2.2 dX4_init_23 rfl (by decide) ((p1 0 (by decide)).trans o0) rfl inX4 tyX4_ok nmX4 (by decide) ⟨rfl, rfl, rfl⟩ lX4_16 rfl rfl rfl rfl rfl (Nat.le_of_ble_eq_true rfl) ?_
  obtain ⟨R1, hR1⟩ : ∃ R1, R1 = va_up T1 0 (.inr (4, ((d00.set 0 (.ref (ad A0 1))).set 1 (.ref (ad A1 11))))) := ⟨_, rfl⟩
  rw [← hR1]
  have o1 : R1 0 = .inr (4, ((d00.set 0 (.ref (ad A0 1))).set 1 (.ref (ad A1 11)))) := (congrFun hR1 0).trans (up_at _ _ _)
  have r1 : ∀ j, 0 < j → R1 j = T1 j := fun j hj => (congrFun hR1 j).trans (up_ne _ _ (by omega))
  refine r_aload_n (pc' := 27) v1 dX4_init_26 rfl rfl ?_
  refine r_new (pc' := 30) (ci := 1) (ty := tyX1) (fs := f00) v1 dX4_init_27 rfl rfl inX1 tyX1_ok lX4_7 nX1 vX1_init.2.1 (fun j hj => by rcases (show j = 0 ∨ j = 1 ∨ j = 2 ∨ j = 3 ∨ j = 4 ∨ j = 5 ∨ j = 6 ∨ j = 7 ∨ j = 8 ∨ j = 9 ∨ j = 10 ∨ j = 11 ∨ j = 12 ∨ j = 13 ∨ j = 14 ∨ j = 15 ∨ j = 16 ∨ j = 17 ∨ j = 18 by omega) with rfl | rfl | rfl | rfl | rfl | rfl | rfl | rfl | rfl | rfl | rfl | rfl | rfl | rfl | rfl | rfl | rfl | rfl | rfl <;> rfl) (by decide) (by decide) (fun q2 xD2 => ?_)
  have xE2 := Ext_gN A1 21 q2
  have u2 := v1.grow xE2 xD2
  refine r_dup (pc' := 31) u2 dX4_init_30 rfl rfl ?_
  have eb2 : q2 = ad (gN A1 21 q2) 21 := (ad_new A1 _ q2).symm
  generalize gN A1 21 q2 = B2 at xE2 u2 eb2 xD2 ⊢
  rw [eb2]
  refine r_callCN (pc' := 34) u2 hA dX4_init_31 rfl lX4_9 MX1 (by show 1 + (1 + 0) ≤ 8; decide) ⟨by decide, by decide, by decide, by decide⟩ (kX1_init (k := 21) (up_at _ _ _) (fun A2 T2 yE2 yD2 f2 e2 => ?_))
  replace yD2 : DD A2 31 := yD2
  have v2 := u2.grow yE2 yD2
  have zE2 : Ext A1 A2 21 := xE2.tr' yE2 (by decide)
  rw [← yE2.ad (show 21 < 21 + 1 by decide), ← zE2.ad (show 0 < 21 by decide)]
  have p2 : ∀ j, j < 21 → T2 j = R1 j := fun j hj => (e2 j (by omega)).trans (up_ne _ _ (by omega))
  show AW X A2 1 31 34 _ _ _ _ _
  refine r_putF (pc' := 37) (k := 0) (ci := 4) (j := 2) v2 hm.2.2.2 dX4_init_34 rfl (by decide) ((p2 0 (by decide)).trans o1) rfl inX4 tyX4_ok nmX4 (by decide) ⟨rfl, rfl, rfl⟩ lX4_19 rfl rfl rfl rfl rfl (Nat.le_of_ble_eq_true rfl) ?_
  obtain ⟨R2, hR2⟩ : ∃ R2, R2 = va_up T2 0 (.inr (4, (((d00.set 0 (.ref (ad A0 1))).set 1 (.ref (ad A1 11))).set 2 (.ref (ad A2 21))))) := ⟨_, rfl⟩
  rw [← hR2]
  have o2 : R2 0 = .inr (4, (((d00.set 0 (.ref (ad A0 1))).set 1 (.ref (ad A1 11))).set 2 (.ref (ad A2 21)))) := (congrFun hR2 0).trans (up_at _ _ _)
  have r2 : ∀ j, 0 < j → R2 j = T2 j := fun j hj => (congrFun hR2 j).trans (up_ne _ _ (by omega))
  refine r_aload_n (pc' := 38) v2 dX4_init_37 rfl rfl ?_
  refine r_new (pc' := 41) (ci := 2) (ty := tyX2) (fs := [.null, .int 0, .int 0]) v2 dX4_init_38 rfl rfl inX2 tyX2_ok lX4_22 nX2 vX2_init.2.1 (fun j hj => by rcases (show j = 0 ∨ j = 1 ∨ j = 2 by omega) with rfl | rfl | rfl <;> rfl) (by decide) (by decide) (fun q3 xD3 => ?_)
  have xE3 := Ext_gN A2 31 q3
  have u3 := v2.grow xE3 xD3
  refine r_dup (pc' := 42) u3 dX4_init_41 rfl rfl ?_
  have eb3 : q3 = ad (gN A2 31 q3) 31 := (ad_new A2 _ q3).symm
  generalize gN A2 31 q3 = B3 at xE3 u3 eb3 xD3 ⊢
  rw [eb3]
  refine r_callC (pc' := 45) u3 hA dX4_init_42 rfl lX4_24 MX2 (by show 1 + (1 + 0) ≤ 8; decide) ⟨by decide, by decide, by decide, by decide⟩ (kX2_init (k := 31) (up_at _ _ _) (fun A3 T3 yE3 yD3 f3 fb3 fc3 e3 => ?_))
  replace yD3 : DD A3 113 := yD3
  have v3 := u3.grow yE3 yD3
  have zE3 : Ext A2 A3 31 := xE3.tr' yE3 (by decide)
  rw [← yE3.ad (show 31 < 31 + 1 by decide), ← zE3.ad (show 0 < 31 by decide)]
  have p3 : ∀ j, j < 31 → T3 j = R2 j := fun j hj => (e3 j (by omega)).trans (up_ne _ _ (by omega))
  show AW X A3 1 113 45 _ _ _ _ _
  refine r_putF (pc' := 48) (k := 0) (ci := 4) (j := 3) v3 hm.2.2.2 dX4_init_45 rfl (by decide) ((p3 0 (by decide)).trans o2) rfl inX4 tyX4_ok nmX4 (by decide) ⟨rfl, rfl, rfl⟩ lX4_25 rfl rfl rfl rfl rfl (Nat.le_of_ble_eq_true rfl) ?_
  obtain ⟨R3, hR3⟩ : ∃ R3, R3 = va_up T3 0 (.inr (4, ((((d00.set 0 (.ref (ad A0 1))).set 1 (.ref (ad A1 11))).set 2 (.ref (ad A2 21))).set 3 (.ref (ad A3 31))))) := ⟨_, rfl⟩
  rw [← hR3]
  have o3 : R3 0 = .inr (4, ((((d00.set 0 (.ref (ad A0 1))).set 1 (.ref (ad A1 11))).set 2 (.ref (ad A2 21))).set 3 (.ref (ad A3 31)))) := (congrFun hR3 0).trans (up_at _ _ _)
  have r3 : ∀ j, 0 < j → R3 j = T3 j := fun j hj => (congrFun hR3 j).trans (up_ne _ _ (by omega))
  refine r_aload_n (pc' := 49) v3 dX4_init_48 rfl rfl ?_
  refine r_new (pc' := 52) (ci := 0) (ty := tyX0) (fs := [.null, .null, .int 0, .int 0, .int 0]) v3 dX4_init_49 rfl rfl inX0 tyX0_ok lX4_29 nX0 vX0_init.2.1 (fun j hj => by rcases (show j = 0 ∨ j = 1 ∨ j = 2 ∨ j = 3 ∨ j = 4 by omega) with rfl | rfl | rfl | rfl | rfl <;> rfl) (by decide) (by decide) (fun q4 xD4 => ?_)
  have xE4 := Ext_gN A3 113 q4
  have u4 := v3.grow xE4 xD4
  refine r_dup (pc' := 53) u4 dX4_init_52 rfl rfl ?_
  have eb4 : q4 = ad (gN A3 113 q4) 113 := (ad_new A3 _ q4).symm
  generalize gN A3 113 q4 = B4 at xE4 u4 eb4 xD4 ⊢
  rw [eb4]
  refine r_callCN (pc' := 56) u4 hA dX4_init_53 rfl lX4_31 MX0 (by show 1 + (1 + 0) ≤ 8; decide) ⟨by decide, by decide, by decide, by decide⟩ (kX0_init (k := 113) (N := 114) (by decide) (up_at _ _ _) (fun A4 T4 yE4 yD4 f4 fb4 fc4 e4 => ?_))
  replace yD4 : DD A4 117 := yD4
  have v4 := u4.grow yE4 yD4
  have zE4 : Ext A3 A4 113 := xE4.tr' yE4 (by decide)
  rw [← yE4.ad (show 113 < 113 + 1 by decide), ← zE4.ad (show 0 < 113 by decide)]
  have p4 : ∀ j, j < 113 → T4 j = R3 j := fun j hj => (e4 j (by omega) (by omega)).trans (up_ne _ _ (by omega))
  show AW X A4 1 117 56 _ _ _ _ _
  refine r_putF (pc' := 59) (k := 0) (ci := 4) (j := 4) v4 hm.2.2.2 dX4_init_56 rfl (by decide) ((p4 0 (by decide)).trans o3) rfl inX4 tyX4_ok nmX4 (by decide) ⟨rfl, rfl, rfl⟩ lX4_32 rfl rfl rfl rfl rfl (Nat.le_of_ble_eq_true rfl) ?_
  obtain ⟨R4, hR4⟩ : ∃ R4, R4 = va_up T4 0 (.inr (4, (((((d00.set 0 (.ref (ad A0 1))).set 1 (.ref (ad A1 11))).set 2 (.ref (ad A2 21))).set 3 (.ref (ad A3 31))).set 4 (.ref (ad A4 113))))) := ⟨_, rfl⟩
  rw [← hR4]
  have o4 : R4 0 = .inr (4, (((((d00.set 0 (.ref (ad A0 1))).set 1 (.ref (ad A1 11))).set 2 (.ref (ad A2 21))).set 3 (.ref (ad A3 31))).set 4 (.ref (ad A4 113)))) := (congrFun hR4 0).trans (up_at _ _ _)
  have r4 : ∀ j, 0 < j → R4 j = T4 j := fun j hj => (congrFun hR4 j).trans (up_ne _ _ (by omega))
  refine r_aload_n (pc' := 60) v4 dX4_init_59 rfl rfl ?_
  refine r_new (pc' := 63) (ci := 3) (ty := tyX3) (fs := [.null, .int 0]) v4 dX4_init_60 rfl rfl inX3 tyX3_ok lX4_36 nX3 vX3_init.2.1 (fun j hj => by rcases (show j = 0 ∨ j = 1 by omega) with rfl | rfl <;> rfl) (by decide) (by decide) (fun q5 xD5 => ?_)
  have xE5 := Ext_gN A4 117 q5
  have u5 := v4.grow xE5 xD5
  refine r_dup (pc' := 64) u5 dX4_init_63 rfl rfl ?_
  have eb5 : q5 = ad (gN A4 117 q5) 117 := (ad_new A4 _ q5).symm
  generalize gN A4 117 q5 = B5 at xE5 u5 eb5 xD5 ⊢
  rw [eb5]
  refine r_callCN (pc' := 67) u5 hA dX4_init_64 rfl lX4_38 MX3 (by show 1 + (1 + 0) ≤ 8; decide) ⟨by decide, by decide, by decide, by decide⟩ (kX3_init (k := 117) (N := 118) (by decide) (up_at _ _ _) (fun A5 T5 yE5 yD5 f5 fb5 e5 => ?_))
  replace yD5 : DD A5 119 := yD5
  have v5 := u5.grow yE5 yD5
  have zE5 : Ext A4 A5 117 := xE5.tr' yE5 (by decide)
  rw [← yE5.ad (show 117 < 117 + 1 by decide), ← zE5.ad (show 0 < 117 by decide)]
  have p5 : ∀ j, j < 117 → T5 j = R4 j := fun j hj => (e5 j (by omega) (by omega)).trans (up_ne _ _ (by omega))
  show AW X A5 1 119 67 _ _ _ _ _
  refine r_putF (pc' := 70) (k := 0) (ci := 4) (j := 5) v5 hm.2.2.2 dX4_init_67 rfl (by decide) ((p5 0 (by decide)).trans o4) rfl inX4 tyX4_ok nmX4 (by decide) ⟨rfl, rfl, rfl⟩ lX4_39 rfl rfl rfl rfl rfl (Nat.le_of_ble_eq_true rfl) ?_
  obtain ⟨R5, hR5⟩ : ∃ R5, R5 = va_up T5 0 (.inr (4, ((((((d00.set 0 (.ref (ad A0 1))).set 1 (.ref (ad A1 11))).set 2 (.ref (ad A2 21))).set 3 (.ref (ad A3 31))).set 4 (.ref (ad A4 113))).set 5 (.ref (ad A5 117))))) := ⟨_, rfl⟩
  rw [← hR5]
  have o5 : R5 0 = .inr (4, ((((((d00.set 0 (.ref (ad A0 1))).set 1 (.ref (ad A1 11))).set 2 (.ref (ad A2 21))).set 3 (.ref (ad A3 31))).set 4 (.ref (ad A4 113))).set 5 (.ref (ad A5 117)))) := (congrFun hR5 0).trans (up_at _ _ _)
  have r5 : ∀ j, 0 < j → R5 j = T5 j := fun j hj => (congrFun hR5 j).trans (up_ne _ _ (by omega))
  refine r_aload_n (pc' := 71) v5 dX4_init_70 rfl rfl ?_
  refine r_iconst (pc' := 72) (v := -1) v5 dX4_init_71 rfl (by decide) ?_
  refine pX4_43 (pc' := 75) v5 dX4_init_72 rfl (by decide) o5 (Nat.le_of_ble_eq_true rfl) ?_
  have x5 : Ext A5 A5 119 := Ext.rf _ _
  have x4 : Ext A4 A5 117 := zE5.tr' x5 (by decide)
  have x3 : Ext A3 A5 113 := zE4.tr' x4 (by decide)
  have x2 : Ext A2 A5 31 := zE3.tr' x3 (by decide)
  have x1 : Ext A1 A5 21 := zE2.tr' x2 (by decide)
  have x0 : Ext A0 A5 11 := zE1.tr' x1 (by decide)
  have x : Ext G A5 1 := zE0.tr' x0 (by decide)
  obtain ⟨R6, hR6⟩ : ∃ R6, R6 = va_up R5 0 (.inr (4, ((((((d00.set 0 (.ref (ad A0 1))).set 1 (.ref (ad A1 11))).set 2 (.ref (ad A2 21))).set 3 (.ref (ad A3 31))).set 4 (.ref (ad A4 113))).set 5 (.ref (ad A5 117))).set 7 (.int (-1)))) := ⟨_, rfl⟩
  rw [← hR6]
  have o6 : R6 0 = .inr (4, ((((((d00.set 0 (.ref (ad A0 1))).set 1 (.ref (ad A1 11))).set 2 (.ref (ad A2 21))).set 3 (.ref (ad A3 31))).set 4 (.ref (ad A4 113))).set 5 (.ref (ad A5 117))).set 7 (.int (-1))) := (congrFun hR6 0).trans (up_at _ _ _)
  have w5 : ∀ j, 0 < j → R6 j = T5 j := fun j hj => ((congrFun hR6 j).trans (up_ne _ _ (by omega))).trans (r5 j hj)
  have w4 : ∀ j, 0 < j → j < 117 → R6 j = T4 j := fun j hj h2 => (w5 j hj).trans ((p5 j (by omega)).trans (r4 j hj))
  have w3 : ∀ j, 0 < j → j < 113 → R6 j = T3 j := fun j hj h2 => (w4 j hj (by omega)).trans ((p4 j (by omega)).trans (r3 j hj))
  have w2 : ∀ j, 0 < j → j < 31 → R6 j = T2 j := fun j hj h2 => (w3 j hj (by omega)).trans ((p3 j (by omega)).trans (r2 j hj))
  have w1 : ∀ j, 0 < j → j < 21 → R6 j = T1 j := fun j hj h2 => (w2 j hj (by omega)).trans ((p2 j (by omega)).trans (r1 j hj))
  have w0 : ∀ j, 0 < j → j < 11 → R6 j = T0 j := fun j hj h2 => (w1 j hj (by omega)).trans ((p1 j (by omega)).trans (r0 j hj))
  refine aw_cell (k := 32) (y := (gF A5, 8, rfs (fun i => some (ad A5 (33 + 10 * i))))) ((w3 32 (by decide) (by decide)).trans fb3) ?_ ?_
  · rw [gF_ext x3]
    show vp_cell (gF A3) (8, rfs (fun i => some (ad A3 (31 + 2 + 10 * i)))) = vp_cell (gF A3) (8, rfs (fun i => some (ad A5 (33 + 10 * i))))
    rw [vp_cell_q, vp_cell_q]
    exact arr_congr _ (fun i hi => by rw [show 31 + 2 + 10 * i = 33 + 10 * i by omega, x3.ad (by omega)])
  refine r_returnC v5 hm ⟨x.1, x.2.1⟩ dX4_init_75 (by decide) (by decide) (hK _ _ x yD5 ⟨by decide, ?_, ?_, ?_, fun i hi => ?_, ?_, ?_, up_at _ _ _, ?_, ?_, ?_, ?_⟩)
  · exact f0.ext x0 (by decide) (fun j a1 a2 => (up_ne _ _ (by omega)).trans (w0 j (by omega) (by omega)))
  · exact f1.ext x1 (by decide) (fun j a1 a2 => (up_ne _ _ (by omega)).trans (w1 j (by omega) (by omega)))
  · exact f2.ext x2 (by decide) (fun j a1 a2 => (up_ne _ _ (by omega)).trans (w2 j (by omega) (by omega)))
  · have y := (fc3 i hi).ext (N' := 119) (S' := va_up R6 32 (.inl (gF A5, 8, rfs (fun i => some (ad A5 (33 + 10 * i)))))) x3 (by decide) (fun j a1 a2 => (up_ne _ _ (by omega)).trans (w3 j (by omega) (by omega)))
    rw [show 31 + 2 + 10 * i = 33 + 10 * i by omega] at y
    exact y
  · rw [up_ne _ _ (by decide), o6]
    unfold dspO
    rw [x0.ad (show 1 < 11 by decide), x1.ad (show 11 < 21 by decide), x2.ad (show 21 < 31 by decide), x3.ad (show 31 < 113 by decide), x4.ad (show 113 < 117 by decide)]
    rfl
  · rw [up_ne _ _ (by decide), w3 31 (by decide) (by decide), f3]
    unfold hisO
    rw [x3.ad (show 32 < 113 by decide)]
    rfl
  · rw [up_ne _ _ (by decide), w4 113 (by decide) (by decide), f4]
    unfold rdrO
    rw [x4.ad (show 114 < 117 by decide), x4.ad (show 116 < 117 by decide)]
    rfl
  · exact fb4.ext x4 (by decide) (fun j a1 a2 => (up_ne _ _ (by omega)).trans (w4 j (by omega) (by omega)))
  · rw [up_ne _ _ (by decide), w4 116 (by decide) (by decide), arI_ext x4]
    exact fc4
  · refine ⟨by decide, ?_, ?_⟩
    · rw [up_ne _ _ (by decide), w5 117 (by decide)]
      exact f5
    · rw [up_ne _ _ (by decide), w5 118 (by decide)]
      exact fb5
