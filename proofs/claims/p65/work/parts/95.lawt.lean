/-! THE LAW'S TURNS. -/
abbrev L3 (G : GX) (u : Int32) : List (Nat × Value) := [(0, .ref (gSa G)), (1, .ref (ad G 0)), (2, .int u)]
theorem turn_i : ∀ u, u < 4 → (92 : Int32) + 4 * nI u = nI (92 + 4 * u) := by decide +kernel
theorem law_one {X : CX} {G : GX} {B u a b : Nat} {S : Nat → va_E} {D : DM} {Q : MM} (h : OK X G 119 code RL 19 rmL) (hD : isD G 119 S D) (hR : Rel B 0 D Q) (h0 : 0 < fN (dF D 0)) (hB : B + 48 ≤ 80000) (hL : gSl G ≤ 260) (hu : u < 4) (ha : a + 5000 ≤ 811098) (hb : b + 32000 ≤ 6651793)
    (kk : ∀ S1 D1 Q1, isD G 119 S1 D1 → Rel (B + 48) 0 D1 Q1 → 0 < fN (dF D1 0) → AW X G 19 119 15 (L3 G (nI (u + 1))) [] S1 (a + 5000) (b + 32000)) : AW X G 19 119 20 (L3 G (nI u)) [] S a b := by
  have hM := hR.2.1.1
  have hF := hR.2.1.2
  have h12 := hM.1.2
  have hch := hR.v.2.1
  have hw := hM.2.2.2.2.1.2
  have e1 : fI (dF D 0) 1 = qSgn (nI (wy (mM Q))) := by rw [hF.2.1, ← hM.2.2.2.2.1.1]
  obtain ⟨sp, hsp, hm2⟩ := hM.2.2.2.2.2.1
  have e2 : fI (dF D 0) 2 = nI sp := by rw [hF.2.2.1, hm2]
  obtain ⟨t, ht, h4, -⟩ := hM.2.2.2.2.2.2.2.1
  have e4 : fI (dF D 0) 4 = nI t := by rw [hF.2.2.2.2.1, h4]
  have e0 : fI (dF D 0) 0 = nI (qN (mM Q)) := by rw [hF.1.1, hM.1.1]
  generalize wy (mM Q) = w at hw e1
  refine r_aload_n (pc' := 21) h dL_law_20 rfl rfl ?_
  refine r_callVL (st := []) (As := []) (M := mX4_turbineCount) (pc' := 24) h dL_law_21 rfl lL_108 vX4_turbineCount rfl hD.l0 hD.o0 rfl rfl (Nat.le_of_ble_eq_true rfl) ⟨by decide, by decide, by show a + 0 + 0 ≤ 811098; omega, by show b + 0 + 0 ≤ 6651793; omega⟩ (kX4_turbineCount hD ?_)
  rw [e0]
  refine K_int ?_
  refine r_istoren (j := 3) (pc' := 25) h rfl dL_law_24 rfl (by decide) rfl ?_
  refine r_iconst (pc' := 26) (v := 0) h dL_law_25 rfl (by decide) ?_
  refine r_istore (pc' := 28) h dL_law_26 rfl (by decide) rfl ?_
  refine r_iconst (pc' := 29) (v := 0) h dL_law_28 rfl (by decide) ?_
  refine r_istore (pc' := 31) h dL_law_29 rfl (by decide) rfl ?_
  refine r_iconst (pc' := 32) (v := 0) h dL_law_31 rfl (by decide) ?_
  refine r_istore (pc' := 34) h dL_law_32 rfl (by decide) rfl ?_
  refine r_iconst (pc' := 35) (v := 0) h dL_law_34 rfl (by decide) ?_
  refine r_istore (pc' := 37) h dL_law_35 rfl (by decide) rfl ?_
  refine r_sipush (pc' := 40) (v := -30000) h dL_law_37 rfl (by decide) ?_
  refine r_istore (pc' := 42) h dL_law_40 rfl (by decide) rfl ?_
  refine r_iconst (pc' := 43) (v := 0) h dL_law_42 rfl (by decide) ?_
  refine r_istore (pc' := 45) h dL_law_43 rfl (by decide) rfl ?_
  refine r_iconst (pc' := 46) (v := -1) h dL_law_45 rfl (by decide) ?_
  refine r_istore (pc' := 48) h dL_law_46 rfl (by decide) rfl ?_
  refine r_aload_n (pc' := 49) h dL_law_48 rfl rfl ?_
  refine r_callVL (st := []) (As := []) (M := mX4_windDirection) (pc' := 52) h dL_law_49 rfl lL_183 vX4_windDirection rfl hD.l0 hD.o0 rfl rfl (Nat.le_of_ble_eq_true rfl) ⟨by decide, by decide, by show a + 0 + 0 ≤ 811098; omega, by show b + 0 + 0 ≤ 6651793; omega⟩ (kX4_windDirection hD hch ?_)
  rw [e1]
  refine K_int ?_
  refine r_istore (pc' := 54) h dL_law_52 rfl (by decide) rfl ?_
  refine r_aload_n (pc' := 55) h dL_law_54 rfl rfl ?_
  refine r_callVL (st := []) (As := []) (M := mX4_windSpeed) (pc' := 58) h dL_law_55 rfl lL_187 vX4_windSpeed rfl hD.l0 hD.o0 rfl rfl (Nat.le_of_ble_eq_true rfl) ⟨by decide, by decide, by show a + 0 + 0 ≤ 811098; omega, by show b + 0 + 0 ≤ 6651793; omega⟩ (kX4_windSpeed hD ?_)
  rw [e2]
  refine K_int ?_
  refine r_istore (pc' := 60) h dL_law_58 rfl (by decide) rfl ?_
  refine r_aload_n (pc' := 61) h dL_law_60 rfl rfl ?_
  refine r_callVL (st := []) (As := []) (M := mX4_powerFactor) (pc' := 64) h dL_law_61 rfl lL_190 vX4_powerFactor rfl hD.l0 hD.o0 rfl rfl (Nat.le_of_ble_eq_true rfl) ⟨by decide, by decide, by show a + 0 + 0 ≤ 811098; omega, by show b + 0 + 0 ≤ 6651793; omega⟩ (kX4_powerFactor hD ?_)
  rw [e2]
  refine K_int ?_
  refine r_iload (pc' := 66) h dL_law_64 rfl rfl ?_
  refine r_callSK (st := [.int (fac' (nI sp))]) (As := [.int (nI sp)]) (M := mL_factor) (pc' := 69) h dL_law_66 rfl lL_156 vL_factor rfl rfl (Nat.le_of_ble_eq_true rfl) ⟨by decide, by decide, by show a + 0 + 0 ≤ 811098; omega, by show b + 0 + 0 ≤ 6651793; omega⟩ (kL_factor (K_int ?_))
  refine r_icmp_eq (tgt := 74) (pc' := 72) h dL_law_69 (by decide) rfl (fun _ => ?_) (fun c => absurd rfl c)
  refine r_iconst (pc' := 75) (v := 0) h dL_law_74 rfl (by decide) ?_
  refine r_istore (pc' := 77) h dL_law_75 rfl (by decide) rfl ?_
  show AW X G 19 119 77 _ _ _ a b
  refine law_kl h hD hR hw e1 e2 (by omega) (by omega) (fun S1 D1 Q1 hD1 hR1 f1 f2 => ?_)
  rw [← f1] at e1 e2 e4 ⊢
  have hn : qN (mM Q) = qN (mM Q1) := by rw [f2]
  generalize qN (mM Q) = n at hn h12 ⊢
  refine law_w h hD1 hR1 hn hw hsp e1 e2 (by omega) (by omega) (fun best most hbm => ?_)
  refine law_h h hD1 hR1 hn hw hsp e1 e2 e4 (by omega) (by omega) (by omega) (fun k1 => ?_)
  refine law_g h hD1 hR1 hn hw hsp e1 e2 (by omega) rfl rfl rfl hbm (by omega) (by omega) ?_
  refine law_ob (bids := 0) h hD1 hR1 hn (by omega) (by omega) (fun k2 => ?_)
  refine law_ot h hD1 hR1 hn (by omega) (by omega) (fun k3 => ?_)
  refine r_widen (a' := a + 4690) (b' := b + 31000) (by omega) (by omega) ?_
  refine r_aload_n (pc' := 1097) h dL_law_1096 rfl rfl ?_
  refine r_aload_n (pc' := 1098) h dL_law_1097 rfl rfl ?_
  refine r_bipush (pc' := 1100) (v := 92) h dL_law_1098 rfl (by decide) ?_
  refine r_iconst (pc' := 1101) (v := 4) h dL_law_1100 rfl (by decide) ?_
  refine r_iload_n (pc' := 1102) h dL_law_1101 rfl rfl ?_
  refine r_imul (pc' := 1103) h dL_law_1102 rfl ?_
  refine r_iadd (pc' := 1104) h dL_law_1103 rfl ?_
  rw [turn_i u hu]
  refine r_callSK (st := []) (As := [.ref (ad G 0), .ref (gSa G), .int (nI (92 + 4 * u))]) (M := mL_acts) (pc' := 1107) h dL_law_1104 rfl lL_104 vL_acts rfl rfl (Nat.le_of_ble_eq_true rfl) ⟨by decide, by decide, by show a + 4690 + 4 ≤ 811098; omega, by show b + 31000 + 24 ≤ 6651793; omega⟩ (kL_acts (by omega) hD1 hR1 (by rw [f1]; exact h0) hB hL (fun S2 D2 Q2 hD2 hR2 hc2 hr2 => K_nil ?_))
  refine r_widen (a' := a + 4694) (b' := b + 31024) (by show a + 4690 + 4 ≤ a + 4694; omega) (by show b + 31000 + 24 ≤ b + 31024; omega) ?_
  refine r_iinc (pc' := 1110) (v := 1) h dL_law_1107 rfl (by decide) (by decide) rfl rfl ?_
  refine r_goto (tgt := 15) h dL_law_1110 (by decide) ?_
  rw [nI_1]
  refine r_sub (lo' := L3 G (nI (u + 1))) [0, 1, 2] rfl ?_
  exact r_widen (by show a + 4694 ≤ a + 5000; omega) (by show b + 31024 ≤ b + 32000; omega) (kk S2 D2 Q2 hD2 hR2 hc2)
theorem law_turns {X : CX} {G : GX} {a b : Nat} {S : Nat → va_E} {D : DM} {Q : MM} (h : OK X G 119 code RL 19 rmL) (hD : isD G 119 S D) (hR : Rel 1152 0 D Q) (h0 : 0 < fN (dF D 0)) (hL : gSl G ≤ 260) (ha : a + 20000 ≤ 811098) (hb : b + 128000 ≤ 6651793)
    (kk : ∀ lo S1, AW X G 19 119 1114 lo [.int 1] S1 (a + 20000) (b + 128000)) : AW X G 19 119 15 (L3 G (nI 0)) [] S a b := by
  have loop : ∀ (m u : Nat), u ≤ 4 → 4 - u < m → ∀ S D Q, isD G 119 S D → Rel (1152 + 48 * u) 0 D Q → 0 < fN (dF D 0) → AW X G 19 119 15 (L3 G (nI u)) [] S (a + 5000 * u) (b + 32000 * u) := by
    intro m
    induction m with
    | zero => intro u h1 h2; exact absurd h2 (by omega)
    | succ m ih =>
      intro u h1 h2 S D Q hD hR h0
      refine r_iload_n (pc' := 16) h dL_law_15 rfl rfl ?_
      refine r_iconst (pc' := 17) (v := 4) h dL_law_16 rfl (by decide) ?_
      refine r_icmp_ge (tgt := 1113) (pc' := 20) h dL_law_17 (by decide) rfl (fun c0 => ?_) (fun c0 => ?_)
      · obtain rfl : u = 4 := nat_ge h1 (by decide) c0
        refine r_iconst (pc' := 1114) (v := 1) h dL_law_1113 rfl (by decide) ?_
        exact kk _ _
      · have hu : u < 4 := nat_lt (show u < 2 ^ 31 by omega) c0
        exact law_one h hD hR h0 (by omega) hL hu (by omega) (by omega) (fun S1 D1 Q1 hD1 hR1 hc1 => r_widen (by omega) (by omega) (ih (u + 1) (by omega) (by omega) S1 D1 Q1 hD1 (by rw [show 1152 + 48 * (u + 1) = 1152 + 48 * u + 48 by omega]; exact hR1) hc1))
  exact loop 5 0 (by decide) (by decide) S D Q hD hR h0
