/-! CONSTRUCTORS of the text and of the reader. -/
theorem nX0 : Cond.instantiable RX0 5 ∈ gw := gw_in (tb_1 135 (by decide +kernel)) (by decide +kernel)
theorem nX1 : Cond.instantiable RX1 19 ∈ gw := gw_in (tb_1 36 (by decide +kernel)) (by decide +kernel)
theorem nX2 : Cond.instantiable RX2 3 ∈ gw := gw_in (tb_1 116 (by decide +kernel)) (by decide +kernel)
theorem nX3 : Cond.instantiable RX3 2 ∈ gw := gw_in (tb_1 141 (by decide +kernel)) (by decide +kernel)
theorem nX4 : Cond.instantiable RX4 11 ∈ gw := gw_in (tb_1 28 (by decide +kernel)) (by decide +kernel)
theorem MX0 : MC yX0_init cX0_init 1 := ⟨vX0_init, ⟨by decide +kernel, by decide +kernel⟩, by decide +kernel, rfl⟩
theorem MX1 : MC yX1_init cX1_init 1 := ⟨vX1_init, ⟨by decide +kernel, by decide +kernel⟩, by decide +kernel, rfl⟩
theorem MX2 : MC yX2_init cX2_init 2 := ⟨vX2_init, ⟨by decide +kernel, by decide +kernel⟩, by decide +kernel, rfl⟩
theorem MX3 : MC yX3_init cX3_init 1 := ⟨vX3_init, ⟨by decide +kernel, by decide +kernel⟩, by decide +kernel, rfl⟩
theorem MX4 : MC yX4_init cX4_init 1 := ⟨vX4_init, ⟨by decide +kernel, by decide +kernel⟩, by decide +kernel, rfl⟩
theorem kX3_init {l : Launch} {G : GX} {N k : Nat} {S : Nat → va_E} {K : GX → (Nat → va_E) → Prop} (hk : k < N) (hc : S k = .inr (3, [.null, .int 0])) (hK : ∀ G' S', Ext G G' N → DD G' (N + 1) → S' k = .inr (3, [.ref (ad G' N), .int 0]) → S' N = arC G' 60 (fun _ => 0) → (∀ j, j ≠ k → j ≠ N → S' j = S j) → K G' S') : RetC l G N (N + 1) (yX3_init, cX3_init, 1, none) (1, 12, 1, 60) [.ref (ad G k)] S K := by
  refine ret_enterC (by decide +kernel) (Nat.le_of_ble_eq_true rfl) rfl rfl (fun X hX h hm hA => ?_)
  subst hX
  replace h : OK X G N cX3_init RX3 1 (1, 12, 1, 60) := h
  show AW X G 1 N 0 [(0, .ref (ad G k))] [] S 0 0
  refine r_aload_n (pc' := 1) h dX3_init_0 rfl rfl ?_
  refine r_obj (pc' := 4) h dX3_init_1 rfl lX3_3 iObj cObj (by decide) (by decide) ?_
  refine r_aload_n (pc' := 5) h dX3_init_4 rfl rfl ?_
  refine r_bipush (pc' := 7) (v := 60) h dX3_init_5 rfl (by decide) ?_
  refine r_newa (pc' := 9) (k := 1) (a0 := (60, .inl (fun _ => 0))) (m := 60) h dX3_init_7 rfl rfl rfl aChar (fun _ => rfl) (by decide) (by decide) (by decide) (by decide) (by decide) (fun q hD => ?_)
  have hE := Ext_gN G N q
  have h2 := h.grow hE hD
  have hNk : k ≠ N := by omega
  rw [← ad_old G (q := q) hk]
  refine r_putF (pc' := 12) (k := k) (ci := 3) (j := 0) h2 hm.2.2.2 dX3_init_9 rfl (by omega) ((up_ne S _ hNk).trans hc) rfl inX3 tyX3_ok nmX3 (by decide) ⟨rfl, rfl, rfl⟩ lX3_9 rfl rfl rfl rfl rfl (by decide) ?_
  refine r_returnC h2 hm ⟨rfl, rfl⟩ dX3_init_12 (by decide) (by decide) (hK _ _ hE hD ?_ ?_ (fun j j1 j2 => ?_))
  · rw [up_at, ad_new]
    rfl
  · rw [up_ne _ _ hNk.symm, up_at]
    rfl
  · rw [up_ne _ _ j1, up_ne _ _ j2]
theorem kX0_init {l : Launch} {G : GX} {N k : Nat} {S : Nat → va_E} {K : GX → (Nat → va_E) → Prop} (hk : k < N) (hc : S k = .inr (0, [.null, .null, .int 0, .int 0, .int 0])) (hK : ∀ G' S', Ext G G' N → DD G' (N + 3) → S' k = .inr (0, [.ref (ad G' N), .ref (ad G' (N + 2)), .int 0, .int 0, .int 0]) → isT G' (N + 3) S' N (0, fun _ => 0) → S' (N + 2) = arI G' 3 (fun _ => 0) → (∀ j, j ≠ k → j < N → S' j = S j) → K G' S') : RetC l G N (N + 3) (yX0_init, cX0_init, 1, none) (2, 32, 3, 65) [.ref (ad G k)] S K := by
  refine ret_enterC (by decide +kernel) (Nat.le_of_ble_eq_true rfl) rfl rfl (fun X hX h hm hA => ?_)
  subst hX
  replace h : OK X G N cX0_init RX0 1 (2, 32, 3, 65) := h
  show AW X G 1 N 0 [(0, .ref (ad G k))] [] S 0 0
  refine r_aload_n (pc' := 1) h dX0_init_0 rfl rfl ?_
  refine r_obj (pc' := 4) h dX0_init_1 rfl lX0_3 iObj cObj (by decide) (by decide) ?_
  refine r_aload_n (pc' := 5) h dX0_init_4 rfl rfl ?_
  refine r_new (pc' := 8) (ci := 3) (ty := tyX3) (fs := [.null, .int 0]) h dX0_init_5 rfl rfl inX3 tyX3_ok lX0_9 nX3 vX3_init.2.1 (fun j hj => by rcases (show j = 0 ∨ j = 1 by omega) with rfl | rfl <;> rfl) (by decide) (by decide) (fun q hD => ?_)
  have hE := Ext_gN G N q
  have h2 := h.grow hE hD
  refine r_dup (pc' := 9) h2 dX0_init_8 rfl rfl ?_
  have ea : q = ad (gN G N q) N := (ad_new G N q).symm
  generalize gN G N q = G1 at hE h2 ea hD ⊢
  rw [ea]
  refine r_callCN (pc' := 12) h2 hA dX0_init_9 rfl lX0_11 MX3 (by show 1 + (1 + 0) ≤ 8; decide) ⟨by decide, by decide, by decide, by decide⟩ (kX3_init (by omega) (up_at _ _ _) (fun G2 S2 hE2 hD2 e1 e2 e3 => ?_))
  have h3 := h2.grow hE2 hD2
  have hE3 : Ext G G2 N := hE.tr' hE2 (by omega)
  rw [← hE2.ad (show N < N + 1 by omega), ← hE3.ad hk]
  have hS2k : S2 k = .inr (0, [.null, .null, .int 0, .int 0, .int 0]) := (e3 k (by omega) (by omega)).trans ((up_ne _ _ (by omega)).trans hc)
  refine r_putF (pc' := 15) (k := k) (ci := 0) (j := 0) h3 hm.2.2.2 dX0_init_12 rfl (by omega) hS2k rfl inX0 tyX0_ok nmX0 (by decide) ⟨rfl, rfl, rfl⟩ lX0_12 rfl rfl rfl rfl rfl (Nat.le_of_ble_eq_true rfl) ?_
  refine r_aload_n (pc' := 16) h3 dX0_init_15 rfl rfl ?_
  refine r_iconst (pc' := 17) (v := 3) h3 dX0_init_16 rfl (by decide) ?_
  refine r_newa (pc' := 19) (k := 0) (a0 := (3, .inl (fun _ => 0))) (m := 3) h3 dX0_init_17 rfl rfl rfl aInt (fun _ => rfl) (by decide) (by decide) (by decide) (by decide) (by decide) (fun q3 hD3 => ?_)
  have hE4 := Ext_gN G2 (N + 1 + 1) q3
  have h4 := h3.grow hE4 hD3
  have eb : q3 = ad (gN G2 (N + 1 + 1) q3) (N + 1 + 1) := (ad_new G2 _ q3).symm
  have eg : gI (gN G2 (N + 1 + 1) q3) = gI G2 := rfl
  generalize gN G2 (N + 1 + 1) q3 = G3 at hE4 h4 eb eg hD3 ⊢
  have hE5 : Ext G G3 N := hE3.tr' hE4 (by omega)
  rw [eb, ← hE4.ad (show k < N + 1 + 1 by omega), ← hE4.ad (show N < N + 1 + 1 by omega)]
  refine r_putF (pc' := 22) (k := k) (ci := 0) (j := 1) h4 hm.2.2.2 dX0_init_19 rfl (by omega) ((up_ne _ _ (by omega)).trans (up_at _ _ _)) rfl inX0 tyX0_ok nmX0 (by decide) ⟨rfl, rfl, rfl⟩ lX0_18 rfl rfl rfl rfl rfl (Nat.le_of_ble_eq_true rfl) ?_
  refine r_returnC h4 hm ⟨hE5.1, hE5.2.1⟩ dX0_init_22 (by decide) (by decide) (hK _ _ hE5 hD3 ?_ ⟨by omega, ?_, ?_⟩ ?_ (fun j j1 j2 => ?_))
  · rw [up_at]
    rfl
  · rw [up_ne _ _ (by omega), up_ne _ _ (by omega), up_ne _ _ (by omega), e1, hE4.ad (show N + 1 < N + 1 + 1 by omega)]
  · rw [up_ne _ _ (by omega), up_ne _ _ (by omega), up_ne _ _ (by omega), e2]
    show arC G2 60 _ = arC G3 60 _
    unfold arC gC
    rw [hE4.2.2.1]
  · rw [up_ne _ _ (by omega)]
    show va_up _ (N + 1 + 1) _ (N + 1 + 1) = _
    rw [up_at, ← eg]
    rfl
  · rw [up_ne _ _ j1, up_ne _ _ (by omega), up_ne _ _ j1, e3 j (by omega) (by omega), up_ne _ _ (by omega)]
