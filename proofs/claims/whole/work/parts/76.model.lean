/-! THE REFERENCE's constructor. -/
theorem kX5_init {l : Launch} {G : GX} {S : Nat → va_E} {K : GX → (Nat → va_E) → Prop} (hc : S 119 = .inr (5, q00)) (hK : ∀ G' S', Ext G G' 120 → DD G' 124 → isM G' 124 S' Q00 → (∀ j, j < 119 → S' j = S j) → K G' S') : RetC l G 120 124 (yX5_init, cX5_init, 1, none) (1, 12, 4, 1892) [.ref (ad G 119)] S K := by
  refine ret_enterC (by decide +kernel) (Nat.le_of_ble_eq_true rfl) rfl rfl (fun X hX h hm hA => ?_)
  subst hX
  replace h : OK X G 120 cX5_init RX5 1 (1, 12, 4, 1892) := h
  show AW X G 1 120 0 [(0, .ref (ad G 119))] [] S 0 0
  refine r_aload_n (pc' := 1) h dX5_init_0 rfl rfl ?_
  refine r_obj (pc' := 4) h dX5_init_1 rfl lX5_1 iObj cObj (by decide) (by decide) ?_
  refine r_aload_n (pc' := 5) h dX5_init_4 rfl rfl ?_
  refine r_sipush (pc' := 8) (v := 1548) h dX5_init_5 rfl (by decide) ?_
  refine r_arrF (t0 := 0) (a0 := (1548, .inl (fun _ => 0))) (m := 1548) (k := 119) (ci := 5) (j := 1) h hm.2.2.2 dX5_init_8 rfl rfl rfl aInt (fun _ => rfl) (by decide) (by decide) (by decide) (by decide) (by decide) dX5_init_10 rfl (by decide) hc rfl inX5 tyX5_ok nmX5 (by decide) ⟨rfl, rfl, rfl⟩ lX5_9 rfl rfl rfl (fun _ => rfl) (fun _ => rfl) (Nat.le_of_ble_eq_true rfl) (fun G1 hE1 hD1 => ?_)
  have h1 := h.grow hE1 hD1
  rw [← hE1.ad (show 119 < 120 by decide)]
  refine r_aload_n (pc' := 14) h1 dX5_init_13 rfl rfl ?_
  refine r_bipush (pc' := 16) (v := 40) h1 dX5_init_14 rfl (by decide) ?_
  refine r_arrF (t0 := 1) (a0 := (40, .inl (fun _ => 0))) (m := 40) (k := 119) (ci := 5) (j := 8) h1 hm.2.2.2 dX5_init_16 rfl rfl rfl aChar (fun _ => rfl) (by decide) (by decide) (by decide) (by decide) (by decide) dX5_init_18 rfl (by decide) (up_at _ _ _) rfl inX5 tyX5_ok nmX5 (by decide) ⟨rfl, rfl, rfl⟩ lX5_13 rfl rfl rfl (fun _ => rfl) (fun _ => rfl) (Nat.le_of_ble_eq_true rfl) (fun G2 hE2 hD2 => ?_)
  have h2 := h1.grow hE2 hD2
  rw [← hE2.ad (show 119 < 120 + 1 by decide)]
  refine r_aload_n (pc' := 22) h2 dX5_init_21 rfl rfl ?_
  refine r_bipush (pc' := 24) (v := 60) h2 dX5_init_22 rfl (by decide) ?_
  refine r_arrF (t0 := 1) (a0 := (60, .inl (fun _ => 0))) (m := 60) (k := 119) (ci := 5) (j := 10) h2 hm.2.2.2 dX5_init_24 rfl rfl rfl aChar (fun _ => rfl) (by decide) (by decide) (by decide) (by decide) (by decide) dX5_init_26 rfl (by decide) (up_at _ _ _) rfl inX5 tyX5_ok nmX5 (by decide) ⟨rfl, rfl, rfl⟩ lX5_17 rfl rfl rfl (fun _ => rfl) (fun _ => rfl) (Nat.le_of_ble_eq_true rfl) (fun G3 hE3 hD3 => ?_)
  have h3 := h2.grow hE3 hD3
  rw [← hE3.ad (show 119 < 120 + 1 + 1 by decide)]
  refine r_aload_n (pc' := 30) h3 dX5_init_29 rfl rfl ?_
  refine r_iconst (pc' := 31) (v := -1) h3 dX5_init_30 rfl (by decide) ?_
  refine pX5_20 (pc' := 34) h3 dX5_init_31 rfl (by decide) (up_at _ _ _) (Nat.le_of_ble_eq_true rfl) ?_
  refine r_aload_n (pc' := 35) h3 dX5_init_34 rfl rfl ?_
  refine r_sipush (pc' := 38) (v := 244) h3 dX5_init_35 rfl (by decide) ?_
  refine r_arrF (t0 := 0) (a0 := (244, .inl (fun _ => 0))) (m := 244) (k := 119) (ci := 5) (j := 15) h3 hm.2.2.2 dX5_init_38 rfl rfl rfl aInt (fun _ => rfl) (by decide) (by decide) (by decide) (by decide) (by decide) dX5_init_40 rfl (by decide) (up_at _ _ _) rfl inX5 tyX5_ok nmX5 (by decide) ⟨rfl, rfl, rfl⟩ lX5_24 rfl rfl rfl (fun _ => rfl) (fun _ => rfl) (Nat.le_of_ble_eq_true rfl) (fun G4 hE4 hD4 => ?_)
  have h4 := h3.grow hE4 hD4
  have x4 : Ext G4 G4 124 := Ext.rf _ _
  have x3 : Ext G3 G4 123 := hE4.tr' x4 (by decide)
  have x2 : Ext G2 G4 122 := hE3.tr' x3 (by decide)
  have x1 : Ext G1 G4 121 := hE2.tr' x2 (by decide)
  have x0 : Ext G G4 120 := hE1.tr' x1 (by decide)
  rw [← hE4.ad (show 119 < 120 + 1 + 1 + 1 by decide)]
  refine r_aload_n (pc' := 44) h4 dX5_init_43 rfl rfl ?_
  refine gX5_9 (pc' := 47) h4 dX5_init_44 rfl (by decide) (up_at _ _ _) rfl ?_
  refine r_iconst (pc' := 48) (v := 3) h4 dX5_init_47 rfl (by decide) ?_
  refine r_sipush (pc' := 51) (v := 999) h4 dX5_init_48 rfl (by decide) ?_
  rw [← x1.ad (show 120 < 121 by decide)]
  refine r_iast (pc' := 52) (k := 120) (n := 1548) (f := fun _ => 0) h4 dX5_init_51 rfl (by decide) ?_ (show vp_in (nI 3) 1548 from nI_in (by decide) (by decide)) ?_
  · rw [up_ne _ _ (by decide), up_ne _ _ (by decide), up_ne _ _ (by decide), up_ne _ _ (by decide), up_ne _ _ (by decide), up_ne _ _ (by decide), up_ne _ _ (by decide), up_ne _ _ (by decide), up_at]
    show Sum.inl (gI G, _) = Sum.inl (gI G4, _)
    unfold gI
    rw [x0.2.2.1]
  · refine r_returnC h4 hm ⟨x0.1, x0.2.1⟩ dX5_init_52 (by decide) (by decide) (hK _ _ x0 hD4 ⟨by decide, ?_, up_at _ _ _, ?_, ?_, ?_⟩ (fun j hj => ?_))
    · rw [up_ne _ _ (by decide), up_at]
      unfold modO
      rw [x2.ad (show 121 < 122 by decide), x3.ad (show 122 < 123 by decide), x1.ad (show 120 < 121 by decide)]
      rfl
    · rw [up_ne _ _ (by decide), up_ne _ _ (by decide), up_ne _ _ (by decide), up_ne _ _ (by decide), up_ne _ _ (by decide), up_ne _ _ (by decide), up_ne _ _ (by decide), up_at, arC_ext x1]
      rfl
    · rw [up_ne _ _ (by decide), up_ne _ _ (by decide), up_ne _ _ (by decide), up_ne _ _ (by decide), up_ne _ _ (by decide), up_at, arC_ext x2]
      rfl
    · rw [up_ne _ _ (by decide), up_ne _ _ (by decide), up_at, arI_ext x3]
      rfl
    · rw [up_ne _ _ (by omega), up_ne _ _ (by omega), up_ne _ _ (by omega), up_ne _ _ (by omega), up_ne _ _ (by omega), up_ne _ _ (by omega), up_ne _ _ (by omega), up_ne _ _ (by omega), up_ne _ _ (by omega), up_ne _ _ (by omega)]
