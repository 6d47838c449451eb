/-! CONSTRUCTORS of the text and of the reader. -/
theorem iObj : Cond.instanceMethod objectInit ∈ gw := gw_in (tb_1 28 (by decide +kernel)) (by decide +kernel)
theorem cObj : Cond.code objectInit ⟨#[0xb1]⟩ 1 none ∈ gw := gw_in (tb_1 29 (by decide +kernel)) (by decide +kernel)
theorem aInt : Cond.arrayClass .int ∈ gw := gw_in (tb_1 111 (by decide +kernel)) (by decide +kernel)
theorem aChar : Cond.arrayClass .char ∈ gw := gw_in (tb_1 153 (by decide +kernel)) (by decide +kernel)
theorem aLong : Cond.arrayClass .long ∈ gw := gw_in (tb_8 51 (by decide +kernel)) (by decide +kernel)
theorem aDouble : Cond.arrayClass .double ∈ gw := gw_in (tb_8 52 (by decide +kernel)) (by decide +kernel)
theorem oFarm : Cond.arrayOver (.object RX1) ∈ gw := gw_in (tb_1 119 (by decide +kernel)) (by decide +kernel)
theorem nX0 : Cond.instantiable RX0 5 ∈ gw := gw_in (tb_1 133 (by decide +kernel)) (by decide +kernel)
theorem nX1 : Cond.instantiable RX1 19 ∈ gw := gw_in (tb_1 31 (by decide +kernel)) (by decide +kernel)
theorem nX2 : Cond.instantiable RX2 3 ∈ gw := gw_in (tb_1 113 (by decide +kernel)) (by decide +kernel)
theorem nX3 : Cond.instantiable RX3 2 ∈ gw := gw_in (tb_1 139 (by decide +kernel)) (by decide +kernel)
theorem nX4 : Cond.instantiable RX4 11 ∈ gw := gw_in (tb_1 23 (by decide +kernel)) (by decide +kernel)
theorem nX5 : Cond.instantiable RX5 17 ∈ gw := gw_in (tb_6 12 (by decide +kernel)) (by decide +kernel)
theorem MX0 : MC yX0_init cX0_init 1 := ⟨vX0_init, ⟨by decide +kernel, by decide +kernel⟩, by decide +kernel, rfl⟩
theorem MX1 : MC yX1_init cX1_init 1 := ⟨vX1_init, ⟨by decide +kernel, by decide +kernel⟩, by decide +kernel, rfl⟩
theorem MX2 : MC yX2_init cX2_init 2 := ⟨vX2_init, ⟨by decide +kernel, by decide +kernel⟩, by decide +kernel, rfl⟩
theorem MX3 : MC yX3_init cX3_init 1 := ⟨vX3_init, ⟨by decide +kernel, by decide +kernel⟩, by decide +kernel, rfl⟩
theorem MX4 : MC yX4_init cX4_init 1 := ⟨vX4_init, ⟨by decide +kernel, by decide +kernel⟩, by decide +kernel, rfl⟩
theorem MX5 : MC yX5_init cX5_init 1 := ⟨vX5_init, ⟨by decide +kernel, by decide +kernel⟩, by decide +kernel, rfl⟩
theorem up_at (S : Nat → va_E) (k : Nat) (e : va_E) : va_up S k e k = e := if_pos rfl
theorem up_ne (S : Nat → va_E) {k j : Nat} (e : va_E) (h : j ≠ k) : va_up S k e j = S j := if_neg h
theorem kX3_init {l : Launch} {G : GX} {N k : Nat} {S : Nat → va_E} {K : GX → (Nat → va_E) → Prop} (hk : k < N) (hc : S k = .inr (3, [.null, .int 0])) (hK : ∀ G' S', Ext G G' N → DD G' (N + 1) → S' k = .inr (3, [.ref (ad G' N), .int 0]) → S' N = arC G' 60 (fun _ => 0) → (∀ j, j ≠ k → j ≠ N → S' j = S j) → K G' S') : RetC l G N (N + 1) (yX3_init, cX3_init, 1, none) (1, 12, 1, 60) [.ref (ad G k)] S K := by
  refine ret_enterC (by decide +kernel) (Nat.le_of_ble_eq_true rfl) rfl rfl (fun X hX h hm => ?_)
  subst hX
  replace h : OK X G N cX3_init RX3 1 (1, 12, 1, 60) := h
  show AW X G 1 N 0 [(0, .ref (ad G k))] [] S 0 0
  refine r_aload_n (pc' := 1) h dX3_init_0 rfl rfl ?_
  refine r_obj (pc' := 4) h dX3_init_1 rfl lX3_3 iObj cObj (by decide) (by decide) ?_
  refine r_aload_n (pc' := 5) h dX3_init_4 rfl rfl ?_
  refine r_bipush (pc' := 7) (v := 60) h dX3_init_5 rfl (by decide) ?_
  refine r_newa (pc' := 9) (k := 1) (a0 := (60, .inl (fun _ => 0))) (m := 60) h dX3_init_7 rfl rfl rfl aChar (fun _ => rfl) (by decide) (by decide) (by decide) (by decide) (by decide) (fun q hD => ?_)
  have hE := Ext_gN G N q
  have h2 := h.grow hE hD
  have hNk : k ≠ N := by omega
  rw [← ad_old G (q := q) hk]
  refine r_putF (pc' := 12) (k := k) (ci := 3) (j := 0) h2 hm.2.2.2 dX3_init_9 rfl (by omega) ((up_ne S _ hNk).trans hc) rfl inX3 tyX3_ok nmX3 (by decide) ⟨rfl, rfl, rfl⟩ lX3_9 rfl rfl rfl rfl rfl (by decide) ?_
  refine r_returnC h2 hm ⟨rfl, rfl⟩ dX3_init_12 (by decide) (by decide) (hK _ _ hE hD ?_ ?_ (fun j j1 j2 => ?_))
  · rw [up_at, ad_new]
    rfl
  · rw [up_ne _ _ hNk.symm, up_at]
    rfl
  · rw [up_ne _ _ j1, up_ne _ _ j2]
