/-! THE HISTORY's constructor. -/
abbrev rfs (f : Nat → Option Nat) : (Nat → Int32) ⊕ (Nat → Int64) ⊕ (Nat → UInt32) ⊕ (Nat → UInt64) ⊕ (Nat → Option Nat) := .inr (.inr (.inr (.inr f)))
section HIS
variable {X : CX} {G : GX} {cc : ByteArray} {own : String} {nL N pc pc' : Nat} {lo : List (Nat × Value)} {st : List Value} {S : Nat → va_E} {a b : Nat} {rm : Nat × Nat × Nat × Nat}
theorem aw_ab {a' b' : Nat} (e1 : a = a') (e2 : b = b') (kk : AW X G nL N pc lo st S a' b') : AW X G nL N pc lo st S a b := by
  rw [e1, e2]
  exact kk
theorem r_astq (h : OK X G N cc own nL rm) {k kv ci t n Nf : Nat} {cA : ClassId} {C : String} {T : u_T} {f : Nat → Option Nat} {vs : List Value} {i : Int32} (hd : decode cc pc = .ok (.aastore, 1)) (hp : pc + 1 = pc') (hk : k < N) (hc : S k = .inl (cA, n, rfs f)) (ht : (tys G)[t]? = some (cA, .object C)) (hkv : kv < N) (hv : S kv = .inr (ci, vs)) (hcl : cls[ci]? = some (C, T, Nf)) (hin : vp_in i n)
    (kk : AW X G nL N pc' lo st (va_up S k (.inl (cA, n, rfs (va_up f i.toNatClampNeg (some (ad G kv)))))) a b) : AW X G nL N pc lo (.ref (ad G kv) :: .int i :: .ref (ad G k) :: st) S a b := by
  subst hp
  intro H locs ls hP hS hl
  exact va_astq h.1 h.2.1 h.2.2.2.2.2.1 hP h.2.2.2.2.2.2.2.2.2.2.1.D hS k t kv ci (by rw [wl_get hk, hc]) ht (by rw [wl_get hkv, hv]) hcl hin hd (fun H1 locs1 hP1 _ hS1 => kk H1 locs1 ls (by rw [wl_set] at hP1; exact hP1) hS1 hl)
/-- an array's cell, told otherwise -/
theorem aw_cell {k : Nat} {x y : ClassId × vp_A} (hS : S k = .inl x) (e : vp_cell x.1 x.2 = vp_cell y.1 y.2) (kk : AW X G nL N pc lo st (va_up S k (.inl y)) a b) : AW X G nL N pc lo st S a b := by
  intro H locs ls hP hS1 hl
  refine kk H locs ls (fun i q hq => ?_) hS1 hl
  obtain ⟨hi, rfl⟩ := wl_of hq
  have h0 := hP i _ (wl_get hi)
  by_cases z : i = k
  · subst z
    rw [up_at]
    rw [hS] at h0
    show H[ad G i]? = some (vp_cell y.1 y.2)
    rw [← e]
    exact h0
  · rw [up_ne _ _ z]
    exact h0
theorem arr_congr (cA : ClassId) {n : Nat} {f g : Nat → Value} (h : ∀ i, i < n → f i = g i) : arrV cA n f = arrV cA n g := by
  unfold arrV
  congr 2
  funext j
  exact h j.val j.isLt
theorem arI_ext {G G' : GX} {N : Nat} (hE : Ext G G' N) (n : Nat) (f : Nat → Int32) : arI G' n f = arI G n f := by unfold arI gI; rw [hE.2.2.1]
theorem arC_ext {G G' : GX} {N : Nat} (hE : Ext G G' N) (n : Nat) (f : Nat → Int32) : arC G' n f = arC G n f := by unfold arC gC; rw [hE.2.2.1]
theorem gF_ext {G G' : GX} {N : Nat} (hE : Ext G G' N) : gF G' = gF G := by unfold gF; rw [hE.2.2.1]
theorem isF.ext {G G' : GX} {N N' b : Nat} {S S' : Nat → va_E} {F : FM} (h : isF G N S b F) (hE : Ext G G' N) (hN : N ≤ N') (hS : ∀ j, b ≤ j → j ≤ b + 9 → S' j = S j) : isF G' N' S' b F := by
  obtain ⟨h0, ho, h1, h2, h3, h4, h5, h6, h7, h8, h9⟩ := h
  refine ⟨by omega, ?_, ?_, ?_, ?_, ?_, ?_, ?_, ?_, ?_, ?_⟩
  · rw [hS b (by omega) (by omega), ho]
    unfold farmO
    rw [hE.ad (show b + 1 < N by omega), hE.ad (show b + 2 < N by omega), hE.ad (show b + 3 < N by omega), hE.ad (show b + 4 < N by omega), hE.ad (show b + 5 < N by omega), hE.ad (show b + 6 < N by omega), hE.ad (show b + 7 < N by omega), hE.ad (show b + 8 < N by omega), hE.ad (show b + 9 < N by omega)]
  · rw [hS _ (by omega) (by omega), h1, arI_ext hE]
  · rw [hS _ (by omega) (by omega), h2, arI_ext hE]
  · rw [hS _ (by omega) (by omega), h3, arI_ext hE]
  · rw [hS _ (by omega) (by omega), h4, arI_ext hE]
  · rw [hS _ (by omega) (by omega), h5, arI_ext hE]
  · rw [hS _ (by omega) (by omega), h6, arI_ext hE]
  · rw [hS _ (by omega) (by omega), h7, arI_ext hE]
  · rw [hS _ (by omega) (by omega), h8, arI_ext hE]
  · rw [hS _ (by omega) (by omega), h9, arI_ext hE]
end HIS
theorem kX2_init {l : Launch} {G : GX} {k : Nat} {S : Nat → va_E} {K : GX → (Nat → va_E) → Prop} (hc : S k = .inr (2, [.null, .int 0, .int 0])) (hK : ∀ G' S', Ext G G' (k + 1) → DD G' (k + 82) → S' k = .inr (2, [.ref (ad G' (k + 1)), .int 0, .int 0]) → S' (k + 1) = .inl (gF G', 8, rfs (fun i => some (ad G' (k + 2 + 10 * i)))) → (∀ i, i < 8 → isF G' (k + 82) S' (k + 2 + 10 * i) F00) → (∀ j, j < k → S' j = S j) → K G' S') : RetC l G (k + 1) (k + 82) (yX2_init, cX2_init, 2, none) (2, 32, 81, 1840) [.ref (ad G k)] S K := by
  refine ret_enterC (by decide +kernel) (Nat.le_of_ble_eq_true rfl) rfl rfl (fun X hX h hm hA => ?_)
  subst hX
  replace h : OK X G (k + 1) cX2_init RX2 2 (2, 32, 81, 1840) := h
  show AW X G 2 (k + 1) 0 [(0, .ref (ad G k))] [] S 0 0
  refine r_aload_n (pc' := 1) h dX2_init_0 rfl rfl ?_
  refine r_obj (pc' := 4) h dX2_init_1 rfl lX2_3 iObj cObj (by decide) (by decide) ?_
  refine r_aload_n (pc' := 5) h dX2_init_4 rfl rfl ?_
  refine r_bipush (pc' := 7) (v := 8) h dX2_init_5 rfl (by decide) ?_
  refine r_newq (pc' := 10) (k := 4) (m := 8) h dX2_init_7 rfl rfl lX2_9 hA (by decide) (by decide) (by decide) (by decide) (by decide) (fun q hD => ?_)
  have hE := Ext_gN G (k + 1) q
  have h2 := h.grow hE hD
  have ea : q = ad (gN G (k + 1) q) (k + 1) := (ad_new G _ q).symm
  have eg : gF (gN G (k + 1) q) = gF G := rfl
  generalize gN G (k + 1) q = G1 at hE h2 ea eg hD ⊢
  rw [ea, ← hE.ad (show k < k + 1 by omega), ← eg]
  refine r_putF (pc' := 13) (k := k) (ci := 2) (j := 0) h2 hm.2.2.2 dX2_init_10 rfl (by omega) ((up_ne S _ (by omega)).trans hc) rfl inX2 tyX2_ok nmX2 (by decide) ⟨rfl, rfl, rfl⟩ lX2_11 rfl rfl rfl rfl rfl (Nat.le_of_ble_eq_true rfl) ?_
  refine r_iconst (pc' := 14) (v := 0) h2 dX2_init_13 rfl (by decide) ?_
  refine r_istoren (j := 1) (pc' := 15) h2 rfl dX2_init_14 rfl (by decide) rfl ?_
  have loop : ∀ (m j : Nat), j ≤ 8 → 8 - j < m → ∀ (Gj : GX) (Sj : Nat → va_E), Ext G Gj (k + 1) → DD Gj (k + 2 + 10 * j) → Sj k = .inr (2, [.ref (ad Gj (k + 1)), .int 0, .int 0]) → Sj (k + 1) = .inl (gF Gj, 8, rfs (fun i => if i < j then some (ad Gj (k + 2 + 10 * i)) else none)) → (∀ i, i < j → isF Gj (k + 2 + 10 * j) Sj (k + 2 + 10 * i) F00) → (∀ i, i < k → Sj i = S i) → AW X Gj 2 (k + 2 + 10 * j) 15 [(0, .ref (ad Gj k)), (1, .int (nI j))] [] Sj (1 + 10 * j) (8 + 229 * j) := by
    intro m
    induction m with
    | zero => intro j h1 h2; exact absurd h2 (by omega)
    | succ m ih =>
      intro j j1 j2 Gj Sj xE xD s1 s2 s3 s4
      have hj := h.grow xE xD
      refine r_iload_n (pc' := 16) hj dX2_init_15 rfl rfl ?_
      refine r_aload_n (pc' := 17) hj dX2_init_16 rfl rfl ?_
      refine gX2_11 (pc' := 20) hj dX2_init_17 rfl (by omega) s1 rfl ?_
      refine r_alen (pc' := 21) (t := 4) hj dX2_init_20 rfl (by omega) s2 rfl ?_
      refine r_icmp_ge (tgt := 43) (pc' := 24) hj dX2_init_21 (by decide) rfl (fun c0 => ?_) (fun c0 => ?_)
      · have e8 : j = 8 := lp_ge (c := 8) rfl (by decide) j1 c0
        subst e8
        refine aw_cell (y := (gF Gj, 8, rfs (fun i => some (ad Gj (k + 2 + 10 * i))))) s2 ?_ ?_
        · show vp_cell (gF Gj) (8, rfs (fun i => if i < 8 then some (ad Gj (k + 2 + 10 * i)) else none)) = vp_cell (gF Gj) (8, rfs (fun i => some (ad Gj (k + 2 + 10 * i))))
          rw [vp_cell_q, vp_cell_q]
          exact arr_congr _ (fun i hi => by rw [if_pos hi])
        · refine r_returnC hj hm ⟨xE.1, xE.2.1⟩ dX2_init_43 (by decide) (by decide) (hK _ _ xE xD ?_ (up_at _ _ _) (fun i hi => (s3 i hi).ext (Ext.rf _ _) (Nat.le_refl _) (fun j' a1 a2 => up_ne _ _ (by omega))) (fun j' hj' => ?_))
          · rw [up_ne _ _ (by omega)]
            exact s1
          · rw [up_ne _ _ (by omega)]
            exact s4 j' hj'
      · have hlt : j < 8 := lp_lt (c := 8) rfl (by decide) j1 c0
        refine r_aload_n (pc' := 25) hj dX2_init_24 rfl rfl ?_
        refine gX2_11 (pc' := 28) hj dX2_init_25 rfl (by omega) s1 rfl ?_
        refine r_iload_n (pc' := 29) hj dX2_init_28 rfl rfl ?_
        refine r_new (pc' := 32) (ci := 1) (ty := tyX1) (fs := f00) hj dX2_init_29 rfl rfl inX1 tyX1_ok lX2_9 nX1 vX1_init.2.1 (fun j hj => by
          rcases (show j = 0 ∨ j = 1 ∨ j = 2 ∨ j = 3 ∨ j = 4 ∨ j = 5 ∨ j = 6 ∨ j = 7 ∨ j = 8 ∨ j = 9 ∨ j = 10 ∨ j = 11 ∨ j = 12 ∨ j = 13 ∨ j = 14 ∨ j = 15 ∨ j = 16 ∨ j = 17 ∨ j = 18 by omega) with rfl | rfl | rfl | rfl | rfl | rfl | rfl | rfl | rfl | rfl | rfl | rfl | rfl | rfl | rfl | rfl | rfl | rfl | rfl <;> rfl) (by show 1 + 10 * j + 1 ≤ 81; omega) (by show 8 + 229 * j + 19 ≤ 1840; omega) (fun q2 xD2 => ?_)
        have xE2 := Ext_gN Gj (k + 2 + 10 * j) q2
        have hq := hj.grow xE2 xD2
        refine r_dup (pc' := 33) hq dX2_init_32 rfl rfl ?_
        have eb : q2 = ad (gN Gj (k + 2 + 10 * j) q2) (k + 2 + 10 * j) := (ad_new Gj _ q2).symm
        generalize gN Gj (k + 2 + 10 * j) q2 = G2 at xE2 hq eb xD2 ⊢
        rw [eb]
        refine r_callCN (pc' := 36) hq hA dX2_init_33 rfl lX2_17 MX1 (by show 1 + (1 + (1 + 0)) ≤ 8; decide) ⟨by decide, by decide, by show 1 + 10 * j + 1 + 9 ≤ 81; omega, by show 8 + 229 * j + 19 + 210 ≤ 1840; omega⟩ (kX1_init (up_at _ _ _) (fun G3 S3 xE3 xD3 f1 f2 => ?_))
        have h3 := hq.grow xE3 xD3
        have xE4 : Ext Gj G3 (k + 2 + 10 * j) := xE2.tr' xE3 (by omega)
        rw [← xE3.ad (show k + 2 + 10 * j < k + 2 + 10 * j + 1 by omega), ← xE4.ad (show k + 1 < k + 2 + 10 * j by omega), ← xE4.ad (show k < k + 2 + 10 * j by omega)]
        have t1 : S3 (k + 1) = .inl (gF Gj, 8, rfs (fun i => if i < j then some (ad Gj (k + 2 + 10 * i)) else none)) := (f2 _ (by omega)).trans ((up_ne _ _ (by omega)).trans s2)
        rw [← gF_ext xE4] at t1
        refine r_astq (pc' := 37) (t := 4) (kv := k + 2 + 10 * j) (ci := 1) h3 dX2_init_36 rfl (by omega) t1 rfl (by omega) f1.2.1 rfl (by show vp_in (nI j) 8; exact nI_in hlt (by decide)) ?_
        refine r_iinc (pc' := 40) (v := 1) h3 dX2_init_37 rfl (by decide) (by decide) rfl rfl ?_
        refine r_goto (tgt := 15) h3 dX2_init_40 (by decide) ?_
        have key := ih (j + 1) (by omega) (by omega) G3 (va_up S3 (k + 1) (.inl (gF G3, 8, rfs (va_up (fun i => if i < j then some (ad Gj (k + 2 + 10 * i)) else none) (nI j).toNatClampNeg (some (ad G3 (k + 2 + 10 * j))))))) (xE.tr' xE4 (by omega)) (by rw [show k + 2 + 10 * (j + 1) = k + 2 + 10 * j + 10 by omega]; exact xD3) ?_ ?_ (fun i hi => ?_) (fun i hi => ?_)
        · rw [show k + 2 + 10 * (j + 1) = k + 2 + 10 * j + 10 by omega] at key
          refine aw_ab (by show 1 + 10 * j + 1 + 9 = 1 + 10 * (j + 1); omega) (by show 8 + 229 * j + 19 + 210 = 8 + 229 * (j + 1); omega) (aw_cast (by rw [nI_1]) key)
        · rw [up_ne _ _ (by omega), f2 k (by omega), up_ne _ _ (by omega), s1, xE4.ad (show k + 1 < k + 2 + 10 * j by omega)]
        · rw [up_at, nI_clamp (by omega)]
          congr 6
          funext i
          show (if i = j then some (ad G3 (k + 2 + 10 * j)) else if i < j then some (ad Gj (k + 2 + 10 * i)) else none) = _
          by_cases z : i = j
          · subst z
            rw [if_pos rfl, if_pos (by omega)]
          · rw [if_neg z]
            by_cases z2 : i < j
            · rw [if_pos z2, if_pos (by omega), xE4.ad (by omega)]
            · rw [if_neg z2, if_neg (by omega)]
        · rw [show k + 2 + 10 * (j + 1) = k + 2 + 10 * j + 10 by omega]
          by_cases z : i = j
          · subst z
            exact f1.ext (Ext.rf _ _) (Nat.le_refl _) (fun j' a1 a2 => up_ne _ _ (by omega))
          · exact (s3 i (by omega)).ext xE4 (by omega) (fun j' a1 a2 => (up_ne _ _ (by omega)).trans ((f2 j' (by omega)).trans (up_ne _ _ (by omega))))
        · rw [up_ne _ _ (by omega), f2 i (by omega), up_ne _ _ (by omega)]
          exact s4 i hi
  have key := loop 9 0 (by decide) (by decide) G1 (va_up (va_up S (k + 1) (.inl (gF G1, 8, rfs (fun _ => none)))) k (.inr (2, [.ref (ad G1 (k + 1)), .int 0, .int 0]))) hE hD (up_at _ _ _) ?_ (fun i hi => absurd hi (by omega)) (fun i hi => ?_)
  · exact key
  · rw [up_ne _ _ (by omega), up_at]
    congr 6
  · rw [up_ne _ _ (by omega), up_ne _ _ (by omega)]
