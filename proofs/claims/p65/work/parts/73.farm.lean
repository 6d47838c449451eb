/-! THE FARM's constructor. -/
section ARF
variable {X : CX} {G : GX} {cc : ByteArray} {own : String} {nL N pc pc1 pc2 : Nat} {lo : List (Nat × Value)} {st : List Value} {S : Nat → va_E} {a b : Nat} {rm : Nat × Nat × Nat × Nat}
/-- an array is made and kept in a final field -/
theorem r_arrF (h : OK X G N cc own nL rm) (hin2 : X.2.2.2.2.2.2.2.2.1.name = "<init>") {atype : ArrayType} {cA : ClassId} {t0 : Nat} {a0 : vp_A} {n : Int32} {m : Nat} {ty1 : FieldType} {k ci j Nf index : Nat} {C ref nm ds : String} {T : u_T} {fs : List Value} {ty : FieldType} {ty0 : Nat → FieldType}
    (hd : decode cc pc = .ok (.newarray atype, 2)) (hp : pc + 2 = pc1) (ht : (tys G)[t0]? = some (cA, ty1)) (hty : newarray.typeOf atype = ty1) (harr : Cond.arrayClass (newarray.typeOf atype) ∈ gw) (ha0 : ∀ cA : ClassId, vp_cell cA a0 = arrV cA m (fun _ => defaultValue ty1)) (hn : ¬ n < 0) (hN : n.toNatClampNeg = m) (hby : m * componentBytes ty1 ≤ 536870912) (ha : a + 1 ≤ rm.2.2.1) (hb : b + m ≤ rm.2.2.2)
    (hd2 : decode cc pc1 = .ok (.putfield index, 3)) (hp2 : pc1 + 3 = pc2) (hk : k < N) (hc : S k = .inr (ci, fs)) (hcl : cls[ci]? = some (C, T, Nf)) (hin : ∀ w ∈ u_ws C T Nf, w ∈ gw) (hty0 : ∀ k, k < Nf → parseFieldDescriptor (T k).2.2.1 = some (ty0 k)) (hnm : ∀ a, a < Nf → ∀ b, b < Nf → a ≠ b → (T a).2.1 ≠ (T b).2.1) (hj : j < Nf) (hT : (T j).1 = ref ∧ (T j).2.1 = nm ∧ (T j).2.2.1 = ds) (hl : Cond.fieldLink own index ref nm ds ∈ gw) (hfin : (T j).2.2.2 = true) (hdecl : (T j).1 = own) (hdesc : parseFieldDescriptor ds = some ty) (hnr : ∀ q, narrow ty (.ref q) = .ref q) (hfit : ∀ q, fits ty (.ref q) = true) (hlen : j < fs.length)
    (kk : ∀ G1, Ext G G1 N → DD G1 (N + 1) → AW X G1 nL (N + 1) pc2 lo st (va_up (va_up S N (.inl (cA, a0))) k (.inr (ci, fs.set j (.ref (ad G1 N))))) (a + 1) (b + m)) : AW X G nL N pc lo (.int n :: .ref (ad G k) :: st) S a b := by
  refine r_newa h hd hp ht hty harr ha0 hn hN hby ha hb (fun q hD => ?_)
  have hE := Ext_gN G N q
  have h2 := h.grow hE hD
  have eq : q = ad (gN G N q) N := (ad_new G N q).symm
  rw [← hE.ad hk]
  refine r_putF h2 hin2 hd2 hp2 (by omega) ((up_ne S _ (by omega)).trans hc) hcl hin hty0 hnm hj hT hl hfin hdecl hdesc (hnr q) (hfit q) hlen ?_
  have key := kk (gN G N q) hE hD
  rw [ad_new] at key
  exact key
end ARF
/-- a new farm's data -/
def F00 : FM := (fun _ _ => 0, fun j => if j = 1 then 78 else if j = 3 then 999 else 0, fun _ => 0)
def f00 : List Value := [.null, .null, .null, .null, .null, .null, .null, .null, .null, .int 0, .int 0, .int 0, .int 0, .int 0, .long 0, .long 0, .long 0, .long 0, .long 0]
theorem kX1_init {l : Launch} {G : GX} {k : Nat} {S : Nat → va_E} {K : GX → (Nat → va_E) → Prop} (hc : S k = .inr (1, f00)) (hK : ∀ G' S', Ext G G' (k + 1) → DD G' (k + 10) → isF G' (k + 10) S' k F00 → (∀ j, j < k → S' j = S j) → K G' S') : RetC l G (k + 1) (k + 10) (yX1_init, cX1_init, 1, none) (1, 12, 9, 210) [.ref (ad G k)] S K := by
  refine ret_enterC (by decide +kernel) (Nat.le_of_ble_eq_true rfl) rfl rfl (fun X hX h hm hA => ?_)
  subst hX
  replace h : OK X G (k + 1) cX1_init RX1 1 (1, 12, 9, 210) := h
  show AW X G 1 (k + 1) 0 [(0, .ref (ad G k))] [] S 0 0
  refine r_aload_n (pc' := 1) h dX1_init_0 rfl rfl ?_
  refine r_obj (pc' := 4) h dX1_init_1 rfl lX1_5 iObj cObj (by decide) (by decide) ?_
  refine r_aload_n (pc' := 5) h dX1_init_4 rfl rfl ?_
  refine r_bipush (pc' := 7) (v := 12) h dX1_init_5 rfl (by decide) ?_
  refine r_arrF (t0 := 0) (a0 := (12, .inl (fun _ => 0))) (m := 12) (k := k) (ci := 1) (j := 0) h hm.2.2.2 dX1_init_7 rfl rfl rfl aInt (fun _ => rfl) (by decide) (by decide) (by decide) (by decide) (by decide) dX1_init_9 rfl (by omega) hc rfl inX1 tyX1_ok nmX1 (by decide) ⟨rfl, rfl, rfl⟩ lX1_11 rfl rfl rfl (fun _ => rfl) (fun _ => rfl) (Nat.le_of_ble_eq_true rfl) (fun G1 hE1 hD1 => ?_)
  have h1 := h.grow hE1 hD1
  rw [← hE1.ad (show k < k + 1 by omega)]
  refine r_aload_n (pc' := 13) h1 dX1_init_12 rfl rfl ?_
  refine r_bipush (pc' := 15) (v := 12) h1 dX1_init_13 rfl (by decide) ?_
  refine r_arrF (t0 := 0) (a0 := (12, .inl (fun _ => 0))) (m := 12) (k := k) (ci := 1) (j := 1) h1 hm.2.2.2 dX1_init_15 rfl rfl rfl aInt (fun _ => rfl) (by decide) (by decide) (by decide) (by decide) (by decide) dX1_init_17 rfl (by omega) (up_at _ _ _) rfl inX1 tyX1_ok nmX1 (by decide) ⟨rfl, rfl, rfl⟩ lX1_15 rfl rfl rfl (fun _ => rfl) (fun _ => rfl) (Nat.le_of_ble_eq_true rfl) (fun G2 hE2 hD2 => ?_)
  have h2 := h1.grow hE2 hD2
  rw [← hE2.ad (show k < k + 2 by omega)]
  refine r_aload_n (pc' := 21) h2 dX1_init_20 rfl rfl ?_
  refine r_bipush (pc' := 23) (v := 12) h2 dX1_init_21 rfl (by decide) ?_
  refine r_arrF (t0 := 0) (a0 := (12, .inl (fun _ => 0))) (m := 12) (k := k) (ci := 1) (j := 2) h2 hm.2.2.2 dX1_init_23 rfl rfl rfl aInt (fun _ => rfl) (by decide) (by decide) (by decide) (by decide) (by decide) dX1_init_25 rfl (by omega) (up_at _ _ _) rfl inX1 tyX1_ok nmX1 (by decide) ⟨rfl, rfl, rfl⟩ lX1_18 rfl rfl rfl (fun _ => rfl) (fun _ => rfl) (Nat.le_of_ble_eq_true rfl) (fun G3 hE3 hD3 => ?_)
  have h3 := h2.grow hE3 hD3
  rw [← hE3.ad (show k < k + 3 by omega)]
  refine r_aload_n (pc' := 29) h3 dX1_init_28 rfl rfl ?_
  refine r_bipush (pc' := 31) (v := 12) h3 dX1_init_29 rfl (by decide) ?_
  refine r_arrF (t0 := 0) (a0 := (12, .inl (fun _ => 0))) (m := 12) (k := k) (ci := 1) (j := 3) h3 hm.2.2.2 dX1_init_31 rfl rfl rfl aInt (fun _ => rfl) (by decide) (by decide) (by decide) (by decide) (by decide) dX1_init_33 rfl (by omega) (up_at _ _ _) rfl inX1 tyX1_ok nmX1 (by decide) ⟨rfl, rfl, rfl⟩ lX1_21 rfl rfl rfl (fun _ => rfl) (fun _ => rfl) (Nat.le_of_ble_eq_true rfl) (fun G4 hE4 hD4 => ?_)
  have h4 := h3.grow hE4 hD4
  rw [← hE4.ad (show k < k + 4 by omega)]
  refine r_aload_n (pc' := 37) h4 dX1_init_36 rfl rfl ?_
  refine r_bipush (pc' := 39) (v := 12) h4 dX1_init_37 rfl (by decide) ?_
  refine r_arrF (t0 := 0) (a0 := (12, .inl (fun _ => 0))) (m := 12) (k := k) (ci := 1) (j := 4) h4 hm.2.2.2 dX1_init_39 rfl rfl rfl aInt (fun _ => rfl) (by decide) (by decide) (by decide) (by decide) (by decide) dX1_init_41 rfl (by omega) (up_at _ _ _) rfl inX1 tyX1_ok nmX1 (by decide) ⟨rfl, rfl, rfl⟩ lX1_24 rfl rfl rfl (fun _ => rfl) (fun _ => rfl) (Nat.le_of_ble_eq_true rfl) (fun G5 hE5 hD5 => ?_)
  have h5 := h4.grow hE5 hD5
  rw [← hE5.ad (show k < k + 5 by omega)]
  refine r_aload_n (pc' := 45) h5 dX1_init_44 rfl rfl ?_
  refine r_bipush (pc' := 47) (v := 12) h5 dX1_init_45 rfl (by decide) ?_
  refine r_arrF (t0 := 0) (a0 := (12, .inl (fun _ => 0))) (m := 12) (k := k) (ci := 1) (j := 5) h5 hm.2.2.2 dX1_init_47 rfl rfl rfl aInt (fun _ => rfl) (by decide) (by decide) (by decide) (by decide) (by decide) dX1_init_49 rfl (by omega) (up_at _ _ _) rfl inX1 tyX1_ok nmX1 (by decide) ⟨rfl, rfl, rfl⟩ lX1_27 rfl rfl rfl (fun _ => rfl) (fun _ => rfl) (Nat.le_of_ble_eq_true rfl) (fun G6 hE6 hD6 => ?_)
  have h6 := h5.grow hE6 hD6
  rw [← hE6.ad (show k < k + 6 by omega)]
  refine r_aload_n (pc' := 53) h6 dX1_init_52 rfl rfl ?_
  refine r_bipush (pc' := 55) (v := 90) h6 dX1_init_53 rfl (by decide) ?_
  refine r_arrF (t0 := 0) (a0 := (90, .inl (fun _ => 0))) (m := 90) (k := k) (ci := 1) (j := 6) h6 hm.2.2.2 dX1_init_55 rfl rfl rfl aInt (fun _ => rfl) (by decide) (by decide) (by decide) (by decide) (by decide) dX1_init_57 rfl (by omega) (up_at _ _ _) rfl inX1 tyX1_ok nmX1 (by decide) ⟨rfl, rfl, rfl⟩ lX1_30 rfl rfl rfl (fun _ => rfl) (fun _ => rfl) (Nat.le_of_ble_eq_true rfl) (fun G7 hE7 hD7 => ?_)
  have h7 := h6.grow hE7 hD7
  rw [← hE7.ad (show k < k + 7 by omega)]
  refine r_aload_n (pc' := 61) h7 dX1_init_60 rfl rfl ?_
  refine r_bipush (pc' := 63) (v := 24) h7 dX1_init_61 rfl (by decide) ?_
  refine r_arrF (t0 := 0) (a0 := (24, .inl (fun _ => 0))) (m := 24) (k := k) (ci := 1) (j := 7) h7 hm.2.2.2 dX1_init_63 rfl rfl rfl aInt (fun _ => rfl) (by decide) (by decide) (by decide) (by decide) (by decide) dX1_init_65 rfl (by omega) (up_at _ _ _) rfl inX1 tyX1_ok nmX1 (by decide) ⟨rfl, rfl, rfl⟩ lX1_33 rfl rfl rfl (fun _ => rfl) (fun _ => rfl) (Nat.le_of_ble_eq_true rfl) (fun G8 hE8 hD8 => ?_)
  have h8 := h7.grow hE8 hD8
  rw [← hE8.ad (show k < k + 8 by omega)]
  refine r_aload_n (pc' := 69) h8 dX1_init_68 rfl rfl ?_
  refine r_bipush (pc' := 71) (v := 24) h8 dX1_init_69 rfl (by decide) ?_
  refine r_arrF (t0 := 0) (a0 := (24, .inl (fun _ => 0))) (m := 24) (k := k) (ci := 1) (j := 8) h8 hm.2.2.2 dX1_init_71 rfl rfl rfl aInt (fun _ => rfl) (by decide) (by decide) (by decide) (by decide) (by decide) dX1_init_73 rfl (by omega) (up_at _ _ _) rfl inX1 tyX1_ok nmX1 (by decide) ⟨rfl, rfl, rfl⟩ lX1_36 rfl rfl rfl (fun _ => rfl) (fun _ => rfl) (Nat.le_of_ble_eq_true rfl) (fun G9 hE9 hD9 => ?_)
  have h9 := h8.grow hE9 hD9
  rw [← hE9.ad (show k < k + 9 by omega)]
  refine r_aload_n (pc' := 77) h9 dX1_init_76 rfl rfl ?_
  refine r_bipush (pc' := 79) (v := 78) h9 dX1_init_77 rfl (by decide) ?_
  refine r_put (pc' := 82) (ty := .char) (k := k) (ci := 1) (j := 10) h9 dX1_init_79 rfl (by omega) (up_at _ _ _) rfl inX1 tyX1_ok nmX1 (by decide) ⟨rfl, rfl, rfl⟩ lX1_39 rfl rfl rfl rfl (Nat.le_of_ble_eq_true rfl) ?_
  refine r_aload_n (pc' := 83) h9 dX1_init_82 rfl rfl ?_
  refine r_sipush (pc' := 86) (v := 999) h9 dX1_init_83 rfl (by decide) ?_
  refine r_put (pc' := 89) (ty := .int) (k := k) (ci := 1) (j := 12) h9 dX1_init_86 rfl (by omega) (up_at _ _ _) rfl inX1 tyX1_ok nmX1 (by decide) ⟨rfl, rfl, rfl⟩ lX1_43 rfl rfl rfl rfl (Nat.le_of_ble_eq_true rfl) ?_
  have x9 : Ext G9 G9 (k + 10) := Ext.rf G9 _
  have x8 : Ext G8 G9 (k + 9) := hE9.tr' x9 (by omega)
  have x7 : Ext G7 G9 (k + 8) := hE8.tr' x8 (by omega)
  have x6 : Ext G6 G9 (k + 7) := hE7.tr' x7 (by omega)
  have x5 : Ext G5 G9 (k + 6) := hE6.tr' x6 (by omega)
  have x4 : Ext G4 G9 (k + 5) := hE5.tr' x5 (by omega)
  have x3 : Ext G3 G9 (k + 4) := hE4.tr' x4 (by omega)
  have x2 : Ext G2 G9 (k + 3) := hE3.tr' x3 (by omega)
  have x1 : Ext G1 G9 (k + 2) := hE2.tr' x2 (by omega)
  have x0 : Ext G G9 (k + 1) := hE1.tr' x1 (by omega)
  refine r_returnC h9 hm ⟨x0.1, x0.2.1⟩ dX1_init_89 (by decide) (by decide) (hK _ _ x0 hD9 ⟨by omega, ?_, ?_, ?_, ?_, ?_, ?_, ?_, ?_, ?_, ?_⟩ (fun j j1 => ?_))
  · rw [up_at, ← x1.ad (show k + 1 < k + 2 by omega), ← x2.ad (show k + 2 < k + 3 by omega), ← x3.ad (show k + 3 < k + 4 by omega), ← x4.ad (show k + 4 < k + 5 by omega), ← x5.ad (show k + 5 < k + 6 by omega), ← x6.ad (show k + 6 < k + 7 by omega), ← x7.ad (show k + 7 < k + 8 by omega), ← x8.ad (show k + 8 < k + 9 by omega), ← x9.ad (show k + 9 < k + 10 by omega)]
    rfl
  · rw [up_ne _ _ (by omega), up_ne _ _ (by omega), up_ne _ _ (by omega), up_ne _ _ (by omega), up_ne _ _ (by omega), up_ne _ _ (by omega), up_ne _ _ (by omega), up_ne _ _ (by omega), up_ne _ _ (by omega), up_ne _ _ (by omega), up_ne _ _ (by omega), up_ne _ _ (by omega), up_ne _ _ (by omega), up_ne _ _ (by omega), up_ne _ _ (by omega), up_ne _ _ (by omega), up_ne _ _ (by omega), up_ne _ _ (by omega), up_ne _ _ (by omega), up_at]
    show _ = arI G9 12 _
    unfold arI gI
    rw [x0.2.2.1]
    rfl
  · rw [up_ne _ _ (by omega), up_ne _ _ (by omega), up_ne _ _ (by omega), up_ne _ _ (by omega), up_ne _ _ (by omega), up_ne _ _ (by omega), up_ne _ _ (by omega), up_ne _ _ (by omega), up_ne _ _ (by omega), up_ne _ _ (by omega), up_ne _ _ (by omega), up_ne _ _ (by omega), up_ne _ _ (by omega), up_ne _ _ (by omega), up_ne _ _ (by omega), up_ne _ _ (by omega), up_ne _ _ (by omega), up_at]
    show _ = arI G9 12 _
    unfold arI gI
    rw [x1.2.2.1]
    rfl
  · rw [up_ne _ _ (by omega), up_ne _ _ (by omega), up_ne _ _ (by omega), up_ne _ _ (by omega), up_ne _ _ (by omega), up_ne _ _ (by omega), up_ne _ _ (by omega), up_ne _ _ (by omega), up_ne _ _ (by omega), up_ne _ _ (by omega), up_ne _ _ (by omega), up_ne _ _ (by omega), up_ne _ _ (by omega), up_ne _ _ (by omega), up_ne _ _ (by omega), up_at]
    show _ = arI G9 12 _
    unfold arI gI
    rw [x2.2.2.1]
    rfl
  · rw [up_ne _ _ (by omega), up_ne _ _ (by omega), up_ne _ _ (by omega), up_ne _ _ (by omega), up_ne _ _ (by omega), up_ne _ _ (by omega), up_ne _ _ (by omega), up_ne _ _ (by omega), up_ne _ _ (by omega), up_ne _ _ (by omega), up_ne _ _ (by omega), up_ne _ _ (by omega), up_ne _ _ (by omega), up_at]
    show _ = arI G9 12 _
    unfold arI gI
    rw [x3.2.2.1]
    rfl
  · rw [up_ne _ _ (by omega), up_ne _ _ (by omega), up_ne _ _ (by omega), up_ne _ _ (by omega), up_ne _ _ (by omega), up_ne _ _ (by omega), up_ne _ _ (by omega), up_ne _ _ (by omega), up_ne _ _ (by omega), up_ne _ _ (by omega), up_ne _ _ (by omega), up_at]
    show _ = arI G9 12 _
    unfold arI gI
    rw [x4.2.2.1]
    rfl
  · rw [up_ne _ _ (by omega), up_ne _ _ (by omega), up_ne _ _ (by omega), up_ne _ _ (by omega), up_ne _ _ (by omega), up_ne _ _ (by omega), up_ne _ _ (by omega), up_ne _ _ (by omega), up_ne _ _ (by omega), up_at]
    show _ = arI G9 12 _
    unfold arI gI
    rw [x5.2.2.1]
    rfl
  · rw [up_ne _ _ (by omega), up_ne _ _ (by omega), up_ne _ _ (by omega), up_ne _ _ (by omega), up_ne _ _ (by omega), up_ne _ _ (by omega), up_ne _ _ (by omega), up_at]
    show _ = arI G9 90 _
    unfold arI gI
    rw [x6.2.2.1]
    rfl
  · rw [up_ne _ _ (by omega), up_ne _ _ (by omega), up_ne _ _ (by omega), up_ne _ _ (by omega), up_ne _ _ (by omega), up_at]
    show _ = arI G9 24 _
    unfold arI gI
    rw [x7.2.2.1]
    rfl
  · rw [up_ne _ _ (by omega), up_ne _ _ (by omega), up_ne _ _ (by omega), up_at]
    show _ = arI G9 24 _
    unfold arI gI
    rw [x8.2.2.1]
    rfl
  · rw [up_ne _ _ (by omega), up_ne _ _ (by omega), up_ne _ _ (by omega), up_ne _ _ (by omega), up_ne _ _ (by omega), up_ne _ _ (by omega), up_ne _ _ (by omega), up_ne _ _ (by omega), up_ne _ _ (by omega), up_ne _ _ (by omega), up_ne _ _ (by omega), up_ne _ _ (by omega), up_ne _ _ (by omega), up_ne _ _ (by omega), up_ne _ _ (by omega), up_ne _ _ (by omega), up_ne _ _ (by omega), up_ne _ _ (by omega), up_ne _ _ (by omega), up_ne _ _ (by omega)]
