/-! The JDK's methods that make cells: copies, constructors, toString. -/
section JX
variable {X : CX} {G : GX} {cc : ByteArray} {own : String} {nL N pc pc' : Nat} {lo : List (Nat × Value)} {st : List Value} {S : Nat → va_E} {a b : Nat} {rm : Nat × Nat × Nat × Nat}
/-- a final field, by the constructor -/
theorem r_putF (h : OK X G N cc own nL rm) (hin2 : X.2.2.2.2.2.2.2.2.1.name = "<init>") {k ci j Nf index : Nat} {C ref nm ds : String} {T : u_T} {fs : List Value} {v : Value} {ty : FieldType} {ty0 : Nat → FieldType} (hd : decode cc pc = .ok (.putfield index, 3)) (hp : pc + 3 = pc') (hk : k < N) (hc : S k = .inr (ci, fs)) (hcl : cls[ci]? = some (C, T, Nf)) (hin : ∀ w ∈ u_ws C T Nf, w ∈ gw) (hty : ∀ k, k < Nf → parseFieldDescriptor (T k).2.2.1 = some (ty0 k)) (hnm : ∀ a, a < Nf → ∀ b, b < Nf → a ≠ b → (T a).2.1 ≠ (T b).2.1) (hj : j < Nf) (hT : (T j).1 = ref ∧ (T j).2.1 = nm ∧ (T j).2.2.1 = ds) (hl : Cond.fieldLink own index ref nm ds ∈ gw) (hfin : (T j).2.2.2 = true) (hdecl : (T j).1 = own) (hdesc : parseFieldDescriptor ds = some ty) (hn : narrow ty v = v) (hfit : fits ty v = true) (hlen : j < fs.length) (kk : AW X G nL N pc' lo st (va_up S k (.inr (ci, fs.set j v))) a b) : AW X G nL N pc lo (v :: .ref (ad G k) :: st) S a b := by
  subst hp
  intro H locs ls hP hS hl2
  obtain ⟨rfl, rfl, rfl⟩ := hT
  exact va_putF h.1 h.2.1 h.2.2.2.2.1 hin ty0 hty hnm h.2.2.2.1 h.2.2.2.2.2.1 hP h.2.2.2.2.2.2.2.2.2.2.1.D hS k (by rw [wl_get hk, hc]) hcl j hj (h.2.2.2.2.1 _ hl) (fun _ z => z) hfin hin2 hdecl hdesc hn hfit hlen hd (fun H1 locs1 hP1 _ hS1 => kk H1 locs1 ls (by rw [wl_set] at hP1; exact hP1) hS1 hl2)
end JX
theorem n0_nn (n : Nat) : nI n - 0 = nI n := by simp
theorem min16 {n : Nat} (h : n < 16) : (if nI n < nI 16 - 0 then nI n else nI 16 - 0) = nI n := by
  rw [n0_nn, if_pos (nI_lt h (by decide))]
theorem va_cpy0 {f g : Nat → Int32} {n : Nat} {cs : List Nat} (h : bys f cs) (hn : n = cs.length) : bys (va_cpy f g 0 0 n) cs := by
  intro j hj
  show (if 0 ≤ j ∧ j < 0 + n then _ else _) = _
  rw [if_pos (by omega), show 0 + (j - 0) = j by omega]
  exact h j hj
theorem kJ7_checkLength {l : Launch} {G : GX} {N : Nat} {S : Nat → va_E} {K : RK} {n : Nat} (hn : n < 2 ^ 31) (hk : K (.inl none) S) : RetK l G N mJ7_checkLength (0, 0, 0, 0) [.int 0, .int (nI n)] S K := by
  refine ret_enter (by decide +kernel) (Nat.le_of_ble_eq_true rfl) (fun X hX h hm => ?_)
  subst hX
  replace h : OK X G N cJ7_checkLength_df160 RJ7 2 (0, 0, 0, 0) := h
  replace hm : OKm X G N K none (0, 0, 0, 0) := hm
  show AW X G 2 N 0 [(0, _), (1, _)] [] S 0 0
  refine r_iload_n (pc' := 1) h dJ7_checkLength_0 rfl rfl ?_
  refine r_iload_n (pc' := 2) h dJ7_checkLength_1 rfl rfl ?_
  refine r_icmp_ge (tgt := 37) (pc' := 5) h dJ7_checkLength_2 (by decide) rfl (fun _ => ?_) (fun c => absurd (nI_pos' hn) c)
  exact r_return h hm dJ7_checkLength_37 (Nat.le_of_ble_eq_true rfl) (Nat.le_of_ble_eq_true rfl) hk
theorem kJ7_copyOfRangeByte {l : Launch} {G : GX} {N : Nat} {S : Nat → va_E} {KX : Option Value → GX → (Nat → va_E) → Prop} {k : Nat} {f : Nat → Int32} {cs : List Nat} (hk0 : k < N) (hc0 : S k = .inl (gJ G, 16, .inl f)) (hf : bys f cs) (ha : asc cs) (hn : cs.length < 16) (hK : ∀ G' S' f', Ext G G' N → DD G' (N + 1) → S' N = .inl (gJ G', cs.length, .inl f') → bys f' cs → (∀ j, j < N → S' j = S j) → KX (some (.ref (ad G' N))) G' S') : RetX l G N (N + 1) mJ7_copyOfRangeByte (1, 60, 1, 16) [.ref (ad G k), .int 0, .int (nI cs.length)] S KX := by
  refine ret_enterX (by decide +kernel) (Nat.le_of_ble_eq_true rfl) (fun X hX h hm => ?_)
  subst hX
  replace h : OK X G N cJ7_copyOfRangeByte_39247 RJ7 5 (1, 60, 1, 16) := h
  replace hm : OKmX X G (N + 1) KX (some (.array .byte)) "copyOfRangeByte" (1, 60, 1, 16) := hm
  show AW X G 5 N 0 [(0, _), (1, _), (2, _)] [] S 0 0
  refine r_iload_n (pc' := 1) h dJ7_copyOfRangeByte_0 rfl rfl ?_
  refine r_iload_n (pc' := 2) h dJ7_copyOfRangeByte_1 rfl rfl ?_
  refine r_callSK (st := []) (As := [.int 0, .int (nI cs.length)]) (M := mJ7_checkLength) (pc' := 5) h dJ7_copyOfRangeByte_2 rfl lJ7_343 vJ7_checkLength rfl rfl (Nat.le_of_ble_eq_true rfl) (rrb rfl) (kJ7_checkLength (by omega) (K_nil ?_))
  refine r_iload_n (pc' := 6) h dJ7_copyOfRangeByte_5 rfl rfl ?_
  refine r_iload_n (pc' := 7) h dJ7_copyOfRangeByte_6 rfl rfl ?_
  refine r_isub (pc' := 8) h dJ7_copyOfRangeByte_7 rfl ?_
  rw [n0_nn]
  refine r_istoren (j := 3) (pc' := 9) h rfl dJ7_copyOfRangeByte_8 rfl (by decide) rfl ?_
  refine r_iload_n (pc' := 10) h dJ7_copyOfRangeByte_9 rfl rfl ?_
  refine r_newa (pc' := 12) (k := 2) (a0 := (cs.length, .inl (fun _ => 0))) (m := cs.length) h dJ7_copyOfRangeByte_10 rfl rfl rfl aByte (fun _ => rfl) (nI_pos (by omega)) (nI_clamp (by omega)) (by show cs.length * 1 ≤ _; omega) (by decide) (by show 0 + cs.length ≤ 16; omega) (fun q hD => ?_)
  have hE := Ext_gN G N q
  have h2 := h.grow hE hD
  have ea : q = ad (gN G N q) N := (ad_new G N q).symm
  have eg : gJ (gN G N q) = gJ G := rfl
  generalize gN G N q = G1 at hE h2 ea hD eg ⊢
  rw [ea, ← hE.ad hk0, ← eg]
  have hc1 : va_up S N (.inl (gJ G1, cs.length, .inl (fun _ => 0))) k = .inl (gJ G1, 16, .inl f) := by
    rw [up_ne _ _ (by omega), hc0, eg]
  have h := h2
  refine r_astore (pc' := 14) h dJ7_copyOfRangeByte_12 rfl (by decide) rfl ?_
  refine r_aload_n (pc' := 15) h dJ7_copyOfRangeByte_14 rfl rfl ?_
  refine r_iload_n (pc' := 16) h dJ7_copyOfRangeByte_15 rfl rfl ?_
  refine r_aload (pc' := 18) h dJ7_copyOfRangeByte_16 rfl rfl ?_
  refine r_iconst (pc' := 19) (v := 0) h dJ7_copyOfRangeByte_18 rfl (by decide) ?_
  refine r_aload_n (pc' := 20) h dJ7_copyOfRangeByte_19 rfl rfl ?_
  refine r_alen (pc' := 21) (t := 2) h dJ7_copyOfRangeByte_20 rfl (by omega) hc1 rfl ?_
  refine r_iload_n (pc' := 22) h dJ7_copyOfRangeByte_21 rfl rfl ?_
  refine r_isub (pc' := 23) h dJ7_copyOfRangeByte_22 rfl ?_
  refine r_iload_n (pc' := 24) h dJ7_copyOfRangeByte_23 rfl rfl ?_
  refine r_min (pc' := 27) (own := RJ7) h dJ7_copyOfRangeByte_24 rfl lJ7_304 ⟨rfl, by decide, by show 0 + cs.length ≤ 16; omega⟩ ?_
  rw [show (if nI cs.length < nI 16 - 0 then nI cs.length else nI 16 - 0) = nI cs.length from min16 hn]
  have e1 : (nI cs.length).toNatClampNeg = cs.length := nI_clamp (by omega)
  have e0 : (0 : Int32).toNatClampNeg = 0 := by decide
  refine r_copyW (pc' := 30) h dJ7_copyOfRangeByte_27 rfl lJ7_150 (k0 := k) (k1 := N) (by omega) (by omega) hc1 (up_at _ _ _) (by decide) (by decide) (nI_pos (by omega)) (by rw [e0, e1]; omega) (by rw [e0, e1]; omega) (fun j hj => by rw [e1] at hj; rw [e0, Nat.zero_add, hf j hj]; exact byt_f _ (ha.at hj)) (by decide) ?_
  rw [e0, e1]
  refine r_aload (pc' := 32) h dJ7_copyOfRangeByte_30 rfl rfl ?_
  refine r_areturnX h hm (Or.inr ⟨_, rfl⟩) ⟨hE.1, hE.2.1⟩ dJ7_copyOfRangeByte_32 (by decide) (by show 0 + cs.length ≤ 16; omega) (hK _ _ _ hE hD (up_at _ _ _) (va_cpy0 hf rfl) (fun j hj => ?_))
  rw [up_ne _ _ (by omega), up_ne _ _ (by omega)]
theorem kJ7_copyOfRange {l : Launch} {G : GX} {N : Nat} {S : Nat → va_E} {KX : Option Value → GX → (Nat → va_E) → Prop} {k : Nat} {f : Nat → Int32} {cs : List Nat} (hk0 : k < N) (hc0 : S k = .inl (gJ G, 16, .inl f)) (hf : bys f cs) (ha : asc cs) (hn : cs.length < 16) (hK : ∀ G' S' f', Ext G G' N → DD G' (N + 1) → S' N = .inl (gJ G', cs.length, .inl f') → bys f' cs → (∀ j, j < N → S' j = S j) → KX (some (.ref (ad G' N))) G' S') : RetX l G N (N + 1) mJ7_copyOfRange (2, 120, 1, 16) [.ref (ad G k), .int 0, .int (nI cs.length)] S KX := by
  refine ret_enterX (by decide +kernel) (Nat.le_of_ble_eq_true rfl) (fun X hX h hm => ?_)
  subst hX
  replace h : OK X G N cJ7_copyOfRange_39247 RJ7 3 (2, 120, 1, 16) := h
  replace hm : OKmX X G (N + 1) KX (some (.array .byte)) "copyOfRange" (2, 120, 1, 16) := hm
  show AW X G 3 N 0 [(0, _), (1, _), (2, _)] [] S 0 0
  refine r_iload_n (pc' := 1) h dJ7_copyOfRange_0 rfl rfl ?_
  refine r_if_ne (tgt := 10) (pc' := 4) h dJ7_copyOfRange_1 (by decide) rfl (fun c => absurd c (fun z => z rfl)) (fun _ => ?_)
  refine r_iload_n (pc' := 5) h dJ7_copyOfRange_4 rfl rfl ?_
  refine r_aload_n (pc' := 6) h dJ7_copyOfRange_5 rfl rfl ?_
  refine r_alen (pc' := 7) (t := 2) h dJ7_copyOfRange_6 rfl hk0 hc0 rfl ?_
  refine r_icmp_eq (tgt := 17) (pc' := 10) h dJ7_copyOfRange_7 (by decide) rfl (fun c => absurd c (fun z => absurd ((nI_eq (by omega) (by decide)).mp (show nI cs.length = nI 16 from z)) (by omega))) (fun _ => ?_)
  refine r_aload_n (pc' := 11) h dJ7_copyOfRange_10 rfl rfl ?_
  refine r_iload_n (pc' := 12) h dJ7_copyOfRange_11 rfl rfl ?_
  refine r_iload_n (pc' := 13) h dJ7_copyOfRange_12 rfl rfl ?_
  refine r_callSX (N' := N + 1) (st := []) (As := [.ref (ad G k), .int 0, .int (nI cs.length)]) (M := mJ7_copyOfRangeByte) (pc' := 16) h dJ7_copyOfRange_13 rfl lJ7_339 vJ7_copyOfRangeByte rfl rfl (Nat.le_of_ble_eq_true rfl) (rrb rfl) (kJ7_copyOfRangeByte hk0 hc0 hf ha hn (fun G1 S1 f1 hE hD e1 e2 e3 => ?_))
  have h2 := h.grow hE hD
  show AW X G1 _ _ _ _ [.ref (ad G1 N)] _ _ _
  exact r_areturnX h2 hm (Or.inr ⟨_, rfl⟩) ⟨hE.1, hE.2.1⟩ dJ7_copyOfRange_16 (by decide) (by decide) (hK _ _ _ hE hD e1 e2 e3)
theorem kJ5_init {l : Launch} {G : GX} {N : Nat} {S : Nat → va_E} {KX : Option Value → GX → (Nat → va_E) → Prop} {p : Nat} (hp : p + 1 = N) (hc : S p = .inr (6, [.null, .int 0, .int 0, .int 0])) (hK : ∀ G' S', Ext G G' N → DD G' (N + 1) → isB G' (N + 1) S' p [] → (∀ j, j < N → j ≠ p → S' j = S j) → KX none G' S') : RetX l G N (N + 1) mJ5_init (1, 60, 1, 16) [.ref (ad G p), .int 16] S KX := by
  refine ret_enterX (by decide +kernel) (Nat.le_of_ble_eq_true rfl) (fun X hX h hm => ?_)
  subst hX
  replace h : OK X G N cJ5_init_d00df RJ5 2 (1, 60, 1, 16) := h
  replace hm : OKmX X G (N + 1) KX none "<init>" (1, 60, 1, 16) := hm
  show AW X G 2 N 0 [(0, _), (1, _)] [] S 0 0
  refine r_aload_n (pc' := 1) h dJ5_init_0 rfl rfl ?_
  refine r_obj (pc' := 4) h dJ5_init_1 rfl lJ5_3 iObj cObj (by decide) (by decide) ?_
  refine r_getC (pc' := 7) h dJ5_init_4 rfl lJ5_18 ?_
  refine r_if_eq (tgt := 25) (pc' := 10) h dJ5_init_7 (by decide) rfl (fun c => absurd c (by decide)) (fun _ => ?_)
  refine r_aload_n (pc' := 11) h dJ5_init_10 rfl rfl ?_
  refine r_iload_n (pc' := 12) h dJ5_init_11 rfl rfl ?_
  refine r_newa (pc' := 14) (k := 2) (a0 := (16, .inl (fun _ => 0))) (m := 16) h dJ5_init_12 rfl rfl rfl aByte (fun _ => rfl) (by decide) (by decide) (by decide) (by decide) (by decide) (fun q hD => ?_)
  have hE := Ext_gN G N q
  have h2 := h.grow hE hD
  have ea : q = ad (gN G N q) N := (ad_new G N q).symm
  have eg : gJ (gN G N q) = gJ G := rfl
  generalize gN G N q = G1 at hE h2 ea hD eg ⊢
  rw [ea, ← hE.ad (show p < N by omega), ← eg]
  have h := h2
  refine pJ5_15 (pc' := 17) h dJ5_init_14 rfl (show p < N + 1 by omega) ((up_ne _ _ (by omega)).trans hc) (Nat.le_of_ble_eq_true rfl) ?_
  refine r_aload_n (pc' := 18) h dJ5_init_17 rfl rfl ?_
  refine r_iconst (pc' := 19) (v := 0) h dJ5_init_18 rfl (by decide) ?_
  refine pJ5_22 (pc' := 22) h dJ5_init_19 rfl (show p < N + 1 by omega) (up_at _ _ _) (Nat.le_of_ble_eq_true rfl) ?_
  refine r_goto (tgt := 38) h dJ5_init_22 (by decide) ?_
  refine r_returnX h hm ⟨hE.1, hE.2.1⟩ dJ5_init_38 (by decide) (by decide) (hK _ _ hE hD ⟨by omega, by decide, (fun c hc => absurd hc List.not_mem_nil), (fun _ => 0), ?_, ?_, (fun j hj => absurd hj (Nat.not_lt_zero j))⟩ (fun j j1 j2 => ?_))
  · rw [up_at, hp]
    rfl
  · rw [hp, up_ne _ _ (by omega), up_ne _ _ (by omega), up_at]
  · rw [up_ne _ _ j2, up_ne _ _ j2, up_ne _ _ (by omega)]
theorem kJ4_init {l : Launch} {G : GX} {N : Nat} {S : Nat → va_E} {KX : Option Value → GX → (Nat → va_E) → Prop} {p : Nat} (hp : p + 1 = N) (hc : S p = .inr (6, [.null, .int 0, .int 0, .int 0])) (hK : ∀ G' S', Ext G G' N → DD G' (N + 1) → isB G' (N + 1) S' p [] → (∀ j, j < N → j ≠ p → S' j = S j) → KX none G' S') : RetX l G N (N + 1) mJ4_init (2, 120, 1, 16) [.ref (ad G p)] S KX := by
  refine ret_enterX (by decide +kernel) (Nat.le_of_ble_eq_true rfl) (fun X hX h hm => ?_)
  subst hX
  replace h : OK X G N cJ4_init_da8c8 RJ4 1 (2, 120, 1, 16) := h
  replace hm : OKmX X G (N + 1) KX none "<init>" (2, 120, 1, 16) := hm
  show AW X G 1 N 0 [(0, _)] [] S 0 0
  refine r_aload_n (pc' := 1) h dJ4_init_0 rfl rfl ?_
  refine r_bipush (pc' := 3) (v := 16) h dJ4_init_1 rfl (by decide) ?_
  refine r_callIX (N' := N + 1) (st := []) (As := [.int 16]) (M := mJ5_init) (pc' := 6) h dJ4_init_3 rfl lJ4_1 vJ5_init rfl rfl (Nat.le_of_ble_eq_true rfl) (rrb rfl) (kJ5_init hp hc (fun G1 S1 hE hD e1 e2 => ?_))
  have h2 := h.grow hE hD
  show AW X G1 _ _ _ _ [] _ _ _
  exact r_returnX h2 hm ⟨hE.1, hE.2.1⟩ dJ4_init_6 (by decide) (by decide) (hK _ _ hE hD e1 e2)
theorem kJ0_initA {l : Launch} {G : GX} {N : Nat} {S : Nat → va_E} {KX : Option Value → GX → (Nat → va_E) → Prop} {p q : Nat} {cs : List Nat} (hB : isB G N S p cs) (hn : cs.length < 16) (hq : q + 1 = N) (hpq : p + 1 < q) (hc : S q = .inr (5, [.null, .int 0, .int 0, .int 0])) (hK : ∀ G' S', Ext G G' N → DD G' (N + 1) → isS G' (N + 1) S' q cs → (∀ j, j < N → j ≠ q → S' j = S j) → KX none G' S') : RetX l G N (N + 1) mJ0_initA (3, 180, 1, 16) [.ref (ad G q), .ref (ad G p), .null] S KX := by
  refine ret_enterX (by decide +kernel) (Nat.le_of_ble_eq_true rfl) (fun X hX h hm => ?_)
  subst hX
  replace h : OK X G N cJ0_init_db425 RJ0 5 (3, 180, 1, 16) := h
  replace hm : OKmX X G (N + 1) KX none "<init>" (3, 180, 1, 16) := hm
  show AW X G 5 N 0 [(0, _), (1, _), (2, _)] [] S 0 0
  have hB0 := hB
  obtain ⟨b1, b2, b3, f, b4, b5, b6⟩ := hB
  refine r_aload_n (pc' := 1) h dJ0_initA_0 rfl rfl ?_
  refine r_obj (pc' := 4) h dJ0_initA_1 rfl lJ0_1 iObj cObj (by decide) (by decide) ?_
  refine r_aload_n (pc' := 5) h dJ0_initA_4 rfl rfl ?_
  refine r_callVL (st := []) (As := []) (M := mJ5_getValue) (pc' := 8) h dJ0_initA_5 rfl lJ0_552 vJ5_getValue rfl hB0.l0 b4 rfl rfl (Nat.le_of_ble_eq_true rfl) (rrb rfl) (kJ5_getValue hB0 (K_int ?_))
  refine r_astoren (j := 3) (pc' := 9) h rfl dJ0_initA_8 rfl (by decide) rfl ?_
  refine r_aload_n (pc' := 10) h dJ0_initA_9 rfl rfl ?_
  refine r_callU (st := []) (As := []) (M := mJ4_length) (pc' := 13) h dJ0_initA_10 rfl lJ0_549 vJ4_length rfl hB0.l0 b4 rfl rfl (Nat.le_of_ble_eq_true rfl) (rrb rfl) (kJ4_length hB0 (K_int ?_))
  refine r_istore (pc' := 15) h dJ0_initA_13 rfl (by decide) rfl ?_
  refine r_aload_n (pc' := 16) h dJ0_initA_15 rfl rfl ?_
  refine r_callVL (st := []) (As := []) (M := mJ5_isLatin1) (pc' := 19) h dJ0_initA_16 rfl lJ0_1047 vJ5_isLatin1 rfl hB0.l0 b4 rfl rfl (Nat.le_of_ble_eq_true rfl) (rrb rfl) (kJ5_isLatin1 hB0 (K_int ?_))
  refine r_if_eq (tgt := 41) (pc' := 22) h dJ0_initA_19 (by decide) rfl (fun c => absurd c (by decide)) (fun _ => ?_)
  refine r_aload_n (pc' := 23) h dJ0_initA_22 rfl rfl ?_
  refine r_iconst (pc' := 24) (v := 0) h dJ0_initA_23 rfl (by decide) ?_
  refine r_putF (pc' := 27) (k := q) (ci := 5) (j := 1) (ty := .byte) h hm.2.2.2 dJ0_initA_24 rfl (by omega) hc rfl inJ0 tyJ0_ok nmJ0 (by decide) ⟨rfl, rfl, rfl⟩ lJ0_15 rfl rfl (by decide +kernel) rfl rfl (Nat.le_of_ble_eq_true rfl) ?_
  refine r_aload_n (pc' := 28) h dJ0_initA_27 rfl rfl ?_
  refine r_aload_n (pc' := 29) h dJ0_initA_28 rfl rfl ?_
  refine r_iconst (pc' := 30) (v := 0) h dJ0_initA_29 rfl (by decide) ?_
  refine r_iload (pc' := 32) h dJ0_initA_30 rfl rfl ?_
  refine r_callSX (N' := N + 1) (st := [.ref (ad G q)]) (As := [.ref (ad G (p + 1)), .int 0, .int (nI cs.length)]) (M := mJ7_copyOfRange) (pc' := 35) h dJ0_initA_32 rfl lJ0_54 vJ7_copyOfRange rfl rfl (Nat.le_of_ble_eq_true rfl) (rrb rfl) (kJ7_copyOfRange b1 ((up_ne _ _ (by omega)).trans b5) b6 b3 hn (fun G1 S1 f1 hE hD e1 e2 e3 => ?_))
  have h2 := h.grow hE hD
  show AW X G1 _ _ _ _ (.ref (ad G1 N) :: [.ref (ad G q)]) _ _ _
  rw [← hE.ad (show q < N by omega)]
  have h := h2
  refine r_putF (pc' := 38) (k := q) (ci := 5) (j := 0) (ty := .array .byte) h hm.2.2.2 dJ0_initA_35 rfl (by omega) ((e3 q (by omega)).trans (up_at _ _ _)) rfl inJ0 tyJ0_ok nmJ0 (by decide) ⟨rfl, rfl, rfl⟩ lJ0_9 rfl rfl (by decide +kernel) rfl rfl (Nat.le_of_ble_eq_true rfl) ?_
  refine r_goto (tgt := 97) h dJ0_initA_38 (by decide) ?_
  refine r_returnX h hm ⟨hE.1, hE.2.1⟩ dJ0_initA_97 (by decide) (by decide) (hK _ _ hE hD ⟨by omega, by omega, b3, f1, ?_, ?_, e2⟩ (fun j j1 j2 => ?_))
  · rw [up_at, hq]
    rfl
  · rw [hq, up_ne _ _ (by omega)]
    exact e1
  · rw [up_ne _ _ j2, e3 j j1, up_ne _ _ j2]
theorem kJ0_initB {l : Launch} {G : GX} {N : Nat} {S : Nat → va_E} {KX : Option Value → GX → (Nat → va_E) → Prop} {p q : Nat} {cs : List Nat} (hB : isB G N S p cs) (hn : cs.length < 16) (hq : q + 1 = N) (hpq : p + 1 < q) (hc : S q = .inr (5, [.null, .int 0, .int 0, .int 0])) (hK : ∀ G' S', Ext G G' N → DD G' (N + 1) → isS G' (N + 1) S' q cs → (∀ j, j < N → j ≠ q → S' j = S j) → KX none G' S') : RetX l G N (N + 1) mJ0_initB (4, 240, 1, 16) [.ref (ad G q), .ref (ad G p)] S KX := by
  refine ret_enterX (by decide +kernel) (Nat.le_of_ble_eq_true rfl) (fun X hX h hm => ?_)
  subst hX
  replace h : OK X G N cJ0_init_81219 RJ0 2 (4, 240, 1, 16) := h
  replace hm : OKmX X G (N + 1) KX none "<init>" (4, 240, 1, 16) := hm
  show AW X G 2 N 0 [(0, _), (1, _)] [] S 0 0
  refine r_aload_n (pc' := 1) h dJ0_initB_0 rfl rfl ?_
  refine r_aload_n (pc' := 2) h dJ0_initB_1 rfl rfl ?_
  refine r_null (pc' := 3) h dJ0_initB_2 rfl ?_
  refine r_callIX (N' := N + 1) (st := []) (As := [.ref (ad G p), .null]) (M := mJ0_initA) (pc' := 6) h dJ0_initB_3 rfl lJ0_489 vJ0_initA rfl rfl (Nat.le_of_ble_eq_true rfl) (rrb rfl) (kJ0_initA hB hn hq hpq hc (fun G1 S1 hE hD e1 e2 => ?_))
  have h2 := h.grow hE hD
  show AW X G1 _ _ _ _ [] _ _ _
  exact r_returnX h2 hm ⟨hE.1, hE.2.1⟩ dJ0_initB_6 (by decide) (by decide) (hK _ _ hE hD e1 e2)
theorem kJ4_toString {l : Launch} {G : GX} {N : Nat} {S : Nat → va_E} {KX : Option Value → GX → (Nat → va_E) → Prop} {p : Nat} {cs : List Nat} (hB : isB G N S p cs) (hn : cs.length < 16) (hK : ∀ G' S', Ext G G' N → DD G' (N + 2) → isS G' (N + 2) S' N cs → (∀ j, j < N → S' j = S j) → KX (some (.ref (ad G' N))) G' S') : RetX l G N (N + 2) mJ4_toString (5, 300, 2, 20) [.ref (ad G p)] S KX := by
  refine ret_enterX (by decide +kernel) (Nat.le_of_ble_eq_true rfl) (fun X hX h hm => ?_)
  subst hX
  replace h : OK X G N cJ4_toString_0e30d RJ4 1 (5, 300, 2, 20) := h
  replace hm : OKmX X G (N + 2) KX (some (.object "java/lang/String")) "toString" (5, 300, 2, 20) := hm
  show AW X G 1 N 0 [(0, _)] [] S 0 0
  refine r_new (pc' := 3) (ci := 5) (ty := tyJ0) (fs := [.null, .int 0, .int 0, .int 0]) h dJ4_toString_0 rfl rfl inJ0 tyJ0_ok lJ4_18 nJ0 iJ0 (fun j hj => by rcases (show j = 0 ∨ j = 1 ∨ j = 2 ∨ j = 3 by omega) with rfl | rfl | rfl | rfl <;> rfl) (by decide) (by decide) (fun q hD => ?_)
  have hE := Ext_gN G N q
  have h2 := h.grow hE hD
  have ea : q = ad (gN G N q) N := (ad_new G N q).symm
  generalize gN G N q = G1 at hE h2 ea hD ⊢
  rw [ea, ← hE.ad hB.l0]
  have hB1 : isB G1 (N + 1) (va_up S N (.inr (5, [.null, .int 0, .int 0, .int 0]))) p cs := hB.ext hE (by omega) (up_ne _ _ (by have := hB.1; omega)) (up_ne _ _ (by have := hB.1; omega))
  have hpN := hB.1
  have h := h2
  refine r_dup (pc' := 4) h dJ4_toString_3 rfl rfl ?_
  refine r_aload_n (pc' := 5) h dJ4_toString_4 rfl rfl ?_
  refine r_callIX (N' := N + 2) (st := [.ref (ad G1 N)]) (As := [.ref (ad G1 p)]) (M := mJ0_initB) (pc' := 8) h dJ4_toString_5 rfl lJ4_137 vJ0_initB rfl rfl (Nat.le_of_ble_eq_true rfl) (rrb rfl) (kJ0_initB hB1 hn rfl (by omega) (up_at _ _ _) (fun G2 S2 hE2 hD2 e1 e2 => ?_))
  have h3 := h.grow hE2 hD2
  have hE3 : Ext G G2 N := hE.tr' hE2 (by omega)
  show AW X G2 _ _ _ _ [.ref (ad G1 N)] _ _ _
  rw [← hE2.ad (show N < N + 1 by omega)]
  exact r_areturnX h3 hm (Or.inl ⟨_, rfl⟩) ⟨hE3.1, hE3.2.1⟩ dJ4_toString_8 (by decide) (by decide) (hK _ _ hE3 hD2 e1 (fun j hj => (e2 j (by omega) (by omega)).trans (up_ne _ _ (by omega))))
