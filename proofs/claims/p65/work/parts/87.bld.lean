/-! THE LAW'S BUILDER, step by step. -/
abbrev rmL : Nat × Nat × Nat × Nat := (2048, 94400, 811098, 6651793)
/-- the class and a builder -/
def WT (G : GX) (N : Nat) (S : Nat → va_E) (p : Nat) (cs : List Nat) (D : DM) : Prop := isD G N S D ∧ isB G N S p cs ∧ 118 < p
section BLD
variable {X : CX} {G : GX} {N p pc p1 p2 pc' : Nat} {lo : List (Nat × Value)} {st : List Value} {S : Nat → va_E} {D : DM} {cs : List Nat} {a b : Nat}
/-- new StringBuilder() -/
theorem st_new (h : OK X G N code RL 19 rmL) (hD : isD G N S D) (d0 : decode code pc = .ok (.new 217, 3)) (d1 : decode code p1 = .ok (.dup, 1)) (d2 : decode code p2 = .ok (.invokespecial 219, 3)) (hp : p1 = pc + 3 ∧ p2 = pc + 4 ∧ pc' = pc + 7) (hst : (st.map fun v => v.category).sum ≤ 7) (ha : a + 2 ≤ 811098) (hb : b + 20 ≤ 6651793)
    (kk : ∀ G1 S1, OK X G1 (N + 2) code RL 19 rmL → Ext G G1 N → isD G1 (N + 2) S1 D → isB G1 (N + 2) S1 N [] → (∀ k, k < N → EqE (S1 k) (S k)) → (∀ k, 118 < k → k < N → S1 k = S k) → AW X G1 19 (N + 2) pc' lo (.ref (ad G1 N) :: st) S1 (a + 2) (b + 20)) : AW X G 19 N pc lo st S a b := by
  obtain ⟨rfl, rfl, rfl⟩ := hp
  refine r_new (pc' := pc + 3) (ci := 6) (ty := tyJ4) (fs := [.null, .int 0, .int 0, .int 0]) h d0 rfl rfl inJ4 tyJ4_ok lL_217 nJ4 iJ4 (fun j hj => by rcases (show j = 0 ∨ j = 1 ∨ j = 2 ∨ j = 3 by omega) with rfl | rfl | rfl | rfl <;> rfl) (by show a + 1 ≤ 811098; omega) (by show b + 4 ≤ 6651793; omega) (fun q hDD => ?_)
  have hE := Ext_gN G N q
  have h2 := h.grow hE hDD
  have ea : q = ad (gN G N q) N := (ad_new G N q).symm
  generalize gN G N q = G1 at hE h2 ea hDD ⊢
  rw [ea]
  refine r_dup (pc' := pc + 4) h2 d1 rfl rfl ?_
  refine r_callIX (N' := N + 2) (st := .ref (ad G1 N) :: st) (As := []) (M := mJ4_init) (pc' := pc + 7) h2 d2 rfl lL_219 vJ4_init rfl rfl (by show 1 + (st.map fun v => v.category).sum ≤ 8; omega) ⟨by decide, by decide, by show a + 1 + 1 ≤ 811098; omega, by show b + 4 + 16 ≤ 6651793; omega⟩ (kJ4_init rfl (up_at _ _ _) (fun G2 S2 hE2 hD2 e1 e2 => ?_))
  have h3 := h2.grow hE2 hD2
  have hE3 : Ext G G2 N := hE.tr' hE2 (by omega)
  show AW X G2 19 (N + 2) (pc + 7) lo (.ref (ad G1 N) :: st) S2 (a + 2) (b + 20)
  rw [← hE2.ad (show N < N + 1 by omega)]
  have eS : ∀ k, k < N → S2 k = S k := fun k hk => (e2 k (by omega) (by omega)).trans (up_ne _ _ (by omega))
  have hN := hD.1
  obtain ⟨hD3, hq⟩ := hD.ext hE3 (show N ≤ N + 2 by omega) (fun k hk => eS k (by omega))
  refine r_eqv (fun k _ => hq k) ?_
  exact kk G2 (fx G2 S2) h3 hE3 hD3 (e1.ext (Ext.rf _ _) (Nat.le_refl _) (fx_ne _ _ (by omega)) (fx_ne _ _ (by omega))) (fun k hk => (hq k).sy.tr (EqE.of (eS k hk))) (fun k k1 k2 => (fx_ne _ _ (by omega)).trans (eS k k2))
theorem WT.keep {S1 : Nat → va_E} {ds : List Nat} (hW : WT G N S p cs D) (hB : isB G N S1 p ds) (hr : ∀ k, k ≠ p → k ≠ p + 1 → S1 k = S k) : WT G N S1 p ds D :=
  ⟨hW.1.world (fun k hk => hr k (by have := hW.2.2; omega) (by have := hW.2.2; omega)), hB, hW.2.2⟩
/-- append(int), append(String) of a constant, of a string -/
theorem st_i (h : OK X G N code RL 19 rmL) (hW : WT G N S p cs D) {v : Nat} (hv : v < 100) (hl : cs.length + dgs' v ≤ 16) (d0 : decode code pc = .ok (.invokevirtual 220, 3)) (hp : pc' = pc + 3) (hst : (st.map fun v => v.category).sum ≤ 8) (ha : a ≤ 811098) (hb : b ≤ 6651793)
    (kk : ∀ S1, WT G N S1 p (cs ++ dec' v) D → (∀ k, k ≠ p → k ≠ p + 1 → S1 k = S k) → AW X G 19 N pc' lo (.ref (ad G p) :: st) S1 a b) : AW X G 19 N pc lo (.int (nI v) :: .ref (ad G p) :: st) S a b := by
  subst hp
  exact r_callVL (st := st) (As := [.int (nI v)]) (M := mJ4_appendI) h d0 rfl lL_220 vJ4_appendI rfl hW.2.1.l0 (show S p = _ from hW.2.1.2.2.2.choose_spec.1) rfl rfl hst ⟨by decide, by decide, by show a + 0 ≤ _; omega, by show b + 0 ≤ _; omega⟩ (kJ4_appendI hW.2.1 hv hl (fun S1 h1 h2 => K_int (kk S1 (hW.keep h1 h2) h2)))
theorem st_k (h : OK X G N code RL 19 rmL) (hW : WT G N S p cs D) {i : Nat} (hi : i < 9) (hl : cs.length + sLn i ≤ 16) (d0 : decode code pc = .ok (.invokevirtual 226, 3)) (hp : pc' = pc + 3) (hst : (st.map fun v => v.category).sum ≤ 8) (ha : a ≤ 811098) (hb : b ≤ 6651793)
    (kk : ∀ S1, WT G N S1 p (cs ++ sN.getD i []) D → (∀ k, k ≠ p → k ≠ p + 1 → S1 k = S k) → AW X G 19 N pc' lo (.ref (ad G p) :: st) S1 a b) : AW X G 19 N pc lo (.ref (gK G i) :: .ref (ad G p) :: st) S a b := by
  subst hp
  exact r_callVL (st := st) (As := [.ref (gK G i)]) (M := mJ4_appendS) h d0 rfl lL_226 vJ4_appendS rfl hW.2.1.l0 (show S p = _ from hW.2.1.2.2.2.choose_spec.1) rfl rfl hst ⟨by decide, by decide, by show a + 0 ≤ _; omega, by show b + 0 ≤ _; omega⟩ (kJ4_appendSK hW.2.1 hi hl (fun S1 h1 h2 => K_int (kk S1 (hW.keep h1 h2) h2)))
theorem st_w (h : OK X G N code RL 19 rmL) (hW : WT G N S p cs D) {q : Nat} {ds : List Nat} (hS : isS G N S q ds) (hl : cs.length + ds.length ≤ 16) (d0 : decode code pc = .ok (.invokevirtual 226, 3)) (hp : pc' = pc + 3) (hst : (st.map fun v => v.category).sum ≤ 8) (ha : a ≤ 811098) (hb : b ≤ 6651793)
    (kk : ∀ S1, WT G N S1 p (cs ++ ds) D → (∀ k, k ≠ p → k ≠ p + 1 → S1 k = S k) → AW X G 19 N pc' lo (.ref (ad G p) :: st) S1 a b) : AW X G 19 N pc lo (.ref (ad G q) :: .ref (ad G p) :: st) S a b := by
  subst hp
  exact r_callVL (st := st) (As := [.ref (ad G q)]) (M := mJ4_appendS) h d0 rfl lL_226 vJ4_appendS rfl hW.2.1.l0 (show S p = _ from hW.2.1.2.2.2.choose_spec.1) rfl rfl hst ⟨by decide, by decide, by show a + 0 ≤ _; omega, by show b + 0 ≤ _; omega⟩ (kJ4_appendSW hW.2.1 hS hl (fun S1 h1 h2 => K_int (kk S1 (hW.keep h1 h2) h2)))
/-- toString() -/
theorem st_t (h : OK X G N code RL 19 rmL) (hW : WT G N S p cs D) (hl : cs.length < 16) (d0 : decode code pc = .ok (.invokevirtual 237, 3)) (hp : pc' = pc + 3) (hst : (st.map fun v => v.category).sum ≤ 8) (ha : a + 2 ≤ 811098) (hb : b + 20 ≤ 6651793)
    (kk : ∀ G1 S1, OK X G1 (N + 2) code RL 19 rmL → Ext G G1 N → isD G1 (N + 2) S1 D → isS G1 (N + 2) S1 N cs → (∀ k, k < N → EqE (S1 k) (S k)) → (∀ k, 118 < k → k < N → S1 k = S k) → AW X G1 19 (N + 2) pc' lo (.ref (ad G1 N) :: st) S1 (a + 2) (b + 20)) : AW X G 19 N pc lo (.ref (ad G p) :: st) S a b := by
  subst hp
  refine r_callVX (N' := N + 2) (st := st) (As := []) (M := mJ4_toString) h d0 rfl lL_237 vJ4_toString rfl hW.2.1.l0 (show S p = _ from hW.2.1.2.2.2.choose_spec.1) rfl rfl hst ⟨by decide, by decide, by show a + 2 ≤ _; omega, by show b + 20 ≤ _; omega⟩ (kJ4_toString hW.2.1 hl (fun G1 S1 hE hDD e1 e2 => ?_))
  have hN := hW.1.1
  obtain ⟨hD3, hq⟩ := hW.1.ext hE (show N ≤ N + 2 by omega) (fun k hk => e2 k (by omega))
  show AW X G1 19 (N + 2) (pc + 3) lo (.ref (ad G1 N) :: st) S1 (a + 2) (b + 20)
  refine r_eqv (fun k _ => hq k) ?_
  exact kk G1 (fx G1 S1) (h.grow hE hDD) hE hD3 (e1.ext (Ext.rf _ _) (Nat.le_refl _) (fx_ne _ _ (by omega)) (fx_ne _ _ (by omega))) (fun k hk => (hq k).sy.tr (EqE.of (e2 k hk))) (fun k k1 k2 => (fx_ne _ _ (by omega)).trans (e2 k k2))
end BLD
theorem tSig_tx {T : TX} {cs : List Nat} (h : tx T cs) (hl : cs.length ≤ 60) {i : Nat} (hi : i < cs.length) : tSig T (nI i) = nI (cs.getD i 0) := by
  unfold tSig
  rw [if_neg (nI_pos (by omega)), h.1, if_neg (nI_ge hi (by omega)), if_neg (nI_ge (by omega) (by decide)), nI_clamp (by omega)]
  exact h.2 i hi
theorem zOA_tx {D : DM} {cs : List Nat} (h : tx (oTx D) cs) (hl : cs.length ≤ 60) {i : Nat} (hi : i < cs.length) : zOA D (nI i) = .inl (some (.int (nI (cs.getD i 0)))) := by
  unfold zOA
  have e : dI D 11 - 1 = nI (cs.length - 1) := by
    have e1 : dI D 11 = nI cs.length := h.1
    rw [e1, show cs.length = (cs.length - 1) + 1 by omega, nI_pred]
    rfl
  rw [e, show (0 : Int32) = nI 0 from rfl, if_pos (wIn_ok (Nat.zero_le _) (by omega) (by omega)), tSig_tx h hl hi]
theorem kL_isLine {l : Launch} {G : GX} {N : Nat} {S : Nat → va_E} {K : RK} {D : DM} {cs : List Nat} {q : Nat} (hD : isD G N S D) (hr : rowC (dR D 2)) (hS : isS G N S q cs) (ht : tx (oTx D) cs) (hl : cs.length ≤ 16) (hk : K (.inl (some (.int 1))) S) : RetK l G N mL_isLine (9, 170, 16, 96) [.ref (ad G 0), .int (nI cs.length), .ref (ad G q)] S K := by
  refine ret_enter (by decide +kernel) (Nat.le_of_ble_eq_true rfl) (fun X hX h hm => ?_)
  subst hX
  replace h : OK X G N cL_isLine RL 4 (9, 170, 16, 96) := h
  replace hm : OKm X G N K (some .boolean) (9, 170, 16, 96) := hm
  show AW X G 4 N 0 [(0, _), (1, _), (2, _)] [] S 0 0
  refine r_iload_n (pc' := 1) h dL_isLine_0 rfl rfl ?_
  refine r_aload_n (pc' := 2) h dL_isLine_1 rfl rfl ?_
  refine r_callVL (st := [.int (nI cs.length)]) (As := []) (M := mJ0_length) (pc' := 5) h dL_isLine_2 rfl lL_167 vJ0_length rfl hS.l0 (show S q = _ from hS.2.2.2.choose_spec.1) rfl rfl (Nat.le_of_ble_eq_true rfl) (rrb rfl) (kJ0_lengthW hS (K_int ?_))
  refine r_icmp_eq (tgt := 10) (pc' := 8) h dL_isLine_5 (by decide) rfl (fun _ => ?_) (fun c => absurd rfl c)
  refine r_iconst (pc' := 11) (v := 0) h dL_isLine_10 rfl (by decide) ?_
  refine r_istoren (j := 3) (pc' := 12) h rfl dL_isLine_11 rfl (by decide) rfl ?_
  have loop : ∀ (n j : Nat), j ≤ cs.length → cs.length - j < n → AW X G 4 N 12 [(0, .ref (ad G 0)), (1, .int (nI cs.length)), (2, .ref (ad G q)), (3, .int (nI j))] [] S j (6 * j) := by
    intro n
    induction n with
    | zero => intro j h1 h2; exact absurd h2 (by omega)
    | succ n ih =>
      intro j h1 h2
      refine r_iload_n (pc' := 13) h dL_isLine_12 rfl rfl ?_
      refine r_iload_n (pc' := 14) h dL_isLine_13 rfl rfl ?_
      refine r_icmp_ge (tgt := 38) (pc' := 17) h dL_isLine_14 (by decide) rfl (fun c0 => ?_) (fun c0 => ?_)
      · refine r_iconst (pc' := 39) (v := 1) h dL_isLine_38 rfl (by decide) ?_
        exact r_zreturn h hm dL_isLine_39 (by show j ≤ 16; omega) (by show 6 * j ≤ 96; omega) (by decide +kernel) hk
      · have hj : j < cs.length := by
          rcases Nat.lt_or_ge j cs.length with z | z
          · exact z
          · exact absurd (nI_le z (by omega)) c0
        refine r_aload_n (pc' := 18) h dL_isLine_17 rfl rfl ?_
        refine r_iload_n (pc' := 19) h dL_isLine_18 rfl rfl ?_
        refine r_callVL (st := []) (As := [.int (nI j)]) (M := mX4_outputAt) (pc' := 22) h dL_isLine_19 rfl lL_172 vX4_outputAt rfl hD.l0 hD.o0 rfl rfl (Nat.le_of_ble_eq_true rfl) ⟨by decide, by decide, by show j + 1 ≤ 16; omega, by show 6 * j + 6 ≤ 96; omega⟩ (kX4_outputAt hD hr ?_)
        rw [zOA_tx ht (by omega) hj]
        refine K_int ?_
        refine r_aload_n (pc' := 23) h dL_isLine_22 rfl rfl ?_
        refine r_iload_n (pc' := 24) h dL_isLine_23 rfl rfl ?_
        refine r_callVL (st := [.int (nI (cs.getD j 0))]) (As := [.int (nI j)]) (M := mJ0_charAt) (pc' := 27) h dL_isLine_24 rfl lL_175 vJ0_charAt rfl hS.l0 (show S q = _ from hS.2.2.2.choose_spec.1) rfl rfl (Nat.le_of_ble_eq_true rfl) ⟨by decide, by decide, by show j + 1 + 0 ≤ 16; omega, by show 6 * j + 6 + 0 ≤ 96; omega⟩ (kJ0_charAtW hS hj (K_int ?_))
        refine r_icmp_eq (tgt := 32) (pc' := 30) h dL_isLine_27 (by decide) rfl (fun _ => ?_) (fun c => absurd rfl c)
        refine r_iinc (pc' := 35) (v := 1) h dL_isLine_32 rfl (by decide) (by decide) rfl rfl ?_
        refine r_goto (tgt := 12) h dL_isLine_35 (by decide) ?_
        rw [nI_1]
        exact ih (j + 1) (by omega) (by omega)
  exact loop (cs.length + 1) 0 (Nat.zero_le _) (by omega)
