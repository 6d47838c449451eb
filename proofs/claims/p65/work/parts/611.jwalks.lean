/-! A BUILDER of at most 16 letters, a string made of it: what they are, what their methods do. -/
/-- a row of bytes begins with these letters -/
def bys (f : Nat → Int32) (cs : List Nat) : Prop := ∀ j, j < cs.length → f j = nI (cs.getD j 0)
def asc (cs : List Nat) : Prop := ∀ c ∈ cs, c < 128
def isB (G : GX) (N : Nat) (S : Nat → va_E) (p : Nat) (cs : List Nat) : Prop := p + 1 < N ∧ cs.length ≤ 16 ∧ asc cs ∧ ∃ f, S p = .inr (6, [.ref (ad G (p + 1)), .int 0, .int 0, .int (nI cs.length)]) ∧ S (p + 1) = .inl (gJ G, 16, .inl f) ∧ bys f cs
def isS (G : GX) (N : Nat) (S : Nat → va_E) (q : Nat) (cs : List Nat) : Prop := q + 1 < N ∧ cs.length < 2 ^ 20 ∧ asc cs ∧ ∃ f, S q = .inr (5, [.ref (ad G (q + 1)), .int 0, .int 0, .int 0]) ∧ S (q + 1) = .inl (gJ G, cs.length, .inl f) ∧ bys f cs
theorem asc.at {cs : List Nat} (h : asc cs) {j : Nat} (hj : j < cs.length) : cs.getD j 0 < 128 := by
  rw [List.getD_eq_getElem?_getD, List.getElem?_eq_getElem hj]
  exact h _ (List.getElem_mem hj)
theorem byt_n : ∀ c, c < 128 → vp_nar .byte (nI c) = nI c := by decide +kernel
theorem byt_f : ∀ c, c < 128 → fits .byte (.int (nI c)) = true := by decide +kernel
theorem byt_c : ∀ c, c < 128 → chr' (nI c &&& 255) = nI c := by decide +kernel
theorem shl_0 (x : Int32) : x <<< ((0 : Int32) &&& 31) = x := by
  have e : (0 : Int32) &&& 31 = 0 := by decide +kernel
  rw [e]
  exact Int32.shiftLeft_zero
/-- how many digits; the digits -/
def dgs' (v : Nat) : Nat := if v < 10 then 1 else 2
def dec' (v : Nat) : List Nat := if v < 10 then [48 + v] else [48 + v / 10, 48 + v % 10]
theorem dec_len (v : Nat) : (dec' v).length = dgs' v := by
  unfold dec' dgs'
  split <;> rfl
theorem dec_asc {v : Nat} (h : v < 100) : asc (dec' v) := by
  unfold dec' asc
  intro c hc
  split at hc
  · simp at hc
    omega
  · simp at hc
    omega
theorem asc_app {a b : List Nat} (h : asc a) (k : asc b) : asc (a ++ b) := fun c hc => by
  rcases List.mem_append.mp hc with x | x
  · exact h c x
  · exact k c x
theorem getD_l {a b : List Nat} {j : Nat} (h : j < a.length) : (a ++ b).getD j 0 = a.getD j 0 := by
  simp [List.getD_eq_getElem?_getD, List.getElem?_append_left h]
theorem getD_r {a b : List Nat} {j : Nat} (h : a.length ≤ j) : (a ++ b).getD j 0 = b.getD (j - a.length) 0 := by
  simp [List.getD_eq_getElem?_getD, List.getElem?_append_right h]
theorem bys_1 {f : Nat → Int32} {cs : List Nat} (h : bys f cs) (c : Nat) : bys (upd f cs.length (nI c)) (cs ++ [c]) := by
  intro j hj
  rw [List.length_append] at hj
  simp at hj
  unfold upd
  by_cases e : j = cs.length
  · subst e
    rw [if_pos rfl, getD_r (Nat.le_refl _), Nat.sub_self]
    rfl
  · rw [if_neg e, getD_l (by omega)]
    exact h j (by omega)
theorem bys_2 {f : Nat → Int32} {cs : List Nat} (h : bys f cs) (c d : Nat) : bys (upd (upd f (cs.length + 1) (nI d)) cs.length (nI c)) (cs ++ [c, d]) := by
  intro j hj
  rw [List.length_append] at hj
  simp at hj
  unfold upd
  by_cases e : j = cs.length
  · subst e
    rw [if_pos rfl, getD_r (Nat.le_refl _), Nat.sub_self]
    rfl
  · rw [if_neg e]
    by_cases e2 : j = cs.length + 1
    · subst e2
      rw [if_pos rfl, getD_r (by omega), show cs.length + 1 - cs.length = 1 by omega]
      rfl
    · rw [if_neg e2, getD_l (by omega)]
      exact h j (by omega)
theorem bys_cp {f g : Nat → Int32} {cs ds : List Nat} (h : bys g cs) (k : bys f ds) : bys (va_cpy f g 0 cs.length ds.length) (cs ++ ds) := by
  intro j hj
  rw [List.length_append] at hj
  by_cases e : j < cs.length
  · rw [getD_l e]
    show (if cs.length ≤ j ∧ j < cs.length + ds.length then _ else _) = _
    rw [if_neg (by omega)]
    exact h j e
  · rw [getD_r (by omega)]
    show (if cs.length ≤ j ∧ j < cs.length + ds.length then _ else _) = _
    rw [if_pos (by omega), show 0 + (j - cs.length) = j - cs.length by omega]
    exact k _ (by omega)
theorem up_at (S : Nat → va_E) (k : Nat) (e : va_E) : va_up S k e k = e := if_pos rfl
theorem up_ne (S : Nat → va_E) {k j : Nat} (e : va_E) (h : j ≠ k) : va_up S k e j = S j := if_neg h
theorem isB.l0 {G : GX} {N p : Nat} {S : Nat → va_E} {cs : List Nat} (h : isB G N S p cs) : p < N := by
  have := h.1
  omega
theorem isS.l0 {G : GX} {N p : Nat} {S : Nat → va_E} {cs : List Nat} (h : isS G N S p cs) : p < N := by
  have := h.1
  omega
theorem isB.ext {G G' : GX} {N N' p : Nat} {S S' : Nat → va_E} {cs : List Nat} (h : isB G N S p cs) (hE : Ext G G' N) (hN : N ≤ N') (e0 : S' p = S p) (e1 : S' (p + 1) = S (p + 1)) : isB G' N' S' p cs := by
  obtain ⟨h1, h2, h3, f, h4, h5, h6⟩ := h
  exact ⟨by omega, h2, h3, f, by rw [e0, h4, hE.ad h1], by rw [e1, h5, ext_gJ hE], h6⟩
theorem isS.ext {G G' : GX} {N N' p : Nat} {S S' : Nat → va_E} {cs : List Nat} (h : isS G N S p cs) (hE : Ext G G' N) (hN : N ≤ N') (e0 : S' p = S p) (e1 : S' (p + 1) = S (p + 1)) : isS G' N' S' p cs := by
  obtain ⟨h1, h2, h3, f, h4, h5, h6⟩ := h
  exact ⟨by omega, h2, h3, f, by rw [e0, h4, hE.ad h1], by rw [e1, h5, ext_gJ hE], h6⟩
theorem sub16 : ∀ m, m ≤ 16 → nI m - nI 16 ≤ 0 := by decide +kernel
theorem ss_a : ∀ v, v < 10 → ¬ -nI v ≤ -10 := by decide +kernel
theorem ss_b : ∀ v, v < 100 → v < 10 ∨ -nI v ≤ -10 := by decide +kernel
theorem ss_c : ∀ v, v < 100 → ¬ -nI v ≤ 10 * -10 := by decide +kernel
theorem gc_a : ∀ v, v < 100 → -100 < -nI v := by decide +kernel
theorem gc_b : ∀ v, v < 10 → -9 ≤ -nI v := by decide +kernel
theorem gc_c : ∀ v, v < 100 → v < 10 ∨ ¬ -9 ≤ -nI v := by decide +kernel
theorem gc_1 : ∀ v, v < 100 → vp_nar .byte (dOne (nI v).toNatClampNeg) = nI (48 + v % 10) := by decide +kernel
theorem gc_2 : ∀ v, v < 100 → vp_nar .byte (dTen (nI v).toNatClampNeg) = nI (48 + v / 10) := by decide +kernel
theorem nI_m1 (n : Nat) : nI (n + 1) + -1 = nI n := by
  rw [← Int32.sub_eq_add_neg]
  exact nI_pred n
theorem sb_k : ∀ i, i < 9 → ∀ j, j < 6 → fits .byte (.int ((bytS.getD i []).getD j 0)) = true := by decide +kernel
/-- the constants' letters -/
def sN : List (List Nat) := [[78, 69, 83, 87], [64], [44], [112], [61], [60], [], [120], [115]]
theorem sN_len : ∀ i, i < 9 → (sN.getD i []).length = sLn i := by decide +kernel
theorem sN_by : ∀ i, i < 9 → ∀ j, j < sLn i → (bytS.getD i []).getD j 0 = nI ((sN.getD i []).getD j 0) := by decide +kernel
theorem sN_as : ∀ i, i < 9 → ∀ c ∈ sN.getD i [], c < 128 := by decide +kernel
theorem kJ5_isLatin1 {l : Launch} {G : GX} {N : Nat} {S : Nat → va_E} {K : RK} {p : Nat} {cs : List Nat} (hB : isB G N S p cs) (hk : K (.inl (some (.int 1))) S) : RetK l G N mJ5_isLatin1 (0, 0, 0, 0) [.ref (ad G p)] S K := by
  refine ret_enter (by decide +kernel) (Nat.le_of_ble_eq_true rfl) (fun X hX h hm => ?_)
  subst hX
  replace h : OK X G N cJ5_isLatin1_aae02 RJ5 1 (0, 0, 0, 0) := h
  replace hm : OKm X G N K (some .boolean) (0, 0, 0, 0) := hm
  show AW X G 1 N 0 [(0, _)] [] S 0 0
  obtain ⟨b1, b2, b3, f, b4, b5, b6⟩ := hB
  refine r_getC (pc' := 3) h dJ5_isLatin1_0 rfl lJ5_18 ?_
  refine r_if_eq (tgt := 17) (pc' := 6) h dJ5_isLatin1_3 (by decide) rfl (fun c => absurd c (by decide)) (fun _ => ?_)
  refine r_aload_n (pc' := 7) h dJ5_isLatin1_6 rfl rfl ?_
  refine gJ5_22 (pc' := 10) h dJ5_isLatin1_7 rfl (show p < N by omega) b4 rfl ?_
  refine r_if_ne (tgt := 17) (pc' := 13) h dJ5_isLatin1_10 (by decide) rfl (fun c => absurd c (fun z => z rfl)) (fun _ => ?_)
  refine r_iconst (pc' := 14) (v := 1) h dJ5_isLatin1_13 rfl (by decide) ?_
  refine r_goto (tgt := 18) h dJ5_isLatin1_14 (by decide) ?_
  exact r_zreturn h hm dJ5_isLatin1_18 (Nat.le_of_ble_eq_true rfl) (Nat.le_of_ble_eq_true rfl) (by decide +kernel) hk
theorem kJ5_getValue {l : Launch} {G : GX} {N : Nat} {S : Nat → va_E} {K : RK} {p : Nat} {cs : List Nat} (hB : isB G N S p cs) (hk : K (.inl (some (.ref (ad G (p + 1))))) S) : RetK l G N mJ5_getValue (0, 0, 0, 0) [.ref (ad G p)] S K := by
  refine ret_enter (by decide +kernel) (Nat.le_of_ble_eq_true rfl) (fun X hX h hm => ?_)
  subst hX
  replace h : OK X G N cJ5_getValue_6d5f1 RJ5 1 (0, 0, 0, 0) := h
  replace hm : OKm X G N K (some (.array .byte)) (0, 0, 0, 0) := hm
  show AW X G 1 N 0 [(0, _)] [] S 0 0
  obtain ⟨b1, b2, b3, f, b4, b5, b6⟩ := hB
  refine r_aload_n (pc' := 1) h dJ5_getValue_0 rfl rfl ?_
  refine gJ5_15 (pc' := 4) h dJ5_getValue_1 rfl (show p < N by omega) b4 rfl ?_
  exact r_areturnA h hm dJ5_getValue_4 (Nat.le_of_ble_eq_true rfl) (Nat.le_of_ble_eq_true rfl) (Or.inr ⟨_, rfl⟩) hk
theorem kJ5_length {l : Launch} {G : GX} {N : Nat} {S : Nat → va_E} {K : RK} {p : Nat} {cs : List Nat} (hB : isB G N S p cs) (hk : K (.inl (some (.int (nI cs.length)))) S) : RetK l G N mJ5_length (0, 0, 0, 0) [.ref (ad G p)] S K := by
  refine ret_enter (by decide +kernel) (Nat.le_of_ble_eq_true rfl) (fun X hX h hm => ?_)
  subst hX
  replace h : OK X G N cJ5_length_8abf5 RJ5 1 (0, 0, 0, 0) := h
  replace hm : OKm X G N K (some .int) (0, 0, 0, 0) := hm
  show AW X G 1 N 0 [(0, _)] [] S 0 0
  obtain ⟨b1, b2, b3, f, b4, b5, b6⟩ := hB
  refine r_aload_n (pc' := 1) h dJ5_length_0 rfl rfl ?_
  refine gJ5_79 (pc' := 4) h dJ5_length_1 rfl (show p < N by omega) b4 rfl ?_
  exact r_ireturn h hm dJ5_length_4 (Nat.le_of_ble_eq_true rfl) (Nat.le_of_ble_eq_true rfl) hk
theorem kJ4_length {l : Launch} {G : GX} {N : Nat} {S : Nat → va_E} {K : RK} {p : Nat} {cs : List Nat} (hB : isB G N S p cs) (hk : K (.inl (some (.int (nI cs.length)))) S) : RetK l G N mJ4_length (1, 60, 0, 0) [.ref (ad G p)] S K := by
  refine ret_enter (by decide +kernel) (Nat.le_of_ble_eq_true rfl) (fun X hX h hm => ?_)
  subst hX
  replace h : OK X G N cJ4_length_8abf5 RJ4 1 (1, 60, 0, 0) := h
  replace hm : OKm X G N K (some .int) (1, 60, 0, 0) := hm
  show AW X G 1 N 0 [(0, _)] [] S 0 0
  refine r_aload_n (pc' := 1) h dJ4_length_0 rfl rfl ?_
  refine r_callSU (st := []) (As := []) (M := mJ5_length) (pc' := 4) h dJ4_length_1 rfl lJ4_343 vJ5_length rfl hB.l0 (show S p = _ from hB.2.2.2.choose_spec.1) rfl rfl (Nat.le_of_ble_eq_true rfl) (rrb rfl) (kJ5_length hB (K_int ?_))
  exact r_ireturn h hm dJ4_length_4 (Nat.le_of_ble_eq_true rfl) (Nat.le_of_ble_eq_true rfl) hk
theorem kJ5_ensure {l : Launch} {G : GX} {N : Nat} {S : Nat → va_E} {K : RK} {p : Nat} {cs : List Nat} (hB : isB G N S p cs) {m : Nat} (hm16 : m ≤ 16) (hk : K (.inl none) S) : RetK l G N mJ5_ensure (0, 0, 0, 0) [.ref (ad G p), .int (nI m)] S K := by
  refine ret_enter (by decide +kernel) (Nat.le_of_ble_eq_true rfl) (fun X hX h hm => ?_)
  subst hX
  replace h : OK X G N cJ5_ensureCapacityInternal_d00df RJ5 3 (0, 0, 0, 0) := h
  replace hm : OKm X G N K none (0, 0, 0, 0) := hm
  show AW X G 3 N 0 [(0, _), (1, _)] [] S 0 0
  obtain ⟨b1, b2, b3, f, b4, b5, b6⟩ := hB
  refine r_aload_n (pc' := 1) h dJ5_ensure_0 rfl rfl ?_
  refine gJ5_15 (pc' := 4) h dJ5_ensure_1 rfl (show p < N by omega) b4 rfl ?_
  refine r_alen (pc' := 5) (t := 2) h dJ5_ensure_4 rfl b1 b5 rfl ?_
  refine r_aload_n (pc' := 6) h dJ5_ensure_5 rfl rfl ?_
  refine gJ5_22 (pc' := 9) h dJ5_ensure_6 rfl (show p < N by omega) b4 rfl ?_
  refine r_ishr (pc' := 10) h dJ5_ensure_9 rfl ?_
  rw [shr_0]
  refine r_istoren (j := 2) (pc' := 11) h rfl dJ5_ensure_10 rfl (by decide) rfl ?_
  refine r_iload_n (pc' := 12) h dJ5_ensure_11 rfl rfl ?_
  refine r_iload_n (pc' := 13) h dJ5_ensure_12 rfl rfl ?_
  refine r_isub (pc' := 14) h dJ5_ensure_13 rfl ?_
  refine r_if_le (tgt := 38) (pc' := 17) h dJ5_ensure_14 (by decide) rfl (fun _ => ?_) (fun c => absurd (sub16 m hm16) c)
  exact r_return h hm dJ5_ensure_38 (Nat.le_of_ble_eq_true rfl) (Nat.le_of_ble_eq_true rfl) hk
theorem kJ6_stringSize {l : Launch} {G : GX} {N : Nat} {S : Nat → va_E} {K : RK} {v : Nat} (hv : v < 100) (hk : K (.inl (some (.int (nI (dgs' v))))) S) : RetK l G N mJ6_stringSize (0, 0, 0, 0) [.int (nI v)] S K := by
  refine ret_enter (by decide +kernel) (Nat.le_of_ble_eq_true rfl) (fun X hX h hm => ?_)
  subst hX
  replace h : OK X G N cJ6_stringSize_0f7a4 RJ6 4 (0, 0, 0, 0) := h
  replace hm : OKm X G N K (some .int) (0, 0, 0, 0) := hm
  show AW X G 4 N 0 [(0, _)] [] S 0 0
  refine r_iconst (pc' := 1) (v := 1) h dJ6_stringSize_0 rfl (by decide) ?_
  refine r_istoren (j := 1) (pc' := 2) h rfl dJ6_stringSize_1 rfl (by decide) rfl ?_
  refine r_iload_n (pc' := 3) h dJ6_stringSize_2 rfl rfl ?_
  refine r_if_lt (tgt := 11) (pc' := 6) h dJ6_stringSize_3 (by decide) rfl (fun c => absurd c (nI_pos (by omega))) (fun _ => ?_)
  refine r_iconst (pc' := 7) (v := 0) h dJ6_stringSize_6 rfl (by decide) ?_
  refine r_istoren (j := 1) (pc' := 8) h rfl dJ6_stringSize_7 rfl (by decide) rfl ?_
  refine r_iload_n (pc' := 9) h dJ6_stringSize_8 rfl rfl ?_
  refine r_ineg (pc' := 10) h dJ6_stringSize_9 rfl ?_
  refine r_istoren (j := 0) (pc' := 11) h rfl dJ6_stringSize_10 rfl (by decide) rfl ?_
  refine r_bipush (pc' := 13) (v := -10) h dJ6_stringSize_11 rfl (by decide) ?_
  refine r_istoren (j := 2) (pc' := 14) h rfl dJ6_stringSize_13 rfl (by decide) rfl ?_
  refine r_iconst (pc' := 15) (v := 1) h dJ6_stringSize_14 rfl (by decide) ?_
  refine r_istoren (j := 3) (pc' := 16) h rfl dJ6_stringSize_15 rfl (by decide) rfl ?_
  refine r_iload_n (pc' := 17) h dJ6_stringSize_16 rfl rfl ?_
  refine r_bipush (pc' := 19) (v := 10) h dJ6_stringSize_17 rfl (by decide) ?_
  refine r_icmp_ge (tgt := 42) (pc' := 22) h dJ6_stringSize_19 (by decide) rfl (fun c => absurd c (by decide)) (fun _ => ?_)
  refine r_iload_n (pc' := 23) h dJ6_stringSize_22 rfl rfl ?_
  refine r_iload_n (pc' := 24) h dJ6_stringSize_23 rfl rfl ?_
  refine r_icmp_le (tgt := 31) (pc' := 27) h dJ6_stringSize_24 (by decide) rfl (fun c => ?_) (fun c => ?_)
  · refine r_bipush (pc' := 33) (v := 10) h dJ6_stringSize_31 rfl (by decide) ?_
    refine r_iload_n (pc' := 34) h dJ6_stringSize_33 rfl rfl ?_
    refine r_imul (pc' := 35) h dJ6_stringSize_34 rfl ?_
    refine r_istoren (j := 2) (pc' := 36) h rfl dJ6_stringSize_35 rfl (by decide) rfl ?_
    refine r_iinc (pc' := 39) (v := 1) h dJ6_stringSize_36 rfl (by decide) (by decide) rfl rfl ?_
    refine r_goto (tgt := 16) h dJ6_stringSize_39 (by decide) ?_
    refine r_iload_n (pc' := 17) h dJ6_stringSize_16 rfl rfl ?_
    refine r_bipush (pc' := 19) (v := 10) h dJ6_stringSize_17 rfl (by decide) ?_
    refine r_icmp_ge (tgt := 42) (pc' := 22) h dJ6_stringSize_19 (by decide) rfl (fun c => absurd c (by decide)) (fun _ => ?_)
    refine r_iload_n (pc' := 23) h dJ6_stringSize_22 rfl rfl ?_
    refine r_iload_n (pc' := 24) h dJ6_stringSize_23 rfl rfl ?_
    refine r_icmp_le (tgt := 31) (pc' := 27) h dJ6_stringSize_24 (by decide) rfl (fun c => absurd c (ss_c v hv)) (fun _ => ?_)
    refine r_iload_n (pc' := 28) h dJ6_stringSize_27 rfl rfl ?_
    refine r_iload_n (pc' := 29) h dJ6_stringSize_28 rfl rfl ?_
    refine r_iadd (pc' := 30) h dJ6_stringSize_29 rfl ?_
    have hv2 : ¬ v < 10 := fun z => ss_a v z c
    exact r_ireturn h hm dJ6_stringSize_30 (Nat.le_of_ble_eq_true rfl) (Nat.le_of_ble_eq_true rfl) (kI hk (by unfold dgs'; rw [if_neg hv2]; decide))
  · refine r_iload_n (pc' := 28) h dJ6_stringSize_27 rfl rfl ?_
    refine r_iload_n (pc' := 29) h dJ6_stringSize_28 rfl rfl ?_
    refine r_iadd (pc' := 30) h dJ6_stringSize_29 rfl ?_
    have hv2 : v < 10 := (ss_b v hv).resolve_right c
    exact r_ireturn h hm dJ6_stringSize_30 (Nat.le_of_ble_eq_true rfl) (Nat.le_of_ble_eq_true rfl) (kI hk (by unfold dgs'; rw [if_pos hv2]; decide))
theorem kJ6_getChars1 {l : Launch} {G : GX} {N : Nat} {S : Nat → va_E} {K : RK} {v : Nat} (hv : v < 10) {k n : Nat} {f : Nat → Int32} (hk0 : k < N) (hc0 : S k = .inl (gJ G, 16, .inl f)) (hn : n + 1 ≤ 16) (hk : ∀ x, K (.inl (some (.int x))) (va_up S k (.inl (gJ G, 16, .inl (upd f n (nI (48 + v % 10))))))) : RetK l G N mJ6_getChars (0, 0, 0, 0) [.int (nI v), .int (nI (n + 1)), .ref (ad G k)] S K := by
  refine ret_enter (by decide +kernel) (Nat.le_of_ble_eq_true rfl) (fun X hX h hm => ?_)
  subst hX
  replace h : OK X G N cJ6_getChars_ba4f3 RJ6 7 (0, 0, 0, 0) := h
  replace hm : OKm X G N K (some .int) (0, 0, 0, 0) := hm
  show AW X G 7 N 0 [(0, _), (1, _), (2, _)] [] S 0 0
  refine r_iload_n (pc' := 1) h dJ6_getChars_0 rfl rfl ?_
  refine r_istore (pc' := 3) h dJ6_getChars_1 rfl (by decide) rfl ?_
  refine r_iload_n (pc' := 4) h dJ6_getChars_3 rfl rfl ?_
  refine r_if_ge (tgt := 11) (pc' := 7) h dJ6_getChars_4 (by decide) rfl (fun _ => ?_) (fun c => absurd (nI_pos' (by omega)) c)
  refine r_iconst (pc' := 12) (v := 0) h dJ6_getChars_11 rfl (by decide) ?_
  refine r_istore (pc' := 14) h dJ6_getChars_12 rfl (by decide) rfl ?_
  refine r_iload (pc' := 16) h dJ6_getChars_14 rfl rfl ?_
  refine r_if_ne (tgt := 22) (pc' := 19) h dJ6_getChars_16 (by decide) rfl (fun c => absurd c (fun z => z rfl)) (fun _ => ?_)
  refine r_iload_n (pc' := 20) h dJ6_getChars_19 rfl rfl ?_
  refine r_ineg (pc' := 21) h dJ6_getChars_20 rfl ?_
  refine r_istoren (j := 0) (pc' := 22) h rfl dJ6_getChars_21 rfl (by decide) rfl ?_
  refine r_iload_n (pc' := 23) h dJ6_getChars_22 rfl rfl ?_
  refine r_bipush (pc' := 25) (v := -100) h dJ6_getChars_23 rfl (by decide) ?_
  refine r_icmp_gt (tgt := 72) (pc' := 28) h dJ6_getChars_25 (by decide) rfl (fun _ => ?_) (fun c => absurd (gc_a v (by omega)) c)
  refine r_aload_n (pc' := 73) h dJ6_getChars_72 rfl rfl ?_
  refine r_iinc (pc' := 76) (v := -1) h dJ6_getChars_73 rfl (by decide) (by decide) rfl rfl ?_
  refine r_iload (pc' := 78) h dJ6_getChars_76 rfl rfl ?_
  rw [nI_m1]
  refine r_getD1 (pc' := 81) h dJ6_getChars_78 rfl lJ6_83 (fun t1 ht1 => ?_)
  refine r_iload_n (pc' := 82) h dJ6_getChars_81 rfl rfl ?_
  refine r_ineg (pc' := 83) h dJ6_getChars_82 rfl ?_
  rw [Int32.neg_neg]
  refine r_baldT (pc' := 84) h ht1 (vp_in_nI (show v < 100 by omega) (by decide)) dJ6_getChars_83 rfl ?_
  refine r_bast (pc' := 85) h dJ6_getChars_84 rfl hk0 hc0 (vp_in_nI (show n < 16 by omega) (by decide)) ?_
  rw [gc_1 v (by omega), nI_clamp (show n < 2 ^ 31 by omega)]
  refine r_iload_n (pc' := 86) h dJ6_getChars_85 rfl rfl ?_
  refine r_bipush (pc' := 88) (v := -9) h dJ6_getChars_86 rfl (by decide) ?_
  refine r_icmp_ge (tgt := 104) (pc' := 91) h dJ6_getChars_88 (by decide) rfl (fun _ => ?_) (fun c => absurd (gc_b v hv) c)
  refine r_iload (pc' := 106) h dJ6_getChars_104 rfl rfl ?_
  refine r_if_eq (tgt := 118) (pc' := 109) h dJ6_getChars_106 (by decide) rfl (fun _ => ?_) (fun c => absurd rfl c)
  refine r_iload (pc' := 120) h dJ6_getChars_118 rfl rfl ?_
  exact r_ireturn h hm dJ6_getChars_120 (Nat.le_of_ble_eq_true rfl) (Nat.le_of_ble_eq_true rfl) (hk _)
theorem kJ6_getChars2 {l : Launch} {G : GX} {N : Nat} {S : Nat → va_E} {K : RK} {v : Nat} (hv : v < 100) (hv2 : ¬ v < 10) {k n : Nat} {f : Nat → Int32} (hk0 : k < N) (hc0 : S k = .inl (gJ G, 16, .inl f)) (hn : n + 2 ≤ 16) (hk : ∀ x, K (.inl (some (.int x))) (va_up (va_up S k (.inl (gJ G, 16, .inl (upd f (n + 1) (nI (48 + v % 10)))))) k (.inl (gJ G, 16, .inl (upd (upd f (n + 1) (nI (48 + v % 10))) n (nI (48 + v / 10))))))) : RetK l G N mJ6_getChars (0, 0, 0, 0) [.int (nI v), .int (nI (n + 1 + 1)), .ref (ad G k)] S K := by
  refine ret_enter (by decide +kernel) (Nat.le_of_ble_eq_true rfl) (fun X hX h hm => ?_)
  subst hX
  replace h : OK X G N cJ6_getChars_ba4f3 RJ6 7 (0, 0, 0, 0) := h
  replace hm : OKm X G N K (some .int) (0, 0, 0, 0) := hm
  show AW X G 7 N 0 [(0, _), (1, _), (2, _)] [] S 0 0
  refine r_iload_n (pc' := 1) h dJ6_getChars_0 rfl rfl ?_
  refine r_istore (pc' := 3) h dJ6_getChars_1 rfl (by decide) rfl ?_
  refine r_iload_n (pc' := 4) h dJ6_getChars_3 rfl rfl ?_
  refine r_if_ge (tgt := 11) (pc' := 7) h dJ6_getChars_4 (by decide) rfl (fun _ => ?_) (fun c => absurd (nI_pos' (by omega)) c)
  refine r_iconst (pc' := 12) (v := 0) h dJ6_getChars_11 rfl (by decide) ?_
  refine r_istore (pc' := 14) h dJ6_getChars_12 rfl (by decide) rfl ?_
  refine r_iload (pc' := 16) h dJ6_getChars_14 rfl rfl ?_
  refine r_if_ne (tgt := 22) (pc' := 19) h dJ6_getChars_16 (by decide) rfl (fun c => absurd c (fun z => z rfl)) (fun _ => ?_)
  refine r_iload_n (pc' := 20) h dJ6_getChars_19 rfl rfl ?_
  refine r_ineg (pc' := 21) h dJ6_getChars_20 rfl ?_
  refine r_istoren (j := 0) (pc' := 22) h rfl dJ6_getChars_21 rfl (by decide) rfl ?_
  refine r_iload_n (pc' := 23) h dJ6_getChars_22 rfl rfl ?_
  refine r_bipush (pc' := 25) (v := -100) h dJ6_getChars_23 rfl (by decide) ?_
  refine r_icmp_gt (tgt := 72) (pc' := 28) h dJ6_getChars_25 (by decide) rfl (fun _ => ?_) (fun c => absurd (gc_a v (by omega)) c)
  refine r_aload_n (pc' := 73) h dJ6_getChars_72 rfl rfl ?_
  refine r_iinc (pc' := 76) (v := -1) h dJ6_getChars_73 rfl (by decide) (by decide) rfl rfl ?_
  refine r_iload (pc' := 78) h dJ6_getChars_76 rfl rfl ?_
  rw [nI_m1]
  refine r_getD1 (pc' := 81) h dJ6_getChars_78 rfl lJ6_83 (fun t1 ht1 => ?_)
  refine r_iload_n (pc' := 82) h dJ6_getChars_81 rfl rfl ?_
  refine r_ineg (pc' := 83) h dJ6_getChars_82 rfl ?_
  rw [Int32.neg_neg]
  refine r_baldT (pc' := 84) h ht1 (vp_in_nI (show v < 100 by omega) (by decide)) dJ6_getChars_83 rfl ?_
  refine r_bast (pc' := 85) h dJ6_getChars_84 rfl hk0 hc0 (vp_in_nI (show n + 1 < 16 by omega) (by decide)) ?_
  rw [gc_1 v (by omega), nI_clamp (show n + 1 < 2 ^ 31 by omega)]
  refine r_iload_n (pc' := 86) h dJ6_getChars_85 rfl rfl ?_
  refine r_bipush (pc' := 88) (v := -9) h dJ6_getChars_86 rfl (by decide) ?_
  refine r_icmp_ge (tgt := 104) (pc' := 91) h dJ6_getChars_88 (by decide) rfl (fun c => absurd c ((gc_c v hv).resolve_left hv2)) (fun _ => ?_)
  refine r_aload_n (pc' := 92) h dJ6_getChars_91 rfl rfl ?_
  refine r_iinc (pc' := 95) (v := -1) h dJ6_getChars_92 rfl (by decide) (by decide) rfl rfl ?_
  refine r_iload (pc' := 97) h dJ6_getChars_95 rfl rfl ?_
  rw [nI_m1]
  refine r_getDT (pc' := 100) h dJ6_getChars_97 rfl lJ6_87 (fun t2 ht2 => ?_)
  refine r_iload_n (pc' := 101) h dJ6_getChars_100 rfl rfl ?_
  refine r_ineg (pc' := 102) h dJ6_getChars_101 rfl ?_
  rw [Int32.neg_neg]
  refine r_baldT (pc' := 103) h ht2 (vp_in_nI (show v < 100 by omega) (by decide)) dJ6_getChars_102 rfl ?_
  refine r_bast (pc' := 104) h dJ6_getChars_103 rfl hk0 (up_at _ _ _) (vp_in_nI (show n < 16 by omega) (by decide)) ?_
  rw [gc_2 v (by omega), nI_clamp (show n < 2 ^ 31 by omega)]
  refine r_iload (pc' := 106) h dJ6_getChars_104 rfl rfl ?_
  refine r_if_eq (tgt := 118) (pc' := 109) h dJ6_getChars_106 (by decide) rfl (fun _ => ?_) (fun c => absurd rfl c)
  refine r_iload (pc' := 120) h dJ6_getChars_118 rfl rfl ?_
  exact r_ireturn h hm dJ6_getChars_120 (Nat.le_of_ble_eq_true rfl) (Nat.le_of_ble_eq_true rfl) (hk _)
theorem kJ5_appendI {l : Launch} {G : GX} {N : Nat} {S : Nat → va_E} {K : RK} {p : Nat} {cs : List Nat} (hB : isB G N S p cs) {v : Nat} (hv : v < 100) (hl : cs.length + dgs' v ≤ 16) (hk : ∀ S1, isB G N S1 p (cs ++ dec' v) → (∀ j, j ≠ p → j ≠ p + 1 → S1 j = S j) → K (.inl (some (.ref (ad G p)))) S1) : RetK l G N mJ5_appendI (1, 60, 0, 0) [.ref (ad G p), .int (nI v)] S K := by
  refine ret_enter (by decide +kernel) (Nat.le_of_ble_eq_true rfl) (fun X hX h hm => ?_)
  subst hX
  replace h : OK X G N cJ5_append_c97b9 RJ5 4 (1, 60, 0, 0) := h
  replace hm : OKm X G N K (some (.object "java/lang/AbstractStringBuilder")) (1, 60, 0, 0) := hm
  show AW X G 4 N 0 [(0, _), (1, _)] [] S 0 0
  have hB0 := hB
  obtain ⟨b1, b2, b3, f, b4, b5, b6⟩ := hB
  refine r_aload_n (pc' := 1) h dJ5_appendI_0 rfl rfl ?_
  refine gJ5_79 (pc' := 4) h dJ5_appendI_1 rfl (show p < N by omega) b4 rfl ?_
  refine r_istoren (j := 2) (pc' := 5) h rfl dJ5_appendI_4 rfl (by decide) rfl ?_
  refine r_iload_n (pc' := 6) h dJ5_appendI_5 rfl rfl ?_
  refine r_iload_n (pc' := 7) h dJ5_appendI_6 rfl rfl ?_
  refine r_callSK (st := [.int (nI cs.length)]) (As := [.int (nI v)]) (M := mJ6_stringSize) (pc' := 10) h dJ5_appendI_7 rfl lJ5_245 vJ6_stringSize rfl rfl (Nat.le_of_ble_eq_true rfl) (rrb rfl) (kJ6_stringSize hv (K_int ?_))
  refine r_iadd (pc' := 11) h dJ5_appendI_10 rfl ?_
  rw [nI_add]
  refine r_istoren (j := 3) (pc' := 12) h rfl dJ5_appendI_11 rfl (by decide) rfl ?_
  refine r_aload_n (pc' := 13) h dJ5_appendI_12 rfl rfl ?_
  refine r_iload_n (pc' := 14) h dJ5_appendI_13 rfl rfl ?_
  refine r_callVL (st := []) (As := [.int (nI (cs.length + dgs' v))]) (M := mJ5_ensure) (pc' := 17) h dJ5_appendI_14 rfl lJ5_100 vJ5_ensure rfl (show p < N by omega) b4 rfl rfl (Nat.le_of_ble_eq_true rfl) (rrb rfl) (kJ5_ensure hB0 hl (K_nil ?_))
  refine r_aload_n (pc' := 18) h dJ5_appendI_17 rfl rfl ?_
  refine r_callVL (st := []) (As := []) (M := mJ5_isLatin1) (pc' := 21) h dJ5_appendI_18 rfl lJ5_83 vJ5_isLatin1 rfl (show p < N by omega) b4 rfl rfl (Nat.le_of_ble_eq_true rfl) (rrb rfl) (kJ5_isLatin1 hB0 (K_int ?_))
  refine r_if_eq (tgt := 37) (pc' := 24) h dJ5_appendI_21 (by decide) rfl (fun c => absurd c (by decide)) (fun _ => ?_)
  refine r_iload_n (pc' := 25) h dJ5_appendI_24 rfl rfl ?_
  refine r_iload_n (pc' := 26) h dJ5_appendI_25 rfl rfl ?_
  refine r_aload_n (pc' := 27) h dJ5_appendI_26 rfl rfl ?_
  refine gJ5_15 (pc' := 30) h dJ5_appendI_27 rfl (show p < N by omega) b4 rfl ?_
  by_cases hv2 : v < 10
  · have e1 : dgs' v = 1 := if_pos hv2
    have e2 : dec' v = [48 + v] := if_pos hv2
    rw [e1] at hl ⊢
    refine r_callSK (st := []) (As := [.int (nI v), .int (nI (cs.length + 1)), .ref (ad G (p + 1))]) (M := mJ6_getChars) (pc' := 33) h dJ5_appendI_30 rfl lJ5_248 vJ6_getChars rfl rfl (Nat.le_of_ble_eq_true rfl) (rrb rfl) (kJ6_getChars1 hv2 b1 b5 hl (fun x => K_int ?_))
    refine r_pop (pc' := 34) h dJ5_appendI_33 rfl rfl ?_
    refine r_goto (tgt := 48) h dJ5_appendI_34 (by decide) ?_
    refine r_aload_n (pc' := 49) h dJ5_appendI_48 rfl rfl ?_
    refine r_iload_n (pc' := 50) h dJ5_appendI_49 rfl rfl ?_
    refine pJ5_79 (pc' := 53) h dJ5_appendI_50 rfl (show p < N by omega) (show (va_up S (p + 1) (.inl (gJ G, 16, .inl (upd f cs.length (nI (48 + v % 10)))))) p = _ from (up_ne _ _ (by omega)).trans b4) (Nat.le_of_ble_eq_true rfl) ?_
    refine r_aload_n (pc' := 54) h dJ5_appendI_53 rfl rfl ?_
    refine r_areturn h hm dJ5_appendI_54 (Nat.le_of_ble_eq_true rfl) (Nat.le_of_ble_eq_true rfl) (Or.inr ⟨_, rfl⟩) (hk _ ?_ (fun j j1 j2 => ?_))
    · rw [e2]
      refine ⟨b1, by rw [List.length_append]; exact hl, asc_app b3 (by rw [← e2]; exact dec_asc hv), _, by rw [up_at, List.length_append]; rfl, by rw [up_ne _ _ (by omega), up_at], ?_⟩
      rw [show v % 10 = v by omega]
      exact bys_1 b6 (48 + v)
    · rw [up_ne _ _ j1, up_ne _ _ j2]
  · have e1 : dgs' v = 2 := if_neg hv2
    have e2 : dec' v = [48 + v / 10, 48 + v % 10] := if_neg hv2
    rw [e1] at hl ⊢
    refine r_callSK (st := []) (As := [.int (nI v), .int (nI (cs.length + 1 + 1)), .ref (ad G (p + 1))]) (M := mJ6_getChars) (pc' := 33) h dJ5_appendI_30 rfl lJ5_248 vJ6_getChars rfl rfl (Nat.le_of_ble_eq_true rfl) (rrb rfl) (kJ6_getChars2 hv hv2 b1 b5 hl (fun x => K_int ?_))
    refine r_pop (pc' := 34) h dJ5_appendI_33 rfl rfl ?_
    refine r_goto (tgt := 48) h dJ5_appendI_34 (by decide) ?_
    refine r_aload_n (pc' := 49) h dJ5_appendI_48 rfl rfl ?_
    refine r_iload_n (pc' := 50) h dJ5_appendI_49 rfl rfl ?_
    refine pJ5_79 (pc' := 53) h dJ5_appendI_50 rfl (show p < N by omega) (show (va_up (va_up S (p + 1) _) (p + 1) _) p = _ from (up_ne _ _ (by omega)).trans ((up_ne _ _ (by omega)).trans b4)) (Nat.le_of_ble_eq_true rfl) ?_
    refine r_aload_n (pc' := 54) h dJ5_appendI_53 rfl rfl ?_
    refine r_areturn h hm dJ5_appendI_54 (Nat.le_of_ble_eq_true rfl) (Nat.le_of_ble_eq_true rfl) (Or.inr ⟨_, rfl⟩) (hk _ ?_ (fun j j1 j2 => ?_))
    · rw [e2]
      refine ⟨b1, by rw [List.length_append]; exact hl, asc_app b3 (by rw [← e2]; exact dec_asc hv), _, by rw [up_at, List.length_append]; rfl, by rw [up_ne _ _ (by omega), up_at], ?_⟩
      exact bys_2 b6 _ _
    · rw [up_ne _ _ j1, up_ne _ _ j2, up_ne _ _ j2]
theorem kJ4_appendI {l : Launch} {G : GX} {N : Nat} {S : Nat → va_E} {K : RK} {p : Nat} {cs : List Nat} (hB : isB G N S p cs) {v : Nat} (hv : v < 100) (hl : cs.length + dgs' v ≤ 16) (hk : ∀ S1, isB G N S1 p (cs ++ dec' v) → (∀ j, j ≠ p → j ≠ p + 1 → S1 j = S j) → K (.inl (some (.ref (ad G p)))) S1) : RetK l G N mJ4_appendI (2, 120, 0, 0) [.ref (ad G p), .int (nI v)] S K := by
  refine ret_enter (by decide +kernel) (Nat.le_of_ble_eq_true rfl) (fun X hX h hm => ?_)
  subst hX
  replace h : OK X G N cJ4_append_bf812 RJ4 2 (2, 120, 0, 0) := h
  replace hm : OKm X G N K (some (.object "java/lang/StringBuilder")) (2, 120, 0, 0) := hm
  show AW X G 2 N 0 [(0, _), (1, _)] [] S 0 0
  refine r_aload_n (pc' := 1) h dJ4_appendI_0 rfl rfl ?_
  refine r_iload_n (pc' := 2) h dJ4_appendI_1 rfl rfl ?_
  refine r_callSU (st := []) (As := [.int (nI v)]) (M := mJ5_appendI) (pc' := 5) h dJ4_appendI_2 rfl lJ4_53 vJ5_appendI rfl hB.l0 (show S p = _ from hB.2.2.2.choose_spec.1) rfl rfl (Nat.le_of_ble_eq_true rfl) (rrb rfl) (kJ5_appendI hB hv hl (fun S1 h1 h2 => K_int ?_))
  refine r_pop (pc' := 6) h dJ4_appendI_5 rfl rfl ?_
  refine r_aload_n (pc' := 7) h dJ4_appendI_6 rfl rfl ?_
  exact r_areturn h hm dJ4_appendI_7 (Nat.le_of_ble_eq_true rfl) (Nat.le_of_ble_eq_true rfl) (Or.inr ⟨_, rfl⟩) (hk S1 h1 h2)
theorem kJ0_coderW {l : Launch} {G : GX} {N : Nat} {S : Nat → va_E} {K : RK} {q : Nat} {ds : List Nat} (hS : isS G N S q ds) (hk : K (.inl (some (.int 0))) S) : RetK l G N mJ0_coder (0, 0, 0, 0) [.ref (ad G q)] S K := by
  refine ret_enter (by decide +kernel) (Nat.le_of_ble_eq_true rfl) (fun X hX h hm => ?_)
  subst hX
  replace h : OK X G N cJ0_coder_7d493 RJ0 1 (0, 0, 0, 0) := h
  replace hm : OKm X G N K (some .byte) (0, 0, 0, 0) := hm
  show AW X G 1 N 0 [(0, _)] [] S 0 0
  obtain ⟨s1, s2, s3, g, s4, s5, s6⟩ := hS
  refine r_getC (pc' := 3) h dJ0_coder_0 rfl lJ0_38 ?_
  refine r_if_eq (tgt := 13) (pc' := 6) h dJ0_coder_3 (by decide) rfl (fun c => absurd c (by decide)) (fun _ => ?_)
  refine r_aload_n (pc' := 7) h dJ0_coder_6 rfl rfl ?_
  refine gJ0_15 (pc' := 10) h dJ0_coder_7 rfl (show q < N by omega) s4 rfl ?_
  refine r_goto (tgt := 14) h dJ0_coder_10 (by decide) ?_
  exact r_zreturn h hm dJ0_coder_14 (Nat.le_of_ble_eq_true rfl) (Nat.le_of_ble_eq_true rfl) (by decide +kernel) hk
theorem kJ0_isLatin1W {l : Launch} {G : GX} {N : Nat} {S : Nat → va_E} {K : RK} {q : Nat} {ds : List Nat} (hS : isS G N S q ds) (hk : K (.inl (some (.int 1))) S) : RetK l G N mJ0_isLatin1 (0, 0, 0, 0) [.ref (ad G q)] S K := by
  refine ret_enter (by decide +kernel) (Nat.le_of_ble_eq_true rfl) (fun X hX h hm => ?_)
  subst hX
  replace h : OK X G N cJ0_isLatin1_aae02 RJ0 1 (0, 0, 0, 0) := h
  replace hm : OKm X G N K (some .boolean) (0, 0, 0, 0) := hm
  show AW X G 1 N 0 [(0, _)] [] S 0 0
  obtain ⟨s1, s2, s3, g, s4, s5, s6⟩ := hS
  refine r_getC (pc' := 3) h dJ0_isLatin1_0 rfl lJ0_38 ?_
  refine r_if_eq (tgt := 17) (pc' := 6) h dJ0_isLatin1_3 (by decide) rfl (fun c => absurd c (by decide)) (fun _ => ?_)
  refine r_aload_n (pc' := 7) h dJ0_isLatin1_6 rfl rfl ?_
  refine gJ0_15 (pc' := 10) h dJ0_isLatin1_7 rfl (show q < N by omega) s4 rfl ?_
  refine r_if_ne (tgt := 17) (pc' := 13) h dJ0_isLatin1_10 (by decide) rfl (fun c => absurd c (fun z => z rfl)) (fun _ => ?_)
  refine r_iconst (pc' := 14) (v := 1) h dJ0_isLatin1_13 rfl (by decide) ?_
  refine r_goto (tgt := 18) h dJ0_isLatin1_14 (by decide) ?_
  exact r_zreturn h hm dJ0_isLatin1_18 (Nat.le_of_ble_eq_true rfl) (Nat.le_of_ble_eq_true rfl) (by decide +kernel) hk
theorem kJ0_lengthW {l : Launch} {G : GX} {N : Nat} {S : Nat → va_E} {K : RK} {q : Nat} {ds : List Nat} (hS : isS G N S q ds) (hk : K (.inl (some (.int (nI ds.length)))) S) : RetK l G N mJ0_length (1, 20, 0, 0) [.ref (ad G q)] S K := by
  refine ret_enter (by decide +kernel) (Nat.le_of_ble_eq_true rfl) (fun X hX h hm => ?_)
  subst hX
  replace h : OK X G N cJ0_length_8abf5 RJ0 1 (1, 20, 0, 0) := h
  replace hm : OKm X G N K (some .int) (1, 20, 0, 0) := hm
  show AW X G 1 N 0 [(0, _)] [] S 0 0
  have hS0 := hS
  obtain ⟨s1, s2, s3, g, s4, s5, s6⟩ := hS
  refine r_aload_n (pc' := 1) h dJ0_length_0 rfl rfl ?_
  refine gJ0_9 (pc' := 4) h dJ0_length_1 rfl (show q < N by omega) s4 rfl ?_
  refine r_alen (pc' := 5) (t := 2) h dJ0_length_4 rfl s1 s5 rfl ?_
  refine r_aload_n (pc' := 6) h dJ0_length_5 rfl rfl ?_
  refine r_callVL (st := [.int (nI ds.length)]) (As := []) (M := mJ0_coder) (pc' := 9) h dJ0_length_6 rfl lJ0_335 vJ0_coder rfl (show q < N by omega) s4 rfl rfl (Nat.le_of_ble_eq_true rfl) (rrb rfl) (kJ0_coderW hS0 (K_int ?_))
  refine r_ishr (pc' := 10) h dJ0_length_9 rfl ?_
  rw [shr_0]
  exact r_ireturn h hm dJ0_length_10 (Nat.le_of_ble_eq_true rfl) (Nat.le_of_ble_eq_true rfl) hk
theorem kJ1_charAtW {l : Launch} {G : GX} {N : Nat} {S : Nat → va_E} {K : RK} {q : Nat} {ds : List Nat} (hS : isS G N S q ds) {j : Nat} (hj : j < ds.length) (hk : K (.inl (some (.int (nI (ds.getD j 0))))) S) : RetK l G N mJ1_charAt (2, 43, 0, 0) [.ref (ad G (q + 1)), .int (nI j)] S K := by
  refine ret_enter (by decide +kernel) (Nat.le_of_ble_eq_true rfl) (fun X hX h hm => ?_)
  subst hX
  replace h : OK X G N cJ1_charAt_3b067 RJ1 2 (2, 43, 0, 0) := h
  replace hm : OKm X G N K (some .char) (2, 43, 0, 0) := hm
  show AW X G 2 N 0 [(0, _), (1, _)] [] S 0 0
  obtain ⟨s1, s2, s3, g, s4, s5, s6⟩ := hS
  refine r_iload_n (pc' := 1) h dJ1_charAt_0 rfl rfl ?_
  refine r_aload_n (pc' := 2) h dJ1_charAt_1 rfl rfl ?_
  refine r_alen (pc' := 3) (t := 2) h dJ1_charAt_2 rfl s1 s5 rfl ?_
  refine r_callSK (st := []) (As := [.int (nI j), .int (nI ds.length)]) (M := mJ0_checkIndex) (pc' := 6) h dJ1_charAt_3 rfl lJ1_9 vJ0_checkIndex rfl rfl (Nat.le_of_ble_eq_true rfl) (rrb rfl) (kJ0_checkIndex (nI_pos (by omega)) (nI_lt hj (by omega)) (K_nil ?_))
  refine r_aload_n (pc' := 7) h dJ1_charAt_6 rfl rfl ?_
  refine r_iload_n (pc' := 8) h dJ1_charAt_7 rfl rfl ?_
  refine r_bald (pc' := 9) h dJ1_charAt_8 rfl s1 s5 (vp_in_nI hj (by omega)) ?_
  refine r_sipush (pc' := 12) (v := 255) h dJ1_charAt_9 rfl (by decide) ?_
  refine r_iand (pc' := 13) h dJ1_charAt_12 rfl ?_
  refine r_i2c (pc' := 14) h dJ1_charAt_13 rfl ?_
  rw [nI_clamp (show j < 2 ^ 31 by omega), s6 j hj]
  refine r_zreturn h hm dJ1_charAt_14 (Nat.le_of_ble_eq_true rfl) (Nat.le_of_ble_eq_true rfl) (isCh_chr _).1 ?_
  exact kI hk (byt_c _ (s3.at hj))
theorem kJ0_charAtW {l : Launch} {G : GX} {N : Nat} {S : Nat → va_E} {K : RK} {q : Nat} {ds : List Nat} (hS : isS G N S q ds) {j : Nat} (hj : j < ds.length) (hk : K (.inl (some (.int (nI (ds.getD j 0))))) S) : RetK l G N mJ0_charAt (3, 64, 0, 0) [.ref (ad G q), .int (nI j)] S K := by
  refine ret_enter (by decide +kernel) (Nat.le_of_ble_eq_true rfl) (fun X hX h hm => ?_)
  subst hX
  replace h : OK X G N cJ0_charAt_5068e RJ0 2 (3, 64, 0, 0) := h
  replace hm : OKm X G N K (some .char) (3, 64, 0, 0) := hm
  show AW X G 2 N 0 [(0, _), (1, _)] [] S 0 0
  have hS0 := hS
  obtain ⟨s1, s2, s3, g, s4, s5, s6⟩ := hS
  refine r_aload_n (pc' := 1) h dJ0_charAt_0 rfl rfl ?_
  refine r_callVL (st := []) (As := []) (M := mJ0_isLatin1) (pc' := 4) h dJ0_charAt_1 rfl lJ0_492 vJ0_isLatin1 rfl (show q < N by omega) s4 rfl rfl (Nat.le_of_ble_eq_true rfl) (rrb rfl) (kJ0_isLatin1W hS0 (K_int ?_))
  refine r_if_eq (tgt := 16) (pc' := 7) h dJ0_charAt_4 (by decide) rfl (fun c => absurd c (by decide)) (fun _ => ?_)
  refine r_aload_n (pc' := 8) h dJ0_charAt_7 rfl rfl ?_
  refine gJ0_9 (pc' := 11) h dJ0_charAt_8 rfl (show q < N by omega) s4 rfl ?_
  refine r_iload_n (pc' := 12) h dJ0_charAt_11 rfl rfl ?_
  refine r_callSK (st := []) (As := [.ref (ad G (q + 1)), .int (nI j)]) (M := mJ1_charAt) (pc' := 15) h dJ0_charAt_12 rfl lJ0_495 vJ1_charAt rfl rfl (Nat.le_of_ble_eq_true rfl) (rrb rfl) (kJ1_charAtW hS0 hj (K_int ?_))
  refine r_zreturn h hm dJ0_charAt_15 (Nat.le_of_ble_eq_true rfl) (Nat.le_of_ble_eq_true rfl) ?_ hk
  have e := (isCh_chr (nI (ds.getD j 0) &&& 255)).1
  rw [byt_c _ (s3.at hj)] at e
  exact e
theorem kJ0_getBytesK {l : Launch} {G : GX} {N : Nat} {S : Nat → va_E} {K : RK} {i : Nat} (hi : i < 9) {k n : Nat} {f : Nat → Int32} (hk0 : k < N) (hc0 : S k = .inl (gJ G, 16, .inl f)) (hn : n + sLn i ≤ 16) (hk : ∀ fs : Nat → Int32, bys fs (sN.getD i []) → K (.inl none) (va_up S k (.inl (gJ G, 16, .inl (va_cpy fs f 0 n (sLn i)))))) : RetK l G N mJ0_getBytes (1, 60, 0, 0) [.ref (gK G i), .ref (ad G k), .int (nI n), .int 0] S K := by
  refine ret_enter (by decide +kernel) (Nat.le_of_ble_eq_true rfl) (fun X hX h hm => ?_)
  subst hX
  replace h : OK X G N cJ0_getBytes_840e7 RJ0 4 (1, 60, 0, 0) := h
  replace hm : OKm X G N K none (1, 60, 0, 0) := hm
  show AW X G 4 N 0 [(0, _), (1, _), (2, _), (3, _)] [] S 0 0
  refine r_aload_n (pc' := 1) h dJ0_getBytes_0 rfl rfl ?_
  refine r_callKL (st := []) (As := []) (M := mJ0_coder) (pc' := 4) h dJ0_getBytes_1 rfl lJ0_335 vJ0_coder hi rfl rfl (Nat.le_of_ble_eq_true rfl) (rrb rfl) (kJ0_coder hi (K_int ?_))
  refine r_iload_n (pc' := 5) h dJ0_getBytes_4 rfl rfl ?_
  refine r_icmp_ne (tgt := 28) (pc' := 8) h dJ0_getBytes_5 (by decide) rfl (fun c => absurd c (fun z => z rfl)) (fun _ => ?_)
  refine r_aload_n (pc' := 9) h dJ0_getBytes_8 rfl rfl ?_
  refine r_getK (pc' := 12) h dJ0_getBytes_9 rfl (h.sf.kS.1 i hi).2.2.1 lJ0_9 ?_
  refine r_iconst (pc' := 13) (v := 0) h dJ0_getBytes_12 rfl (by decide) ?_
  refine r_aload_n (pc' := 14) h dJ0_getBytes_13 rfl rfl ?_
  refine r_iload_n (pc' := 15) h dJ0_getBytes_14 rfl rfl ?_
  refine r_iload_n (pc' := 16) h dJ0_getBytes_15 rfl rfl ?_
  refine r_ishl (pc' := 17) h dJ0_getBytes_16 rfl ?_
  rw [shl_0]
  refine r_aload_n (pc' := 18) h dJ0_getBytes_17 rfl rfl ?_
  refine r_getK (pc' := 21) h dJ0_getBytes_18 rfl (h.sf.kS.1 i hi).2.2.1 lJ0_9 ?_
  refine r_alenK (pc' := 22) h hi dJ0_getBytes_21 rfl ?_
  have hz := sLn_le i hi
  have e0 : (0 : Int32).toNatClampNeg = 0 := by decide
  have e1 : (nI n).toNatClampNeg = n := nI_clamp (by omega)
  have e2 : (nI (lenS.getD i 0)).toNatClampNeg = sLn i := nI_clamp (show sLn i < 2 ^ 31 by omega)
  refine r_copyK (pc' := 25) h hi dJ0_getBytes_22 rfl lJ0_212 hk0 hc0 (by decide) (nI_pos (by omega)) (nI_pos (show sLn i < 2 ^ 31 by omega)) (by rw [e0, e2]; exact Nat.le_of_eq (Nat.zero_add _)) (by rw [e1, e2]; exact hn) (fun j hj => by rw [e2] at hj; rw [e0, Nat.zero_add]; exact sb_k i hi j (by omega)) (by decide) ?_
  rw [e0, e1, e2]
  refine r_goto (tgt := 43) h dJ0_getBytes_25 (by decide) ?_
  exact r_return h hm dJ0_getBytes_43 (Nat.le_of_ble_eq_true rfl) (Nat.le_of_ble_eq_true rfl) (hk _ (fun j hj => sN_by i hi j (by rw [← sN_len i hi]; exact hj)))
theorem kJ5_inflK {l : Launch} {G : GX} {N : Nat} {S : Nat → va_E} {K : RK} {p : Nat} {cs : List Nat} (hB : isB G N S p cs) {i : Nat} (hi : i < 9) (hk : K (.inl none) S) : RetK l G N mJ5_infl (1, 60, 0, 0) [.ref (ad G p), .ref (gK G i)] S K := by
  refine ret_enter (by decide +kernel) (Nat.le_of_ble_eq_true rfl) (fun X hX h hm => ?_)
  subst hX
  replace h : OK X G N cJ5_inflateIfNeededFor_a7421 RJ5 2 (1, 60, 0, 0) := h
  replace hm : OKm X G N K none (1, 60, 0, 0) := hm
  show AW X G 2 N 0 [(0, _), (1, _)] [] S 0 0
  obtain ⟨b1, b2, b3, f, b4, b5, b6⟩ := hB
  refine r_getC (pc' := 3) h dJ5_infl_0 rfl lJ5_18 ?_
  refine r_if_eq (tgt := 21) (pc' := 6) h dJ5_infl_3 (by decide) rfl (fun c => absurd c (by decide)) (fun _ => ?_)
  refine r_aload_n (pc' := 7) h dJ5_infl_6 rfl rfl ?_
  refine gJ5_22 (pc' := 10) h dJ5_infl_7 rfl (show p < N by omega) b4 rfl ?_
  refine r_aload_n (pc' := 11) h dJ5_infl_10 rfl rfl ?_
  refine r_callKL (st := [.int 0]) (As := []) (M := mJ0_coder) (pc' := 14) h dJ5_infl_11 rfl lJ5_40 vJ0_coder hi rfl rfl (Nat.le_of_ble_eq_true rfl) (rrb rfl) (kJ0_coder hi (K_int ?_))
  refine r_icmp_eq (tgt := 21) (pc' := 17) h dJ5_infl_14 (by decide) rfl (fun _ => ?_) (fun c => absurd rfl c)
  exact r_return h hm dJ5_infl_21 (Nat.le_of_ble_eq_true rfl) (Nat.le_of_ble_eq_true rfl) hk
theorem kJ5_putK {l : Launch} {G : GX} {N : Nat} {S : Nat → va_E} {K : RK} {p : Nat} {cs : List Nat} (hB : isB G N S p cs) {i : Nat} (hi : i < 9) (hn : cs.length + sLn i ≤ 16) (hk : ∀ S1 f1, S1 p = S p → S1 (p + 1) = .inl (gJ G, 16, .inl f1) → bys f1 (cs ++ (sN.getD i [])) → (∀ j, j ≠ p + 1 → S1 j = S j) → K (.inl none) S1) : RetK l G N mJ5_put (2, 120, 0, 0) [.ref (ad G p), .int (nI cs.length), .ref (gK G i)] S K := by
  refine ret_enter (by decide +kernel) (Nat.le_of_ble_eq_true rfl) (fun X hX h hm => ?_)
  subst hX
  replace h : OK X G N cJ5_putStringAt_47b60 RJ5 3 (2, 120, 0, 0) := h
  replace hm : OKm X G N K none (2, 120, 0, 0) := hm
  show AW X G 3 N 0 [(0, _), (1, _), (2, _)] [] S 0 0
  have hB0 := hB
  obtain ⟨b1, b2, b3, f, b4, b5, b6⟩ := hB
  refine r_aload_n (pc' := 1) h dJ5_put_0 rfl rfl ?_
  refine r_aload_n (pc' := 2) h dJ5_put_1 rfl rfl ?_
  refine r_callVL (st := []) (As := [.ref (gK G i)]) (M := mJ5_infl) (pc' := 5) h dJ5_put_2 rfl lJ5_397 vJ5_infl rfl (show p < N by omega) b4 rfl rfl (Nat.le_of_ble_eq_true rfl) (rrb rfl) (kJ5_inflK hB0 hi (K_nil ?_))
  refine r_aload_n (pc' := 6) h dJ5_put_5 rfl rfl ?_
  refine r_aload_n (pc' := 7) h dJ5_put_6 rfl rfl ?_
  refine gJ5_15 (pc' := 10) h dJ5_put_7 rfl (show p < N by omega) b4 rfl ?_
  refine r_iload_n (pc' := 11) h dJ5_put_10 rfl rfl ?_
  refine r_aload_n (pc' := 12) h dJ5_put_11 rfl rfl ?_
  refine gJ5_22 (pc' := 15) h dJ5_put_12 rfl (show p < N by omega) b4 rfl ?_
  refine r_callKL (st := []) (As := [.ref (ad G (p + 1)), .int (nI cs.length), .int 0]) (M := mJ0_getBytes) (pc' := 18) h dJ5_put_15 rfl lJ5_399 vJ0_getBytes hi rfl rfl (Nat.le_of_ble_eq_true rfl) (rrb rfl) (kJ0_getBytesK hi b1 b5 hn (fun fs hfs => K_nil ?_))
  refine r_return h hm dJ5_put_18 (Nat.le_of_ble_eq_true rfl) (Nat.le_of_ble_eq_true rfl) (hk _ _ (up_ne _ _ (by omega)) (up_at _ _ _) ?_ (fun j hj => up_ne _ _ hj))
  rw [← sN_len i hi]
  exact bys_cp b6 hfs
theorem kJ5_appendSK {l : Launch} {G : GX} {N : Nat} {S : Nat → va_E} {K : RK} {p : Nat} {cs : List Nat} (hB : isB G N S p cs) {i : Nat} (hi : i < 9) (hn : cs.length + sLn i ≤ 16) (hk : ∀ S1, isB G N S1 p (cs ++ (sN.getD i [])) → (∀ j, j ≠ p → j ≠ p + 1 → S1 j = S j) → K (.inl (some (.ref (ad G p)))) S1) : RetK l G N mJ5_appendS (3, 180, 0, 0) [.ref (ad G p), .ref (gK G i)] S K := by
  refine ret_enter (by decide +kernel) (Nat.le_of_ble_eq_true rfl) (fun X hX h hm => ?_)
  subst hX
  replace h : OK X G N cJ5_append_cf1ce RJ5 3 (3, 180, 0, 0) := h
  replace hm : OKm X G N K (some (.object "java/lang/AbstractStringBuilder")) (3, 180, 0, 0) := hm
  show AW X G 3 N 0 [(0, _), (1, _)] [] S 0 0
  have hB0 := hB
  obtain ⟨b1, b2, b3, f, b4, b5, b6⟩ := hB
  refine r_aload_n (pc' := 1) h dJ5_appendS_0 rfl rfl ?_
  refine r_ifnonnull (tgt := 9) h dJ5_appendS_1 (by decide) ?_
  refine r_aload_n (pc' := 10) h dJ5_appendS_9 rfl rfl ?_
  refine r_callKL (st := []) (As := []) (M := mJ0_length) (pc' := 13) h dJ5_appendS_10 rfl lJ5_32 vJ0_length hi rfl rfl (Nat.le_of_ble_eq_true rfl) (rrb rfl) (kJ0_length hi (K_int ?_))
  refine r_istoren (j := 2) (pc' := 14) h rfl dJ5_appendS_13 rfl (by decide) rfl ?_
  refine r_aload_n (pc' := 15) h dJ5_appendS_14 rfl rfl ?_
  refine r_aload_n (pc' := 16) h dJ5_appendS_15 rfl rfl ?_
  refine gJ5_79 (pc' := 19) h dJ5_appendS_16 rfl (show p < N by omega) b4 rfl ?_
  refine r_iload_n (pc' := 20) h dJ5_appendS_19 rfl rfl ?_
  refine r_iadd (pc' := 21) h dJ5_appendS_20 rfl ?_
  rw [nI_add]
  refine r_callVL (st := []) (As := [.int (nI (cs.length + sLn i))]) (M := mJ5_ensure) (pc' := 24) h dJ5_appendS_21 rfl lJ5_100 vJ5_ensure rfl (show p < N by omega) b4 rfl rfl (Nat.le_of_ble_eq_true rfl) (rrb rfl) (kJ5_ensure hB0 hn (K_nil ?_))
  refine r_aload_n (pc' := 25) h dJ5_appendS_24 rfl rfl ?_
  refine r_aload_n (pc' := 26) h dJ5_appendS_25 rfl rfl ?_
  refine gJ5_79 (pc' := 29) h dJ5_appendS_26 rfl (show p < N by omega) b4 rfl ?_
  refine r_aload_n (pc' := 30) h dJ5_appendS_29 rfl rfl ?_
  refine r_callVL (st := []) (As := [.int (nI cs.length), .ref (gK G i)]) (M := mJ5_put) (pc' := 33) h dJ5_appendS_30 rfl lJ5_208 vJ5_put rfl (show p < N by omega) b4 rfl rfl (Nat.le_of_ble_eq_true rfl) (rrb rfl) (kJ5_putK hB0 hi hn (fun S1 f1 e1 e2 e3 e4 => K_nil ?_))
  refine r_aload_n (pc' := 34) h dJ5_appendS_33 rfl rfl ?_
  refine r_dup (pc' := 35) h dJ5_appendS_34 rfl rfl ?_
  refine gJ5_79 (pc' := 38) h dJ5_appendS_35 rfl (show p < N by omega) (e1.trans b4) rfl ?_
  refine r_iload_n (pc' := 39) h dJ5_appendS_38 rfl rfl ?_
  refine r_iadd (pc' := 40) h dJ5_appendS_39 rfl ?_
  rw [nI_add]
  refine pJ5_79 (pc' := 43) h dJ5_appendS_40 rfl (show p < N by omega) (e1.trans b4) (Nat.le_of_ble_eq_true rfl) ?_
  refine r_aload_n (pc' := 44) h dJ5_appendS_43 rfl rfl ?_
  refine r_areturn h hm dJ5_appendS_44 (Nat.le_of_ble_eq_true rfl) (Nat.le_of_ble_eq_true rfl) (Or.inr ⟨_, rfl⟩) (hk _ ⟨b1, ?_, ?_, f1, ?_, ?_, e3⟩ (fun j j1 j2 => ?_))
  · rw [List.length_append, sN_len i hi]
    exact hn
  · exact asc_app b3 (sN_as i hi)
  · rw [up_at, List.length_append, sN_len i hi]
    rfl
  · rw [up_ne _ _ (by omega)]
    exact e2
  · rw [up_ne _ _ j1]
    exact e4 j j2
theorem kJ4_appendSK {l : Launch} {G : GX} {N : Nat} {S : Nat → va_E} {K : RK} {p : Nat} {cs : List Nat} (hB : isB G N S p cs) {i : Nat} (hi : i < 9) (hn : cs.length + sLn i ≤ 16) (hk : ∀ S1, isB G N S1 p (cs ++ (sN.getD i [])) → (∀ j, j ≠ p → j ≠ p + 1 → S1 j = S j) → K (.inl (some (.ref (ad G p)))) S1) : RetK l G N mJ4_appendS (4, 240, 0, 0) [.ref (ad G p), .ref (gK G i)] S K := by
  refine ret_enter (by decide +kernel) (Nat.le_of_ble_eq_true rfl) (fun X hX h hm => ?_)
  subst hX
  replace h : OK X G N cJ4_append_15ec4 RJ4 2 (4, 240, 0, 0) := h
  replace hm : OKm X G N K (some (.object "java/lang/StringBuilder")) (4, 240, 0, 0) := hm
  show AW X G 2 N 0 [(0, _), (1, _)] [] S 0 0
  refine r_aload_n (pc' := 1) h dJ4_appendS_0 rfl rfl ?_
  refine r_aload_n (pc' := 2) h dJ4_appendS_1 rfl rfl ?_
  refine r_callSU (st := []) (As := [.ref (gK G i)]) (M := mJ5_appendS) (pc' := 5) h dJ4_appendS_2 rfl lJ4_29 vJ5_appendS rfl hB.l0 (show S p = _ from hB.2.2.2.choose_spec.1) rfl rfl (Nat.le_of_ble_eq_true rfl) (rrb rfl) (kJ5_appendSK hB hi hn (fun S1 h1 h2 => K_int ?_))
  refine r_pop (pc' := 6) h dJ4_appendS_5 rfl rfl ?_
  refine r_aload_n (pc' := 7) h dJ4_appendS_6 rfl rfl ?_
  exact r_areturn h hm dJ4_appendS_7 (Nat.le_of_ble_eq_true rfl) (Nat.le_of_ble_eq_true rfl) (Or.inr ⟨_, rfl⟩) (hk S1 h1 h2)
theorem kJ0_getBytesW {l : Launch} {G : GX} {N : Nat} {S : Nat → va_E} {K : RK} {q : Nat} {ds : List Nat} (hS : isS G N S q ds) {k n : Nat} {f : Nat → Int32} (hk0 : k < N) (hc0 : S k = .inl (gJ G, 16, .inl f)) (hn : n + ds.length ≤ 16) (hk : ∀ fs : Nat → Int32, bys fs ds → K (.inl none) (va_up S k (.inl (gJ G, 16, .inl (va_cpy fs f 0 n (ds.length)))))) : RetK l G N mJ0_getBytes (1, 60, 0, 0) [.ref (ad G q), .ref (ad G k), .int (nI n), .int 0] S K := by
  refine ret_enter (by decide +kernel) (Nat.le_of_ble_eq_true rfl) (fun X hX h hm => ?_)
  subst hX
  replace h : OK X G N cJ0_getBytes_840e7 RJ0 4 (1, 60, 0, 0) := h
  replace hm : OKm X G N K none (1, 60, 0, 0) := hm
  show AW X G 4 N 0 [(0, _), (1, _), (2, _), (3, _)] [] S 0 0
  refine r_aload_n (pc' := 1) h dJ0_getBytes_0 rfl rfl ?_
  refine r_callVL (st := []) (As := []) (M := mJ0_coder) (pc' := 4) h dJ0_getBytes_1 rfl lJ0_335 vJ0_coder rfl hS.l0 (show S q = _ from hS.2.2.2.choose_spec.1) rfl rfl (Nat.le_of_ble_eq_true rfl) (rrb rfl) (kJ0_coderW hS (K_int ?_))
  refine r_iload_n (pc' := 5) h dJ0_getBytes_4 rfl rfl ?_
  refine r_icmp_ne (tgt := 28) (pc' := 8) h dJ0_getBytes_5 (by decide) rfl (fun c => absurd c (fun z => z rfl)) (fun _ => ?_)
  refine r_aload_n (pc' := 9) h dJ0_getBytes_8 rfl rfl ?_
  obtain ⟨s1, s2, s3, g, s4, s5, s6⟩ := hS
  refine gJ0_9 (pc' := 12) h dJ0_getBytes_9 rfl (show q < N by omega) s4 rfl ?_
  refine r_iconst (pc' := 13) (v := 0) h dJ0_getBytes_12 rfl (by decide) ?_
  refine r_aload_n (pc' := 14) h dJ0_getBytes_13 rfl rfl ?_
  refine r_iload_n (pc' := 15) h dJ0_getBytes_14 rfl rfl ?_
  refine r_iload_n (pc' := 16) h dJ0_getBytes_15 rfl rfl ?_
  refine r_ishl (pc' := 17) h dJ0_getBytes_16 rfl ?_
  rw [shl_0]
  refine r_aload_n (pc' := 18) h dJ0_getBytes_17 rfl rfl ?_
  refine gJ0_9 (pc' := 21) h dJ0_getBytes_18 rfl (show q < N by omega) s4 rfl ?_
  refine r_alen (pc' := 22) (t := 2) h dJ0_getBytes_21 rfl s1 s5 rfl ?_
  have e0 : (0 : Int32).toNatClampNeg = 0 := by decide
  have e1 : (nI n).toNatClampNeg = n := nI_clamp (by omega)
  have e2 : (nI ds.length).toNatClampNeg = ds.length := nI_clamp (by omega)
  refine r_copyW (pc' := 25) h dJ0_getBytes_22 rfl lJ0_212 s1 hk0 s5 hc0 (by decide) (nI_pos (by omega)) (nI_pos (by omega)) (by rw [e0]; show 0 + (nI ds.length).toNatClampNeg ≤ _; rw [e2]; omega) (by rw [e1]; show n + (nI ds.length).toNatClampNeg ≤ _; rw [e2]; exact hn) (fun j hj => by rw [show (nI ((ds.length, (Sum.inl g : (Nat → Int32) ⊕ _)) : vp_A).1).toNatClampNeg = ds.length from e2] at hj; rw [e0, Nat.zero_add, s6 j hj]; exact byt_f _ (s3.at hj)) (by decide) ?_
  show AW X G _ _ _ _ _ (va_up S k (.inl (gJ G, 16, .inl (va_cpy g f (0 : Int32).toNatClampNeg (nI n).toNatClampNeg (nI ds.length).toNatClampNeg)))) _ _
  rw [e0, e1, e2]
  refine r_goto (tgt := 43) h dJ0_getBytes_25 (by decide) ?_
  exact r_return h hm dJ0_getBytes_43 (Nat.le_of_ble_eq_true rfl) (Nat.le_of_ble_eq_true rfl) (hk _ s6)
theorem kJ5_inflW {l : Launch} {G : GX} {N : Nat} {S : Nat → va_E} {K : RK} {p : Nat} {cs : List Nat} (hB : isB G N S p cs) {q : Nat} {ds : List Nat} (hS : isS G N S q ds) (hk : K (.inl none) S) : RetK l G N mJ5_infl (1, 60, 0, 0) [.ref (ad G p), .ref (ad G q)] S K := by
  refine ret_enter (by decide +kernel) (Nat.le_of_ble_eq_true rfl) (fun X hX h hm => ?_)
  subst hX
  replace h : OK X G N cJ5_inflateIfNeededFor_a7421 RJ5 2 (1, 60, 0, 0) := h
  replace hm : OKm X G N K none (1, 60, 0, 0) := hm
  show AW X G 2 N 0 [(0, _), (1, _)] [] S 0 0
  obtain ⟨b1, b2, b3, f, b4, b5, b6⟩ := hB
  refine r_getC (pc' := 3) h dJ5_infl_0 rfl lJ5_18 ?_
  refine r_if_eq (tgt := 21) (pc' := 6) h dJ5_infl_3 (by decide) rfl (fun c => absurd c (by decide)) (fun _ => ?_)
  refine r_aload_n (pc' := 7) h dJ5_infl_6 rfl rfl ?_
  refine gJ5_22 (pc' := 10) h dJ5_infl_7 rfl (show p < N by omega) b4 rfl ?_
  refine r_aload_n (pc' := 11) h dJ5_infl_10 rfl rfl ?_
  refine r_callVL (st := [.int 0]) (As := []) (M := mJ0_coder) (pc' := 14) h dJ5_infl_11 rfl lJ5_40 vJ0_coder rfl hS.l0 (show S q = _ from hS.2.2.2.choose_spec.1) rfl rfl (Nat.le_of_ble_eq_true rfl) (rrb rfl) (kJ0_coderW hS (K_int ?_))
  refine r_icmp_eq (tgt := 21) (pc' := 17) h dJ5_infl_14 (by decide) rfl (fun _ => ?_) (fun c => absurd rfl c)
  exact r_return h hm dJ5_infl_21 (Nat.le_of_ble_eq_true rfl) (Nat.le_of_ble_eq_true rfl) hk
theorem kJ5_putW {l : Launch} {G : GX} {N : Nat} {S : Nat → va_E} {K : RK} {p : Nat} {cs : List Nat} (hB : isB G N S p cs) {q : Nat} {ds : List Nat} (hS : isS G N S q ds) (hn : cs.length + ds.length ≤ 16) (hk : ∀ S1 f1, S1 p = S p → S1 (p + 1) = .inl (gJ G, 16, .inl f1) → bys f1 (cs ++ ds) → (∀ j, j ≠ p + 1 → S1 j = S j) → K (.inl none) S1) : RetK l G N mJ5_put (2, 120, 0, 0) [.ref (ad G p), .int (nI cs.length), .ref (ad G q)] S K := by
  refine ret_enter (by decide +kernel) (Nat.le_of_ble_eq_true rfl) (fun X hX h hm => ?_)
  subst hX
  replace h : OK X G N cJ5_putStringAt_47b60 RJ5 3 (2, 120, 0, 0) := h
  replace hm : OKm X G N K none (2, 120, 0, 0) := hm
  show AW X G 3 N 0 [(0, _), (1, _), (2, _)] [] S 0 0
  have hB0 := hB
  obtain ⟨b1, b2, b3, f, b4, b5, b6⟩ := hB
  refine r_aload_n (pc' := 1) h dJ5_put_0 rfl rfl ?_
  refine r_aload_n (pc' := 2) h dJ5_put_1 rfl rfl ?_
  refine r_callVL (st := []) (As := [.ref (ad G q)]) (M := mJ5_infl) (pc' := 5) h dJ5_put_2 rfl lJ5_397 vJ5_infl rfl (show p < N by omega) b4 rfl rfl (Nat.le_of_ble_eq_true rfl) (rrb rfl) (kJ5_inflW hB0 hS (K_nil ?_))
  refine r_aload_n (pc' := 6) h dJ5_put_5 rfl rfl ?_
  refine r_aload_n (pc' := 7) h dJ5_put_6 rfl rfl ?_
  refine gJ5_15 (pc' := 10) h dJ5_put_7 rfl (show p < N by omega) b4 rfl ?_
  refine r_iload_n (pc' := 11) h dJ5_put_10 rfl rfl ?_
  refine r_aload_n (pc' := 12) h dJ5_put_11 rfl rfl ?_
  refine gJ5_22 (pc' := 15) h dJ5_put_12 rfl (show p < N by omega) b4 rfl ?_
  refine r_callVL (st := []) (As := [.ref (ad G (p + 1)), .int (nI cs.length), .int 0]) (M := mJ0_getBytes) (pc' := 18) h dJ5_put_15 rfl lJ5_399 vJ0_getBytes rfl hS.l0 (show S q = _ from hS.2.2.2.choose_spec.1) rfl rfl (Nat.le_of_ble_eq_true rfl) (rrb rfl) (kJ0_getBytesW hS b1 b5 hn (fun fs hfs => K_nil ?_))
  refine r_return h hm dJ5_put_18 (Nat.le_of_ble_eq_true rfl) (Nat.le_of_ble_eq_true rfl) (hk _ _ (up_ne _ _ (by omega)) (up_at _ _ _) ?_ (fun j hj => up_ne _ _ hj))
  exact bys_cp b6 hfs
theorem kJ5_appendSW {l : Launch} {G : GX} {N : Nat} {S : Nat → va_E} {K : RK} {p : Nat} {cs : List Nat} (hB : isB G N S p cs) {q : Nat} {ds : List Nat} (hS : isS G N S q ds) (hn : cs.length + ds.length ≤ 16) (hk : ∀ S1, isB G N S1 p (cs ++ ds) → (∀ j, j ≠ p → j ≠ p + 1 → S1 j = S j) → K (.inl (some (.ref (ad G p)))) S1) : RetK l G N mJ5_appendS (3, 180, 0, 0) [.ref (ad G p), .ref (ad G q)] S K := by
  refine ret_enter (by decide +kernel) (Nat.le_of_ble_eq_true rfl) (fun X hX h hm => ?_)
  subst hX
  replace h : OK X G N cJ5_append_cf1ce RJ5 3 (3, 180, 0, 0) := h
  replace hm : OKm X G N K (some (.object "java/lang/AbstractStringBuilder")) (3, 180, 0, 0) := hm
  show AW X G 3 N 0 [(0, _), (1, _)] [] S 0 0
  have hB0 := hB
  obtain ⟨b1, b2, b3, f, b4, b5, b6⟩ := hB
  refine r_aload_n (pc' := 1) h dJ5_appendS_0 rfl rfl ?_
  refine r_ifnonnull (tgt := 9) h dJ5_appendS_1 (by decide) ?_
  refine r_aload_n (pc' := 10) h dJ5_appendS_9 rfl rfl ?_
  refine r_callVL (st := []) (As := []) (M := mJ0_length) (pc' := 13) h dJ5_appendS_10 rfl lJ5_32 vJ0_length rfl hS.l0 (show S q = _ from hS.2.2.2.choose_spec.1) rfl rfl (Nat.le_of_ble_eq_true rfl) (rrb rfl) (kJ0_lengthW hS (K_int ?_))
  refine r_istoren (j := 2) (pc' := 14) h rfl dJ5_appendS_13 rfl (by decide) rfl ?_
  refine r_aload_n (pc' := 15) h dJ5_appendS_14 rfl rfl ?_
  refine r_aload_n (pc' := 16) h dJ5_appendS_15 rfl rfl ?_
  refine gJ5_79 (pc' := 19) h dJ5_appendS_16 rfl (show p < N by omega) b4 rfl ?_
  refine r_iload_n (pc' := 20) h dJ5_appendS_19 rfl rfl ?_
  refine r_iadd (pc' := 21) h dJ5_appendS_20 rfl ?_
  rw [nI_add]
  refine r_callVL (st := []) (As := [.int (nI (cs.length + ds.length))]) (M := mJ5_ensure) (pc' := 24) h dJ5_appendS_21 rfl lJ5_100 vJ5_ensure rfl (show p < N by omega) b4 rfl rfl (Nat.le_of_ble_eq_true rfl) (rrb rfl) (kJ5_ensure hB0 hn (K_nil ?_))
  refine r_aload_n (pc' := 25) h dJ5_appendS_24 rfl rfl ?_
  refine r_aload_n (pc' := 26) h dJ5_appendS_25 rfl rfl ?_
  refine gJ5_79 (pc' := 29) h dJ5_appendS_26 rfl (show p < N by omega) b4 rfl ?_
  refine r_aload_n (pc' := 30) h dJ5_appendS_29 rfl rfl ?_
  refine r_callVL (st := []) (As := [.int (nI cs.length), .ref (ad G q)]) (M := mJ5_put) (pc' := 33) h dJ5_appendS_30 rfl lJ5_208 vJ5_put rfl (show p < N by omega) b4 rfl rfl (Nat.le_of_ble_eq_true rfl) (rrb rfl) (kJ5_putW hB0 hS hn (fun S1 f1 e1 e2 e3 e4 => K_nil ?_))
  refine r_aload_n (pc' := 34) h dJ5_appendS_33 rfl rfl ?_
  refine r_dup (pc' := 35) h dJ5_appendS_34 rfl rfl ?_
  refine gJ5_79 (pc' := 38) h dJ5_appendS_35 rfl (show p < N by omega) (e1.trans b4) rfl ?_
  refine r_iload_n (pc' := 39) h dJ5_appendS_38 rfl rfl ?_
  refine r_iadd (pc' := 40) h dJ5_appendS_39 rfl ?_
  rw [nI_add]
  refine pJ5_79 (pc' := 43) h dJ5_appendS_40 rfl (show p < N by omega) (e1.trans b4) (Nat.le_of_ble_eq_true rfl) ?_
  refine r_aload_n (pc' := 44) h dJ5_appendS_43 rfl rfl ?_
  refine r_areturn h hm dJ5_appendS_44 (Nat.le_of_ble_eq_true rfl) (Nat.le_of_ble_eq_true rfl) (Or.inr ⟨_, rfl⟩) (hk _ ⟨b1, ?_, ?_, f1, ?_, ?_, e3⟩ (fun j j1 j2 => ?_))
  · rw [List.length_append]
    exact hn
  · exact asc_app b3 hS.2.2.1
  · rw [up_at, List.length_append]
    rfl
  · rw [up_ne _ _ (by omega)]
    exact e2
  · rw [up_ne _ _ j1]
    exact e4 j j2
theorem kJ4_appendSW {l : Launch} {G : GX} {N : Nat} {S : Nat → va_E} {K : RK} {p : Nat} {cs : List Nat} (hB : isB G N S p cs) {q : Nat} {ds : List Nat} (hS : isS G N S q ds) (hn : cs.length + ds.length ≤ 16) (hk : ∀ S1, isB G N S1 p (cs ++ ds) → (∀ j, j ≠ p → j ≠ p + 1 → S1 j = S j) → K (.inl (some (.ref (ad G p)))) S1) : RetK l G N mJ4_appendS (4, 240, 0, 0) [.ref (ad G p), .ref (ad G q)] S K := by
  refine ret_enter (by decide +kernel) (Nat.le_of_ble_eq_true rfl) (fun X hX h hm => ?_)
  subst hX
  replace h : OK X G N cJ4_append_15ec4 RJ4 2 (4, 240, 0, 0) := h
  replace hm : OKm X G N K (some (.object "java/lang/StringBuilder")) (4, 240, 0, 0) := hm
  show AW X G 2 N 0 [(0, _), (1, _)] [] S 0 0
  refine r_aload_n (pc' := 1) h dJ4_appendS_0 rfl rfl ?_
  refine r_aload_n (pc' := 2) h dJ4_appendS_1 rfl rfl ?_
  refine r_callSU (st := []) (As := [.ref (ad G q)]) (M := mJ5_appendS) (pc' := 5) h dJ4_appendS_2 rfl lJ4_29 vJ5_appendS rfl hB.l0 (show S p = _ from hB.2.2.2.choose_spec.1) rfl rfl (Nat.le_of_ble_eq_true rfl) (rrb rfl) (kJ5_appendSW hB hS hn (fun S1 h1 h2 => K_int ?_))
  refine r_pop (pc' := 6) h dJ4_appendS_5 rfl rfl ?_
  refine r_aload_n (pc' := 7) h dJ4_appendS_6 rfl rfl ?_
  exact r_areturn h hm dJ4_appendS_7 (Nat.le_of_ble_eq_true rfl) (Nat.le_of_ble_eq_true rfl) (Or.inr ⟨_, rfl⟩) (hk S1 h1 h2)
