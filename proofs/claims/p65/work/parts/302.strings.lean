/-! STRING CONSTANTS: their methods' facts; the rules of reading them; length and charAt. -/
abbrev mJ0_length : MI := (yJ0_length_8abf5, cJ0_length_8abf5, 1, (some .int))
theorem vJ0_length : MV mJ0_length 0 RJ0 := ⟨gw_in (tb_3 2 (by decide +kernel)) (by decide +kernel), gw_in (tb_3 3 (by decide +kernel)) (by decide +kernel), gw_in (tb_1 11 (by decide +kernel)) (by decide +kernel), gw_in (tb_3 4 (by decide +kernel)) (by decide +kernel), ⟨by decide +kernel, by decide +kernel⟩, by decide +kernel⟩
theorem dJ0_length_0 : decode cJ0_length_8abf5 0 = .ok (.aload_n 0, 1) := by decide +kernel
theorem dJ0_length_1 : decode cJ0_length_8abf5 1 = .ok (.getfield 9, 3) := by decide +kernel
theorem dJ0_length_4 : decode cJ0_length_8abf5 4 = .ok (.arraylength, 1) := by decide +kernel
theorem dJ0_length_5 : decode cJ0_length_8abf5 5 = .ok (.aload_n 0, 1) := by decide +kernel
theorem dJ0_length_6 : decode cJ0_length_8abf5 6 = .ok (.invokevirtual 335, 3) := by decide +kernel
theorem dJ0_length_9 : decode cJ0_length_8abf5 9 = .ok (.ishr, 1) := by decide +kernel
theorem dJ0_length_10 : decode cJ0_length_8abf5 10 = .ok (.ireturn, 1) := by decide +kernel
abbrev mJ0_coder : MI := (yJ0_coder_7d493, cJ0_coder_7d493, 1, (some .byte))
theorem vJ0_coder : MV mJ0_coder 0 RJ0 := ⟨gw_in (tb_3 6 (by decide +kernel)) (by decide +kernel), gw_in (tb_3 7 (by decide +kernel)) (by decide +kernel), gw_in (tb_1 11 (by decide +kernel)) (by decide +kernel), gw_in (tb_3 8 (by decide +kernel)) (by decide +kernel), ⟨by decide +kernel, by decide +kernel⟩, by decide +kernel⟩
theorem dJ0_coder_0 : decode cJ0_coder_7d493 0 = .ok (.getstatic 38, 3) := by decide +kernel
theorem dJ0_coder_3 : decode cJ0_coder_7d493 3 = .ok (.ifCond .eq 10, 3) := by decide +kernel
theorem dJ0_coder_6 : decode cJ0_coder_7d493 6 = .ok (.aload_n 0, 1) := by decide +kernel
theorem dJ0_coder_7 : decode cJ0_coder_7d493 7 = .ok (.getfield 15, 3) := by decide +kernel
theorem dJ0_coder_10 : decode cJ0_coder_7d493 10 = .ok (.goto 4, 3) := by decide +kernel
theorem dJ0_coder_13 : decode cJ0_coder_7d493 13 = .ok (.iconst 1, 1) := by decide +kernel
theorem dJ0_coder_14 : decode cJ0_coder_7d493 14 = .ok (.ireturn, 1) := by decide +kernel
abbrev mJ0_isLatin1 : MI := (yJ0_isLatin1_aae02, cJ0_isLatin1_aae02, 1, (some .boolean))
theorem vJ0_isLatin1 : MV mJ0_isLatin1 0 RJ0 := ⟨gw_in (tb_3 16 (by decide +kernel)) (by decide +kernel), gw_in (tb_3 17 (by decide +kernel)) (by decide +kernel), gw_in (tb_1 11 (by decide +kernel)) (by decide +kernel), gw_in (tb_3 18 (by decide +kernel)) (by decide +kernel), ⟨by decide +kernel, by decide +kernel⟩, by decide +kernel⟩
theorem dJ0_isLatin1_0 : decode cJ0_isLatin1_aae02 0 = .ok (.getstatic 38, 3) := by decide +kernel
theorem dJ0_isLatin1_3 : decode cJ0_isLatin1_aae02 3 = .ok (.ifCond .eq 14, 3) := by decide +kernel
theorem dJ0_isLatin1_6 : decode cJ0_isLatin1_aae02 6 = .ok (.aload_n 0, 1) := by decide +kernel
theorem dJ0_isLatin1_7 : decode cJ0_isLatin1_aae02 7 = .ok (.getfield 15, 3) := by decide +kernel
theorem dJ0_isLatin1_10 : decode cJ0_isLatin1_aae02 10 = .ok (.ifCond .ne 7, 3) := by decide +kernel
theorem dJ0_isLatin1_13 : decode cJ0_isLatin1_aae02 13 = .ok (.iconst 1, 1) := by decide +kernel
theorem dJ0_isLatin1_14 : decode cJ0_isLatin1_aae02 14 = .ok (.goto 4, 3) := by decide +kernel
theorem dJ0_isLatin1_17 : decode cJ0_isLatin1_aae02 17 = .ok (.iconst 0, 1) := by decide +kernel
theorem dJ0_isLatin1_18 : decode cJ0_isLatin1_aae02 18 = .ok (.ireturn, 1) := by decide +kernel
abbrev mJ0_charAt : MI := (yJ0_charAt_5068e, cJ0_charAt_5068e, 2, (some .char))
theorem vJ0_charAt : MV mJ0_charAt 1 RJ0 := ⟨gw_in (tb_3 12 (by decide +kernel)) (by decide +kernel), gw_in (tb_3 13 (by decide +kernel)) (by decide +kernel), gw_in (tb_1 11 (by decide +kernel)) (by decide +kernel), gw_in (tb_3 14 (by decide +kernel)) (by decide +kernel), ⟨by decide +kernel, by decide +kernel⟩, by decide +kernel⟩
theorem dJ0_charAt_0 : decode cJ0_charAt_5068e 0 = .ok (.aload_n 0, 1) := by decide +kernel
theorem dJ0_charAt_1 : decode cJ0_charAt_5068e 1 = .ok (.invokevirtual 492, 3) := by decide +kernel
theorem dJ0_charAt_4 : decode cJ0_charAt_5068e 4 = .ok (.ifCond .eq 12, 3) := by decide +kernel
theorem dJ0_charAt_7 : decode cJ0_charAt_5068e 7 = .ok (.aload_n 0, 1) := by decide +kernel
theorem dJ0_charAt_8 : decode cJ0_charAt_5068e 8 = .ok (.getfield 9, 3) := by decide +kernel
theorem dJ0_charAt_11 : decode cJ0_charAt_5068e 11 = .ok (.iload_n 1, 1) := by decide +kernel
theorem dJ0_charAt_12 : decode cJ0_charAt_5068e 12 = .ok (.invokestatic 495, 3) := by decide +kernel
theorem dJ0_charAt_15 : decode cJ0_charAt_5068e 15 = .ok (.ireturn, 1) := by decide +kernel
theorem dJ0_charAt_16 : decode cJ0_charAt_5068e 16 = .ok (.aload_n 0, 1) := by decide +kernel
theorem dJ0_charAt_17 : decode cJ0_charAt_5068e 17 = .ok (.getfield 9, 3) := by decide +kernel
theorem dJ0_charAt_20 : decode cJ0_charAt_5068e 20 = .ok (.iload_n 1, 1) := by decide +kernel
theorem dJ0_charAt_21 : decode cJ0_charAt_5068e 21 = .ok (.invokestatic 498, 3) := by decide +kernel
theorem dJ0_charAt_24 : decode cJ0_charAt_5068e 24 = .ok (.ireturn, 1) := by decide +kernel
abbrev mJ1_charAt : MI := (yJ1_charAt_3b067, cJ1_charAt_3b067, 2, (some .char))
theorem vJ1_charAt : MS mJ1_charAt 2 := ⟨gw_in (tb_3 20 (by decide +kernel)) (by decide +kernel), gw_in (tb_1 25 (by decide +kernel)) (by decide +kernel), gw_in (tb_3 21 (by decide +kernel)) (by decide +kernel), ⟨by decide +kernel, by decide +kernel⟩, by decide +kernel⟩
theorem dJ1_charAt_0 : decode cJ1_charAt_3b067 0 = .ok (.iload_n 1, 1) := by decide +kernel
theorem dJ1_charAt_1 : decode cJ1_charAt_3b067 1 = .ok (.aload_n 0, 1) := by decide +kernel
theorem dJ1_charAt_2 : decode cJ1_charAt_3b067 2 = .ok (.arraylength, 1) := by decide +kernel
theorem dJ1_charAt_3 : decode cJ1_charAt_3b067 3 = .ok (.invokestatic 9, 3) := by decide +kernel
theorem dJ1_charAt_6 : decode cJ1_charAt_3b067 6 = .ok (.aload_n 0, 1) := by decide +kernel
theorem dJ1_charAt_7 : decode cJ1_charAt_3b067 7 = .ok (.iload_n 1, 1) := by decide +kernel
theorem dJ1_charAt_8 : decode cJ1_charAt_3b067 8 = .ok (.baload, 1) := by decide +kernel
theorem dJ1_charAt_9 : decode cJ1_charAt_3b067 9 = .ok (.sipush 255, 3) := by decide +kernel
theorem dJ1_charAt_12 : decode cJ1_charAt_3b067 12 = .ok (.iand, 1) := by decide +kernel
theorem dJ1_charAt_13 : decode cJ1_charAt_3b067 13 = .ok (.i2c, 1) := by decide +kernel
theorem dJ1_charAt_14 : decode cJ1_charAt_3b067 14 = .ok (.ireturn, 1) := by decide +kernel
abbrev mJ0_checkIndex : MI := (yJ0_checkIndex_df160, cJ0_checkIndex_df160, 2, none)
theorem vJ0_checkIndex : MS mJ0_checkIndex 2 := ⟨gw_in (tb_3 23 (by decide +kernel)) (by decide +kernel), gw_in (tb_1 11 (by decide +kernel)) (by decide +kernel), gw_in (tb_3 24 (by decide +kernel)) (by decide +kernel), ⟨by decide +kernel, by decide +kernel⟩, by decide +kernel⟩
theorem dJ0_checkIndex_0 : decode cJ0_checkIndex_df160 0 = .ok (.iload_n 0, 1) := by decide +kernel
theorem dJ0_checkIndex_1 : decode cJ0_checkIndex_df160 1 = .ok (.iload_n 1, 1) := by decide +kernel
theorem dJ0_checkIndex_2 : decode cJ0_checkIndex_df160 2 = .ok (.getstatic 1053, 3) := by decide +kernel
theorem dJ0_checkIndex_5 : decode cJ0_checkIndex_df160 5 = .ok (.invokestatic 1059, 3) := by decide +kernel
theorem dJ0_checkIndex_8 : decode cJ0_checkIndex_df160 8 = .ok (.pop, 1) := by decide +kernel
theorem dJ0_checkIndex_9 : decode cJ0_checkIndex_df160 9 = .ok (.return_, 1) := by decide +kernel
abbrev mJ3_checkIndex : MI := (yJ3_checkIndex_8e157, cJ3_checkIndex_8e157, 3, (some .int))
theorem vJ3_checkIndex : MS mJ3_checkIndex 3 := ⟨gw_in (tb_3 28 (by decide +kernel)) (by decide +kernel), gw_in (tb_1 24 (by decide +kernel)) (by decide +kernel), gw_in (tb_3 29 (by decide +kernel)) (by decide +kernel), ⟨by decide +kernel, by decide +kernel⟩, by decide +kernel⟩
theorem dJ3_checkIndex_0 : decode cJ3_checkIndex_8e157 0 = .ok (.iload_n 0, 1) := by decide +kernel
theorem dJ3_checkIndex_1 : decode cJ3_checkIndex_8e157 1 = .ok (.ifCond .lt 8, 3) := by decide +kernel
theorem dJ3_checkIndex_4 : decode cJ3_checkIndex_8e157 4 = .ok (.iload_n 0, 1) := by decide +kernel
theorem dJ3_checkIndex_5 : decode cJ3_checkIndex_8e157 5 = .ok (.iload_n 1, 1) := by decide +kernel
theorem dJ3_checkIndex_6 : decode cJ3_checkIndex_8e157 6 = .ok (.if_icmp .lt 10, 3) := by decide +kernel
theorem dJ3_checkIndex_9 : decode cJ3_checkIndex_8e157 9 = .ok (.aload_n 2, 1) := by decide +kernel
theorem dJ3_checkIndex_10 : decode cJ3_checkIndex_8e157 10 = .ok (.iload_n 0, 1) := by decide +kernel
theorem dJ3_checkIndex_11 : decode cJ3_checkIndex_8e157 11 = .ok (.iload_n 1, 1) := by decide +kernel
theorem dJ3_checkIndex_12 : decode cJ3_checkIndex_8e157 12 = .ok (.invokestatic 95, 3) := by decide +kernel
theorem dJ3_checkIndex_15 : decode cJ3_checkIndex_8e157 15 = .ok (.athrow, 1) := by decide +kernel
theorem dJ3_checkIndex_16 : decode cJ3_checkIndex_8e157 16 = .ok (.iload_n 0, 1) := by decide +kernel
theorem dJ3_checkIndex_17 : decode cJ3_checkIndex_8e157 17 = .ok (.ireturn, 1) := by decide +kernel
theorem lJ0_9 : Cond.fieldLink RJ0 9 "java/lang/String" "value" "[B" ∈ gw := gw_in (tb_6 14 (by decide +kernel)) (by decide +kernel)
theorem lJ0_15 : Cond.fieldLink RJ0 15 "java/lang/String" "coder" "B" ∈ gw := gw_in (tb_6 15 (by decide +kernel)) (by decide +kernel)
theorem lJ0_38 : Cond.fieldLink RJ0 38 "java/lang/String" "COMPACT_STRINGS" "Z" ∈ gw := gw_in (tb_3 9 (by decide +kernel)) (by decide +kernel)
theorem lJ0_335 : Cond.methodLink RJ0 335 yJ0_coder_7d493 ∈ gw := gw_in (tb_3 5 (by decide +kernel)) (by decide +kernel)
theorem lJ0_492 : Cond.methodLink RJ0 492 yJ0_isLatin1_aae02 ∈ gw := gw_in (tb_3 15 (by decide +kernel)) (by decide +kernel)
theorem lJ0_495 : Cond.methodLink RJ0 495 yJ1_charAt_3b067 ∈ gw := gw_in (tb_3 19 (by decide +kernel)) (by decide +kernel)
theorem lJ0_1053 : Cond.fieldLink RJ0 1053 "jdk/internal/util/Preconditions" "SIOOBE_FORMATTER" "Ljava/util/function/BiFunction;" ∈ gw := gw_in (tb_3 25 (by decide +kernel)) (by decide +kernel)
theorem lJ0_1059 : Cond.methodLink RJ0 1059 yJ3_checkIndex_8e157 ∈ gw := gw_in (tb_3 27 (by decide +kernel)) (by decide +kernel)
theorem lJ1_9 : Cond.methodLink RJ1 9 yJ0_checkIndex_df160 ∈ gw := gw_in (tb_3 22 (by decide +kernel)) (by decide +kernel)
section STRS
variable {X : CX} {G : GX} {cc : ByteArray} {own : String} {nL N pc pc' tgt : Nat} {lo lo' : List (Nat × Value)} {st stk : List Value} {S : Nat → va_E} {a b : Nat} {rm : Nat × Nat × Nat × Nat} {K : RK} {ret : Option FieldType}
theorem SF.kS {G : GX} {U : State} {H : Heap} (h : SF G U H) : vk_S 9 lenS bytS (gK G) (gV G) (AA G) U H := h.2.2.2.1
theorem SF.C {G : GX} {U : State} {H : Heap} (h : SF G U H) : va_Z "java/lang/String" "COMPACT_STRINGS" "Z" (.int 1) (AA G) U H := h.2.2.2.2.1
theorem SF.P {G : GX} {U : State} {H : Heap} (h : SF G U H) : va_Zq "jdk/internal/util/Preconditions" "SIOOBE_FORMATTER" "Ljava/util/function/BiFunction;" (AA G) U H := h.2.2.2.2.2.1
theorem OK.sf (h : OK X G N cc own nL rm) : SF G X.2.2.2.2.1 X.2.2.2.2.1.heap := h.2.2.2.2.2.2.2.2.2.1
/-- a String constant's field -/
theorem r_getK (h : OK X G N cc own nL rm) {n d : String} {index q : Nat} {v : Value} (hd : decode cc pc = .ok (.getfield index, 3)) (hp : pc + 3 = pc') (hE : va_OF "java/lang/String" n d v q (AA G) X.2.2.2.2.1 X.2.2.2.2.1.heap) (hl : Cond.fieldLink own index "java/lang/String" n d ∈ gw) (kk : AW X G nL N pc' lo (v :: st) S a b) : AW X G nL N pc lo (.ref q :: st) S a b := by
  subst hp
  intro H locs ls hP hS hl2
  exact vk_getf h.1 h.2.1 hE hS h.2.2.2.1 (h.2.2.2.2.1 _ hl) (fun _ e => e) hd (kk H locs ls hP hS hl2)
/-- COMPACT_STRINGS -/
theorem r_getC (h : OK X G N cc own nL rm) {index : Nat} (hd : decode cc pc = .ok (.getstatic index, 3)) (hp : pc + 3 = pc') (hl : Cond.fieldLink own index "java/lang/String" "COMPACT_STRINGS" "Z" ∈ gw) (kk : AW X G nL N pc' lo (.int 1 :: st) S a b) : AW X G nL N pc lo st S a b := by
  subst hp
  intro H locs ls hP hS hl2
  exact va_gets h.1 h.2.1 h.sf.C hS h.2.2.2.1 (h.2.2.2.2.1 _ hl) (fun _ e => e) hd (kk H locs ls hP hS hl2)
/-- SIOOBE_FORMATTER -/
theorem r_getP (h : OK X G N cc own nL rm) {index : Nat} (hd : decode cc pc = .ok (.getstatic index, 3)) (hp : pc + 3 = pc') (hl : Cond.fieldLink own index "jdk/internal/util/Preconditions" "SIOOBE_FORMATTER" "Ljava/util/function/BiFunction;" ∈ gw) (k1 : AW X G nL N pc' lo (.null :: st) S a b) (k2 : ∀ t : Nat, AW X G nL N pc' lo (.ref t :: st) S a b) : AW X G nL N pc lo st S a b := by
  subst hp
  intro H locs ls hP hS hl2
  rcases h.sf.P with hz | ⟨t, hz⟩
  · exact va_gets h.1 h.2.1 hz hS h.2.2.2.1 (h.2.2.2.2.1 _ hl) (fun _ e => e) hd (k1 H locs ls hP hS hl2)
  · exact va_gets h.1 h.2.1 hz hS h.2.2.2.1 (h.2.2.2.2.1 _ hl) (fun _ e => e) hd (k2 t H locs ls hP hS hl2)
/-- a constant's row: its length, a byte -/
theorem r_alenK (h : OK X G N cc own nL rm) {i : Nat} (hi : i < 9) (hd : decode cc pc = .ok (.arraylength, 1)) (hp : pc + 1 = pc') (kk : AW X G nL N pc' lo (.int (nI (lenS.getD i 0)) :: st) S a b) : AW X G nL N pc lo (.ref (gV G i) :: st) S a b := by
  subst hp
  intro H locs ls hP hS hl2
  exact va_tlen h.1 h.2.1 (h.sf.kS.1 i hi).2.2.2 hS rfl hd (kk H locs ls hP hS hl2)
theorem r_baldK (h : OK X G N cc own nL rm) {i : Nat} (hi : i < 9) {x : Int32} (hin : vp_in x (lenS.getD i 0)) (hd : decode cc pc = .ok (.baload, 1)) (hp : pc + 1 = pc') (kk : AW X G nL N pc' lo (.int ((bytS.getD i []).getD x.toNatClampNeg 0) :: st) S a b) : AW X G nL N pc lo (.int x :: .ref (gV G i) :: st) S a b := by
  subst hp
  intro H locs ls hP hS hl2
  exact va_tb h.1 h.2.1 (h.sf.kS.1 i hi).2.2.2 hS hin rfl hd (kk H locs ls hP hS hl2)
theorem r_ishr (h : OK X G N cc own nL rm) {x y : Int32} (hd : decode cc pc = .ok (.ishr, 1)) (hp : pc + 1 = pc') (kk : AW X G nL N pc' lo (.int (x >>> (y &&& 31)) :: st) S a b) : AW X G nL N pc lo (.int y :: .int x :: st) S a b := by
  subst hp
  intro H locs ls hP hS hl
  exact lv_ishr h.1 h.2.1 hd (kk H locs ls hP hS hl)
/-- a String constant is pushed -/
theorem r_ldcK (h : OK X G N cc own nL rm) {index i : Nat} {tx : String} (hs : strs[i]? = some (own, index, tx)) (hd : decode cc pc = .ok (.ldc index, 2)) (hp : pc + 2 = pc') (kk : AW X G nL N pc' lo (.ref (gK G i) :: st) S a b) : AW X G nL N pc lo st S a b := by
  subst hp
  intro H locs ls hP hS hl2
  exact va_ldcS h.1 h.2.1 h.2.2.2.1 (h.sf.2.2.1 i _ hs) hd (kk H locs ls hP hS hl2)
/-- a call of a String constant's method -/
theorem r_callVK (h : OK X G N cc own nL rm) (hm : OKm X G N K ret rm) {M : MI} {rm' : Nat × Nat × Nat × Nat} {index n i : Nat} {As : List Value} (hd : decode cc pc = .ok (.invokevirtual index, 3)) (hp : pc + 3 = pc')
    (hl : Cond.methodLink own index M.1 ∈ gw) (hM : MV M n RJ0) (hi : i < 9) (hn : As.length = n) (hs : stk = As.reverse ++ .ref (gK G i) :: st) (hW : (st.map fun v => v.category).sum ≤ 8) (hr : RR rm rm' M.2.2.1 a b)
    (hcall : RetK X.2.1 G N M rm' (.ref (gK G i) :: As) S (KC X G nL N pc' lo st (a + rm'.2.2.1) (b + rm'.2.2.2) K)) : AW X G nL N pc lo stk S a b := by
  subst hp
  subst hs
  intro H locs ls hP hS hl2
  have hts := h.2.2.2.2.1
  intro T hT XX
  refine back_to (st := st) (av := .ref (gK G i) :: As) h hm hS hl2 hr hT XX ?_
  refine vx_runV (Ts := gw) (cc := cc) (nL := nL) (own := own) (C := RJ0) (n := n) (bytes := M.2.1) (maxL := M.2.2.1) (ret := M.2.2.2) (ws := wsM M) (rm := rmR rm') (Pc := va_Pc (.ref (gK G i) :: As) (PW G N S)) ⟨h.1, h.2.1, h.2.2.1, h.2.2.2.1, hts⟩ (hcall h.2.2.2.2.2.2.2.2.1)
    ⟨callB_of n hts (wsM_in hM.2.2.2.1) rfl rfl rfl (hts _ hM.2.2.1) (hts _ hl) ⟨hM.2.2.2.2.1.1, hM.2.2.2.2.1.2, hM.2.2.2.2.2⟩ ⟨Nat.le_trans hr.1 h.2.2.2.2.2.2.2.2.2.2.2.1, Nat.le_trans hr.2.1 h.2.2.2.2.2.2.2.2.2.2.2.2.1⟩, hts _ hM.1, hts _ hM.2.1⟩
    ⟨PW.blind, vk_recv h.sf.kS hi hS, pw_pre h hP hS⟩ rfl hn hl2.1 rfl (lv_room hW) hd ⟨Nat.le_trans hr.2.2.1 h.2.2.2.2.2.2.2.2.2.2.2.2.2.1, Nat.le_trans hr.2.2.2 h.2.2.2.2.2.2.2.2.2.2.2.2.2.2⟩
end STRS
theorem sLn_le : ∀ i, i < 9 → sLn i < 6 := by decide +kernel
theorem sCh_nar : ∀ i, i < 9 → ∀ j, j < 6 → chr' (sCh i j &&& 255) = sCh i j := by decide +kernel
theorem sCh_is {i j : Nat} (hi : i < 9) (hj : j < sLn i) : isCh (sCh i j) := by
  rw [← sCh_nar i hi j (by have := sLn_le i hi; omega)]
  exact isCh_chr _
theorem shr_0 (x : Int32) : x >>> ((0 : Int32) &&& 31) = x := by
  have e : (0 : Int32) &&& 31 = 0 := by decide +kernel
  rw [e]
  exact Int32.toInt_inj.mp ((pk_shr x 0 0 (by decide +kernel)).trans (by first | rfl | simp))
theorem kJ0_coder {l : Launch} {G : GX} {N : Nat} {S : Nat → va_E} {K : RK} {i : Nat} (hi : i < 9) (hk : K (.inl (some (.int 0))) S) : RetK l G N mJ0_coder (0, 0, 0, 0) [.ref (gK G i)] S K := by
  refine ret_enter (by decide +kernel) (Nat.le_of_ble_eq_true rfl) (fun X hX h hm => ?_)
  subst hX
  replace h : OK X G N cJ0_coder_7d493 RJ0 1 (0, 0, 0, 0) := h
  replace hm : OKm X G N K (some .byte) (0, 0, 0, 0) := hm
  show AW X G 1 N 0 [(0, _)] [] S 0 0
  refine r_getC (pc' := 3) h dJ0_coder_0 rfl lJ0_38 ?_
  refine r_if_eq (tgt := 13) (pc' := 6) h dJ0_coder_3 (by decide) rfl (fun c => absurd c (by decide)) (fun _ => ?_)
  refine r_aload_n (pc' := 7) h dJ0_coder_6 rfl rfl ?_
  refine r_getK (pc' := 10) h dJ0_coder_7 rfl (h.sf.kS.1 i hi).2.1 lJ0_15 ?_
  refine r_goto (tgt := 14) h dJ0_coder_10 (by decide) ?_
  refine r_zreturn h hm dJ0_coder_14 (Nat.le_of_ble_eq_true rfl) (Nat.le_of_ble_eq_true rfl) (by decide +kernel) hk
theorem kJ0_isLatin1 {l : Launch} {G : GX} {N : Nat} {S : Nat → va_E} {K : RK} {i : Nat} (hi : i < 9) (hk : K (.inl (some (.int 1))) S) : RetK l G N mJ0_isLatin1 (0, 0, 0, 0) [.ref (gK G i)] S K := by
  refine ret_enter (by decide +kernel) (Nat.le_of_ble_eq_true rfl) (fun X hX h hm => ?_)
  subst hX
  replace h : OK X G N cJ0_isLatin1_aae02 RJ0 1 (0, 0, 0, 0) := h
  replace hm : OKm X G N K (some .boolean) (0, 0, 0, 0) := hm
  show AW X G 1 N 0 [(0, _)] [] S 0 0
  refine r_getC (pc' := 3) h dJ0_isLatin1_0 rfl lJ0_38 ?_
  refine r_if_eq (tgt := 17) (pc' := 6) h dJ0_isLatin1_3 (by decide) rfl (fun c => absurd c (by decide)) (fun _ => ?_)
  refine r_aload_n (pc' := 7) h dJ0_isLatin1_6 rfl rfl ?_
  refine r_getK (pc' := 10) h dJ0_isLatin1_7 rfl (h.sf.kS.1 i hi).2.1 lJ0_15 ?_
  refine r_if_ne (tgt := 17) (pc' := 13) h dJ0_isLatin1_10 (by decide) rfl (fun c => absurd rfl c) (fun _ => ?_)
  refine r_iconst (pc' := 14) (v := 1) h dJ0_isLatin1_13 rfl (by decide) ?_
  refine r_goto (tgt := 18) h dJ0_isLatin1_14 (by decide) ?_
  refine r_zreturn h hm dJ0_isLatin1_18 (Nat.le_of_ble_eq_true rfl) (Nat.le_of_ble_eq_true rfl) (by decide +kernel) hk
theorem kJ0_length {l : Launch} {G : GX} {N : Nat} {S : Nat → va_E} {K : RK} {i : Nat} (hi : i < 9) (hk : K (.inl (some (.int (nI (sLn i))))) S) : RetK l G N mJ0_length (1, 20, 0, 0) [.ref (gK G i)] S K := by
  refine ret_enter (by decide +kernel) (Nat.le_of_ble_eq_true rfl) (fun X hX h hm => ?_)
  subst hX
  replace h : OK X G N cJ0_length_8abf5 RJ0 1 (1, 20, 0, 0) := h
  replace hm : OKm X G N K (some .int) (1, 20, 0, 0) := hm
  show AW X G 1 N 0 [(0, _)] [] S 0 0
  refine r_aload_n (pc' := 1) h dJ0_length_0 rfl rfl ?_
  refine r_getK (pc' := 4) h dJ0_length_1 rfl (h.sf.kS.1 i hi).2.2.1 lJ0_9 ?_
  refine r_alenK (pc' := 5) h hi dJ0_length_4 rfl ?_
  refine r_aload_n (pc' := 6) h dJ0_length_5 rfl rfl ?_
  refine r_callVK (pc' := 9) (M := mJ0_coder) (As := []) h hm dJ0_length_6 rfl lJ0_335 vJ0_coder hi rfl rfl (Nat.le_of_ble_eq_true rfl) (rrb rfl) (kJ0_coder hi ?_)
  show AW X G _ _ _ _ _ _ _ _
  refine r_ishr (pc' := 10) h dJ0_length_9 rfl ?_
  rw [shr_0]
  refine r_ireturn h hm dJ0_length_10 (Nat.le_of_ble_eq_true rfl) (Nat.le_of_ble_eq_true rfl) hk
theorem kJ3_checkIndexN {l : Launch} {G : GX} {N : Nat} {S : Nat → va_E} {K : RK} {x n : Int32} (h0 : ¬ x < 0) (h1 : x < n) (hk : K (.inl (some (.int x))) S) : RetK l G N mJ3_checkIndex (0, 0, 0, 0) [.int x, .int n, .null] S K := by
  refine ret_enter (by decide +kernel) (Nat.le_of_ble_eq_true rfl) (fun X hX h hm => ?_)
  subst hX
  replace h : OK X G N cJ3_checkIndex_8e157 RJ3 3 (0, 0, 0, 0) := h
  replace hm : OKm X G N K (some .int) (0, 0, 0, 0) := hm
  show AW X G 3 N 0 [(0, _), (1, _), (2, _)] [] S 0 0
  refine r_iload_n (pc' := 1) h dJ3_checkIndex_0 rfl rfl ?_
  refine r_if_lt (tgt := 9) (pc' := 4) h dJ3_checkIndex_1 (by decide) rfl (fun c => absurd c h0) (fun _ => ?_)
  refine r_iload_n (pc' := 5) h dJ3_checkIndex_4 rfl rfl ?_
  refine r_iload_n (pc' := 6) h dJ3_checkIndex_5 rfl rfl ?_
  refine r_icmp_lt (tgt := 16) (pc' := 9) h dJ3_checkIndex_6 (by decide) rfl (fun _ => ?_) (fun c => absurd h1 c)
  refine r_iload_n (pc' := 17) h dJ3_checkIndex_16 rfl rfl ?_
  refine r_ireturn h hm dJ3_checkIndex_17 (Nat.le_of_ble_eq_true rfl) (Nat.le_of_ble_eq_true rfl) hk
theorem kJ3_checkIndexR {l : Launch} {G : GX} {N : Nat} {S : Nat → va_E} {K : RK} {x n : Int32} {t : Nat} (h0 : ¬ x < 0) (h1 : x < n) (hk : K (.inl (some (.int x))) S) : RetK l G N mJ3_checkIndex (0, 0, 0, 0) [.int x, .int n, .ref t] S K := by
  refine ret_enter (by decide +kernel) (Nat.le_of_ble_eq_true rfl) (fun X hX h hm => ?_)
  subst hX
  replace h : OK X G N cJ3_checkIndex_8e157 RJ3 3 (0, 0, 0, 0) := h
  replace hm : OKm X G N K (some .int) (0, 0, 0, 0) := hm
  show AW X G 3 N 0 [(0, _), (1, _), (2, _)] [] S 0 0
  refine r_iload_n (pc' := 1) h dJ3_checkIndex_0 rfl rfl ?_
  refine r_if_lt (tgt := 9) (pc' := 4) h dJ3_checkIndex_1 (by decide) rfl (fun c => absurd c h0) (fun _ => ?_)
  refine r_iload_n (pc' := 5) h dJ3_checkIndex_4 rfl rfl ?_
  refine r_iload_n (pc' := 6) h dJ3_checkIndex_5 rfl rfl ?_
  refine r_icmp_lt (tgt := 16) (pc' := 9) h dJ3_checkIndex_6 (by decide) rfl (fun _ => ?_) (fun c => absurd h1 c)
  refine r_iload_n (pc' := 17) h dJ3_checkIndex_16 rfl rfl ?_
  refine r_ireturn h hm dJ3_checkIndex_17 (Nat.le_of_ble_eq_true rfl) (Nat.le_of_ble_eq_true rfl) hk
theorem kJ0_checkIndex {l : Launch} {G : GX} {N : Nat} {S : Nat → va_E} {K : RK} {x n : Int32} (h0 : ¬ x < 0) (h1 : x < n) (hk : K (.inl none) S) : RetK l G N mJ0_checkIndex (1, 22, 0, 0) [.int x, .int n] S K := by
  refine ret_enter (by decide +kernel) (Nat.le_of_ble_eq_true rfl) (fun X hX h hm => ?_)
  subst hX
  replace h : OK X G N cJ0_checkIndex_df160 RJ0 2 (1, 22, 0, 0) := h
  replace hm : OKm X G N K none (1, 22, 0, 0) := hm
  show AW X G 2 N 0 [(0, _), (1, _)] [] S 0 0
  refine r_iload_n (pc' := 1) h dJ0_checkIndex_0 rfl rfl ?_
  refine r_iload_n (pc' := 2) h dJ0_checkIndex_1 rfl rfl ?_
  refine r_getP (pc' := 5) h dJ0_checkIndex_2 rfl lJ0_1053 ?_ (fun t => ?_)
  · refine r_callS3 (pc' := 8) (M := mJ3_checkIndex) h hm dJ0_checkIndex_5 rfl lJ0_1059 vJ3_checkIndex (Nat.le_of_ble_eq_true rfl) (rrb rfl) (kJ3_checkIndexN h0 h1 ?_)
    show AW X G _ _ _ _ _ _ _ _
    refine r_pop (pc' := 9) h dJ0_checkIndex_8 rfl rfl ?_
    exact r_return h hm dJ0_checkIndex_9 (Nat.le_of_ble_eq_true rfl) (Nat.le_of_ble_eq_true rfl) hk
  · refine r_callS3 (pc' := 8) (M := mJ3_checkIndex) h hm dJ0_checkIndex_5 rfl lJ0_1059 vJ3_checkIndex (Nat.le_of_ble_eq_true rfl) (rrb rfl) (kJ3_checkIndexR h0 h1 ?_)
    show AW X G _ _ _ _ _ _ _ _
    refine r_pop (pc' := 9) h dJ0_checkIndex_8 rfl rfl ?_
    exact r_return h hm dJ0_checkIndex_9 (Nat.le_of_ble_eq_true rfl) (Nat.le_of_ble_eq_true rfl) hk
theorem kJ1_charAt {l : Launch} {G : GX} {N : Nat} {S : Nat → va_E} {K : RK} {i j : Nat} (hi : i < 9) (hj : j < sLn i) (hk : K (.inl (some (.int (sCh i j)))) S) : RetK l G N mJ1_charAt (2, 43, 0, 0) [.ref (gV G i), .int (nI j)] S K := by
  refine ret_enter (by decide +kernel) (Nat.le_of_ble_eq_true rfl) (fun X hX h hm => ?_)
  subst hX
  replace h : OK X G N cJ1_charAt_3b067 RJ1 2 (2, 43, 0, 0) := h
  replace hm : OKm X G N K (some .char) (2, 43, 0, 0) := hm
  show AW X G 2 N 0 [(0, _), (1, _)] [] S 0 0
  have hl := sLn_le i hi
  refine r_iload_n (pc' := 1) h dJ1_charAt_0 rfl rfl ?_
  refine r_aload_n (pc' := 2) h dJ1_charAt_1 rfl rfl ?_
  refine r_alenK (pc' := 3) h hi dJ1_charAt_2 rfl ?_
  refine r_callS2 (pc' := 6) (M := mJ0_checkIndex) h hm dJ1_charAt_3 rfl lJ1_9 vJ0_checkIndex (Nat.le_of_ble_eq_true rfl) (rrb rfl) (kJ0_checkIndex (nI_pos (by omega)) (nI_lt hj (by show sLn i < _; omega)) ?_)
  show AW X G _ _ _ _ _ _ _ _
  refine r_aload_n (pc' := 7) h dJ1_charAt_6 rfl rfl ?_
  refine r_iload_n (pc' := 8) h dJ1_charAt_7 rfl rfl ?_
  refine r_baldK (pc' := 9) h hi (vp_in_nI hj (by show sLn i < _; omega)) dJ1_charAt_8 rfl ?_
  refine r_sipush (pc' := 12) (v := 255) h dJ1_charAt_9 rfl (by decide) ?_
  refine r_iand (pc' := 13) h dJ1_charAt_12 rfl ?_
  refine r_i2c (pc' := 14) h dJ1_charAt_13 rfl ?_
  have e : chr' (sCh i j &&& 255) = sCh i j := sCh_nar i hi j (by omega)
  rw [nI_clamp (by omega)]
  refine r_zreturn h hm dJ1_charAt_14 (Nat.le_of_ble_eq_true rfl) (Nat.le_of_ble_eq_true rfl) (isCh_chr _).1 ?_
  exact kI hk e
theorem kJ0_charAt {l : Launch} {G : GX} {N : Nat} {S : Nat → va_E} {K : RK} {i j : Nat} (hi : i < 9) (hj : j < sLn i) (hk : K (.inl (some (.int (sCh i j)))) S) : RetK l G N mJ0_charAt (3, 64, 0, 0) [.ref (gK G i), .int (nI j)] S K := by
  refine ret_enter (by decide +kernel) (Nat.le_of_ble_eq_true rfl) (fun X hX h hm => ?_)
  subst hX
  replace h : OK X G N cJ0_charAt_5068e RJ0 2 (3, 64, 0, 0) := h
  replace hm : OKm X G N K (some .char) (3, 64, 0, 0) := hm
  show AW X G 2 N 0 [(0, _), (1, _)] [] S 0 0
  refine r_aload_n (pc' := 1) h dJ0_charAt_0 rfl rfl ?_
  refine r_callVK (pc' := 4) (M := mJ0_isLatin1) (As := []) h hm dJ0_charAt_1 rfl lJ0_492 vJ0_isLatin1 hi rfl rfl (Nat.le_of_ble_eq_true rfl) (rrb rfl) (kJ0_isLatin1 hi ?_)
  show AW X G _ _ _ _ _ _ _ _
  refine r_if_eq (tgt := 16) (pc' := 7) h dJ0_charAt_4 (by decide) rfl (fun c => absurd c (by decide)) (fun _ => ?_)
  refine r_aload_n (pc' := 8) h dJ0_charAt_7 rfl rfl ?_
  refine r_getK (pc' := 11) h dJ0_charAt_8 rfl (h.sf.kS.1 i hi).2.2.1 lJ0_9 ?_
  refine r_iload_n (pc' := 12) h dJ0_charAt_11 rfl rfl ?_
  refine r_callS2 (pc' := 15) (M := mJ1_charAt) h hm dJ0_charAt_12 rfl lJ0_495 vJ1_charAt (Nat.le_of_ble_eq_true rfl) (rrb rfl) (kJ1_charAt hi hj ?_)
  show AW X G _ _ _ _ _ _ _ _
  refine r_zreturn h hm dJ0_charAt_15 (Nat.le_of_ble_eq_true rfl) (Nat.le_of_ble_eq_true rfl) (sCh_is hi hj).1 hk
