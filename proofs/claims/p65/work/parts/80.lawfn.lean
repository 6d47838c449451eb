/-! THE LAW'S SMALL FUNCTIONS. -/
def MSH (M : MI) (hh : HHs) (n : Nat) : Prop := Cond.static M.1 ∈ gw ∧ Cond.initialized M.1.cls ∈ gw ∧ Cond.codeWith M.1 M.2.1 M.2.2.1 M.2.2.2 hh ∈ gw ∧ (M.1.cls ≠ "java/lang/invoke/MethodHandle" ∧ M.1.cls ≠ "java/lang/invoke/VarHandle") ∧ (parseMethodDescriptor M.1.desc).map (fun d => d.parameters.length) = some n
theorem wsH_in {M : MI} {hh : HHs} (hc : Cond.codeWith M.1 M.2.1 M.2.2.1 M.2.2.2 hh ∈ gw) : GoodIn gw (wsH M hh) := fun w hw => by
  rcases List.mem_cons.mp hw with rfl | hw
  · exact ⟨hc, gw_ok _ hc⟩
  · exact ⟨hw, gw_ok _ hw⟩
abbrev mL_addTurbine : MI := (yL_addTurbine, cL_addTurbine, 5, (some .int))
theorem wL_addTurbine : MSH mL_addTurbine [(0, 7, 8, 19), (0, 7, 14, 21), (0, 7, 20, 23)] 4 := ⟨gw_in (tb_4 10 (by decide +kernel)) (by decide +kernel), gw_in (tb_1 0 (by decide +kernel)) (by decide +kernel), gw_in (tb_4 11 (by decide +kernel)) (by decide +kernel), ⟨by decide +kernel, by decide +kernel⟩, by decide +kernel⟩
abbrev mL_fail : MI := (yL_fail, cL_fail, 3, (some .int))
theorem wL_fail : MSH mL_fail [(0, 5, 6, 19), (0, 5, 11, 23)] 2 := ⟨gw_in (tb_4 141 (by decide +kernel)) (by decide +kernel), gw_in (tb_1 0 (by decide +kernel)) (by decide +kernel), gw_in (tb_4 142 (by decide +kernel)) (by decide +kernel), ⟨by decide +kernel, by decide +kernel⟩, by decide +kernel⟩
abbrev mL_sendCrew : MI := (yL_sendCrew, cL_sendCrew, 4, (some .int))
theorem wL_sendCrew : MSH mL_sendCrew [(0, 6, 7, 19), (0, 6, 12, 21), (0, 6, 17, 23)] 3 := ⟨gw_in (tb_4 152 (by decide +kernel)) (by decide +kernel), gw_in (tb_1 0 (by decide +kernel)) (by decide +kernel), gw_in (tb_4 153 (by decide +kernel)) (by decide +kernel), ⟨by decide +kernel, by decide +kernel⟩, by decide +kernel⟩
abbrev mL_recallCrew : MI := (yL_recallCrew, cL_recallCrew, 3, (some .int))
theorem wL_recallCrew : MSH mL_recallCrew [(0, 5, 6, 19), (0, 5, 11, 23)] 2 := ⟨gw_in (tb_4 164 (by decide +kernel)) (by decide +kernel), gw_in (tb_1 0 (by decide +kernel)) (by decide +kernel), gw_in (tb_4 165 (by decide +kernel)) (by decide +kernel), ⟨by decide +kernel, by decide +kernel⟩, by decide +kernel⟩
abbrev mL_curtail : MI := (yL_curtail, cL_curtail, 4, (some .int))
theorem wL_curtail : MSH mL_curtail [(0, 6, 7, 19), (0, 6, 12, 21), (0, 6, 17, 23)] 3 := ⟨gw_in (tb_4 175 (by decide +kernel)) (by decide +kernel), gw_in (tb_1 0 (by decide +kernel)) (by decide +kernel), gw_in (tb_4 176 (by decide +kernel)) (by decide +kernel), ⟨by decide +kernel, by decide +kernel⟩, by decide +kernel⟩
abbrev mL_release : MI := (yL_release, cL_release, 3, (some .int))
theorem wL_release : MSH mL_release [(0, 5, 6, 19), (0, 5, 11, 23)] 2 := ⟨gw_in (tb_4 186 (by decide +kernel)) (by decide +kernel), gw_in (tb_1 0 (by decide +kernel)) (by decide +kernel), gw_in (tb_4 187 (by decide +kernel)) (by decide +kernel), ⟨by decide +kernel, by decide +kernel⟩, by decide +kernel⟩
abbrev mL_turbineAt : MI := (yL_turbineAt, cL_turbineAt, 4, (some .int))
theorem wL_turbineAt : MSH mL_turbineAt [(0, 6, 7, 19), (0, 6, 12, 49)] 3 := ⟨gw_in (tb_5 28 (by decide +kernel)) (by decide +kernel), gw_in (tb_1 0 (by decide +kernel)) (by decide +kernel), gw_in (tb_5 29 (by decide +kernel)) (by decide +kernel), ⟨by decide +kernel, by decide +kernel⟩, by decide +kernel⟩
abbrev mL_limitOf : MI := (yL_limitOf, cL_limitOf, 3, (some .int))
theorem wL_limitOf : MSH mL_limitOf [(0, 5, 6, 19), (0, 5, 11, 49)] 2 := ⟨gw_in (tb_3 180 (by decide +kernel)) (by decide +kernel), gw_in (tb_1 0 (by decide +kernel)) (by decide +kernel), gw_in (tb_3 181 (by decide +kernel)) (by decide +kernel), ⟨by decide +kernel, by decide +kernel⟩, by decide +kernel⟩
abbrev mL_serviceHoursLeft : MI := (yL_serviceHoursLeft, cL_serviceHoursLeft, 3, (some .int))
theorem wL_serviceHoursLeft : MSH mL_serviceHoursLeft [(0, 5, 6, 19), (0, 5, 11, 49)] 2 := ⟨gw_in (tb_3 210 (by decide +kernel)) (by decide +kernel), gw_in (tb_1 0 (by decide +kernel)) (by decide +kernel), gw_in (tb_3 211 (by decide +kernel)) (by decide +kernel), ⟨by decide +kernel, by decide +kernel⟩, by decide +kernel⟩
abbrev mL_setWind : MI := (yL_setWind, cL_setWind, 4, (some .int))
theorem wL_setWind : MSH mL_setWind [(0, 6, 7, 21)] 3 := ⟨gw_in (tb_4 115 (by decide +kernel)) (by decide +kernel), gw_in (tb_1 0 (by decide +kernel)) (by decide +kernel), gw_in (tb_4 116 (by decide +kernel)) (by decide +kernel), ⟨by decide +kernel, by decide +kernel⟩, by decide +kernel⟩
abbrev mL_setGridLimit : MI := (yL_setGridLimit, cL_setGridLimit, 3, (some .int))
theorem wL_setGridLimit : MSH mL_setGridLimit [(0, 5, 6, 21)] 2 := ⟨gw_in (tb_4 198 (by decide +kernel)) (by decide +kernel), gw_in (tb_1 0 (by decide +kernel)) (by decide +kernel), gw_in (tb_4 199 (by decide +kernel)) (by decide +kernel), ⟨by decide +kernel, by decide +kernel⟩, by decide +kernel⟩
abbrev mL_placeBid : MI := (yL_placeBid, cL_placeBid, 5, (some .int))
theorem wL_placeBid : MSH mL_placeBid [(0, 7, 8, 19), (0, 7, 14, 21), (0, 7, 20, 23)] 4 := ⟨gw_in (tb_4 127 (by decide +kernel)) (by decide +kernel), gw_in (tb_1 0 (by decide +kernel)) (by decide +kernel), gw_in (tb_4 128 (by decide +kernel)) (by decide +kernel), ⟨by decide +kernel, by decide +kernel⟩, by decide +kernel⟩
abbrev mL_withdrawBid : MI := (yL_withdrawBid, cL_withdrawBid, 3, (some .int))
theorem wL_withdrawBid : MSH mL_withdrawBid [(0, 5, 6, 19), (0, 5, 11, 23)] 2 := ⟨gw_in (tb_4 232 (by decide +kernel)) (by decide +kernel), gw_in (tb_1 0 (by decide +kernel)) (by decide +kernel), gw_in (tb_4 233 (by decide +kernel)) (by decide +kernel), ⟨by decide +kernel, by decide +kernel⟩, by decide +kernel⟩
abbrev mL_bidPrice : MI := (yL_bidPrice, cL_bidPrice, 3, (some .int))
theorem wL_bidPrice : MSH mL_bidPrice [(0, 5, 6, 19), (0, 5, 11, 49)] 2 := ⟨gw_in (tb_3 218 (by decide +kernel)) (by decide +kernel), gw_in (tb_1 0 (by decide +kernel)) (by decide +kernel), gw_in (tb_3 219 (by decide +kernel)) (by decide +kernel), ⟨by decide +kernel, by decide +kernel⟩, by decide +kernel⟩
abbrev mL_bidQuantity : MI := (yL_bidQuantity, cL_bidQuantity, 3, (some .int))
theorem wL_bidQuantity : MSH mL_bidQuantity [(0, 5, 6, 19), (0, 5, 11, 49)] 2 := ⟨gw_in (tb_3 221 (by decide +kernel)) (by decide +kernel), gw_in (tb_1 0 (by decide +kernel)) (by decide +kernel), gw_in (tb_3 222 (by decide +kernel)) (by decide +kernel), ⟨by decide +kernel, by decide +kernel⟩, by decide +kernel⟩
abbrev mL_bidByPrice : MI := (yL_bidByPrice, cL_bidByPrice, 3, (some .int))
theorem wL_bidByPrice : MSH mL_bidByPrice [(0, 5, 6, 49)] 2 := ⟨gw_in (tb_3 224 (by decide +kernel)) (by decide +kernel), gw_in (tb_1 0 (by decide +kernel)) (by decide +kernel), gw_in (tb_3 225 (by decide +kernel)) (by decide +kernel), ⟨by decide +kernel, by decide +kernel⟩, by decide +kernel⟩
abbrev mL_passHours : MI := (yL_passHours, cL_passHours, 3, (some .int))
theorem wL_passHours : MSH mL_passHours [(0, 5, 6, 21)] 2 := ⟨gw_in (tb_5 3 (by decide +kernel)) (by decide +kernel), gw_in (tb_1 0 (by decide +kernel)) (by decide +kernel), gw_in (tb_5 4 (by decide +kernel)) (by decide +kernel), ⟨by decide +kernel, by decide +kernel⟩, by decide +kernel⟩
abbrev mL_hoursToBid : MI := (yL_hoursToBid, cL_hoursToBid, 2, (some .int))
theorem wL_hoursToBid : MSH mL_hoursToBid [(0, 4, 5, 49)] 1 := ⟨gw_in (tb_3 227 (by decide +kernel)) (by decide +kernel), gw_in (tb_1 0 (by decide +kernel)) (by decide +kernel), gw_in (tb_3 228 (by decide +kernel)) (by decide +kernel), ⟨by decide +kernel, by decide +kernel⟩, by decide +kernel⟩
abbrev mL_turbineByOutput : MI := (yL_turbineByOutput, cL_turbineByOutput, 3, (some .int))
theorem wL_turbineByOutput : MSH mL_turbineByOutput [(0, 5, 6, 49)] 2 := ⟨gw_in (tb_3 235 (by decide +kernel)) (by decide +kernel), gw_in (tb_1 0 (by decide +kernel)) (by decide +kernel), gw_in (tb_3 236 (by decide +kernel)) (by decide +kernel), ⟨by decide +kernel, by decide +kernel⟩, by decide +kernel⟩
section LFR
variable {X : CX} {G : GX} {cc : ByteArray} {own : String} {nL N pc pc' : Nat} {lo : List (Nat × Value)} {st stk : List Value} {S : Nat → va_E} {a b : Nat} {rm : Nat × Nat × Nat × Nat}
theorem r_callSL (h : OK X G N cc own nL rm) {M : MI} {hh : HHs} {rm' : Nat × Nat × Nat × Nat} {index n : Nat} {As : List Value} (hd : decode cc pc = .ok (.invokestatic index, 3)) (hp : pc + 3 = pc')
    (hl : Cond.methodLink own index M.1 ∈ gw) (hM : MSH M hh n) (hn : As.length = n) (hs : stk = As.reverse ++ st) (hW : (st.map fun v => v.category).sum ≤ 8) (hr : RR rm rm' M.2.2.1 a b)
    (hcall : RetH X.2.1 G N M hh rm' As S (KL X G nL N pc' lo st (a + rm'.2.2.1) (b + rm'.2.2.2))) : AW X G nL N pc lo stk S a b := by
  subst hp
  subst hs
  intro H locs ls hP hS hl2
  have hts := h.2.2.2.2.1
  have hN : NC X.2.2.2.2.1 := h.2.2.2.2.2.2.2.2.2.1.2.2.2.2.2.2.2.2.2.1
  intro T hT XX
  refine back_toL (rm' := rm') (st := st) (av := As) h hS hl2 hT XX ?_
  refine vx_runSX (hh := hh) (Ts := gw) (cc := cc) (nL := nL) (own := own) (n := n) (bytes := M.2.1) (maxL := M.2.2.1) (ret := M.2.2.2) (ws := wsH M hh) (rm := rmR rm') (Pc := va_Pc As (PH G N S)) ⟨h.1, h.2.1, h.2.2.1, h.2.2.2.1, hts⟩ (hcall h.2.2.2.2.2.2.2.2.1)
    ⟨⟨rfl, rfl, Nat.le_trans hr.1 h.2.2.2.2.2.2.2.2.2.2.2.1, Nat.le_trans hr.2.1 h.2.2.2.2.2.2.2.2.2.2.2.2.1, pay_in hts (wsH_in hM.2.2.1), List.mem_cons_self⟩, hts _ hM.2.2.1, hts _ hM.2.1, hM.2.2.2.1, fun sig hsig => ?_, hts _ hl, hts _ hM.1⟩
    ⟨PH.blind, fun U hU hW => ⟨(pw_pre (av := As) h hP hS U hU hW).1, (pw_pre (av := As) h hP hS U hU hW).2, hN.moved hW.alike⟩⟩ rfl hn hl2.1 rfl (lv_room hW) hd ⟨Nat.le_trans hr.2.2.1 h.2.2.2.2.2.2.2.2.2.2.2.2.2.1, Nat.le_trans hr.2.2.2 h.2.2.2.2.2.2.2.2.2.2.2.2.2.2⟩
  have h2 := hM.2.2.2.2
  rw [hsig] at h2
  exact (Option.some.inj h2).symm
/-- the script: an element, its length -/
theorem r_sldS (h : OK X G N cc own nL rm) {i : Int32} (hin : vp_in i (gSl G)) (hd : decode cc pc = .ok (.iaload, 1)) (hp : pc + 1 = pc') (kk : AW X G nL N pc' lo (.int (gSx G i.toNatClampNeg) :: st) S a b) : AW X G nL N pc lo (.int i :: .ref (gSa G) :: st) S a b := by
  subst hp
  intro H locs ls hP hS hl
  exact va_ti h.1 h.2.1 h.2.2.2.2.2.2.2.2.2.1.2.2.2.2.2.2.2.2.2.2 hS hin rfl hd (kk H locs ls hP hS hl)
theorem r_slenS (h : OK X G N cc own nL rm) (hd : decode cc pc = .ok (.arraylength, 1)) (hp : pc + 1 = pc') (kk : AW X G nL N pc' lo (.int (nI (gSl G)) :: st) S a b) : AW X G nL N pc lo (.ref (gSa G) :: st) S a b := by
  subst hp
  intro H locs ls hP hS hl
  exact va_tlen h.1 h.2.1 h.2.2.2.2.2.2.2.2.2.1.2.2.2.2.2.2.2.2.2.2 hS rfl hd (kk H locs ls hP hS hl)
end LFR
theorem nI_bv (x : Int32) : nI x.toBitVec.toNat = x := by
  apply Int32.toBitVec_inj.mp
  show BitVec.ofNat 32 x.toBitVec.toNat = x.toBitVec
  simp
theorem ush3 (x : Int32) : ∃ m, m < 2 ^ 29 ∧ (x.toUInt32 >>> ((3 : Int32).toUInt32 &&& Int32.toUInt32 31)).toInt32 = nI m := by
  have hx := x.toBitVec.isLt
  refine ⟨x.toBitVec.toNat / 2 ^ 3, by omega, ?_⟩
  have e := pk_ushrN (n := x.toBitVec.toNat) hx 3 3 (by decide)
  rw [nI_bv] at e
  exact e
/-- a direction by its number -/
def wayI (x : Int32) : Int32 := if x - x / 4 * 4 = 0 then 78 else if x - x / 4 * 4 = 1 then 69 else if x - x / 4 * 4 = 2 then 83 else 87
theorem wayI_w : ∀ w, w < 4 → wayI (nI w) = qSgn (nI w) := by decide +kernel
theorem wayI_ch (x : Int32) : isCh (wayI x) := by
  unfold wayI
  repeat' split
  all_goals exact ⟨rfl, rfl⟩
theorem fac_lt {x : Int32} {n m : Nat} (hn : n < 2 ^ 20) (hm : m = n + 1) (h : ¬ nI n < x) : x < nI m := by
  rw [Int32.lt_iff_toInt_lt] at h ⊢
  rw [nI_toInt (by omega)] at h ⊢
  omega
theorem fac_nlt {x : Int32} {n m : Nat} (hn : n < 2 ^ 20) (hm : m = n + 1) (h : nI n < x) : ¬ x < nI m := by
  rw [Int32.lt_iff_toInt_lt] at h ⊢
  rw [nI_toInt (by omega)] at h ⊢
  omega
theorem kL_cell {l : Launch} {G : GX} {N : Nat} {S : Nat → va_E} {K : RK} {k : Nat} (hk0 : k < 2 ^ 31) (hL : gSl G ≤ 260) (hk : ∀ v, K (.inl (some (.int v))) S) : RetK l G N mL_cell (0, 0, 0, 0) [.ref (gSa G), .int (nI k)] S K := by
  refine ret_enter (by decide +kernel) (Nat.le_of_ble_eq_true rfl) (fun X hX h hm => ?_)
  subst hX
  replace h : OK X G N cL_cell RL 2 (0, 0, 0, 0) := h
  replace hm : OKm X G N K (some .int) (0, 0, 0, 0) := hm
  show AW X G 2 N 0 [(0, _), (1, _)] [] S 0 0
  refine r_iload_n (pc' := 1) h dL_cell_0 rfl rfl ?_
  refine r_aload_n (pc' := 2) h dL_cell_1 rfl rfl ?_
  refine r_slenS (pc' := 3) h dL_cell_2 rfl ?_
  refine r_icmp_ge (tgt := 12) (pc' := 6) h dL_cell_3 (by decide) rfl (fun c => ?_) (fun c => ?_)
  · refine r_sipush (pc' := 15) (v := 7919) h dL_cell_12 rfl (by decide) ?_
    refine r_iload_n (pc' := 16) h dL_cell_15 rfl rfl ?_
    refine r_imul (pc' := 17) h dL_cell_16 rfl ?_
    refine r_bipush (pc' := 19) (v := 12) h dL_cell_17 rfl (by decide) ?_
    refine r_iadd (pc' := 20) h dL_cell_19 rfl ?_
    exact r_ireturn h hm dL_cell_20 (Nat.le_of_ble_eq_true rfl) (Nat.le_of_ble_eq_true rfl) (hk _)
  · refine r_aload_n (pc' := 7) h dL_cell_6 rfl rfl ?_
    refine r_iload_n (pc' := 8) h dL_cell_7 rfl rfl ?_
    refine r_sldS (pc' := 9) h (vp_in_c (by omega) (nI_pos hk0) c) dL_cell_8 rfl ?_
    refine r_goto (tgt := 20) h dL_cell_9 (by decide) ?_
    exact r_ireturn h hm dL_cell_20 (Nat.le_of_ble_eq_true rfl) (Nat.le_of_ble_eq_true rfl) (hk _)
theorem kL_some {l : Launch} {G : GX} {N : Nat} {S : Nat → va_E} {K : RK} {x : Int32} {n : Nat} (hx : ¬ x < 0) (hn : 0 < n) (hn2 : n < 2 ^ 31) (hL : gSl G ≤ 260) (hk : ∀ j, j < n → K (.inl (some (.int (nI j)))) S) : RetK l G N mL_some (1, 30, 0, 0) [.ref (gSa G), .int x, .int (nI n)] S K := by
  refine ret_enter (by decide +kernel) (Nat.le_of_ble_eq_true rfl) (fun X hX h hm => ?_)
  subst hX
  replace h : OK X G N cL_some RL 3 (1, 30, 0, 0) := h
  replace hm : OKm X G N K (some .int) (1, 30, 0, 0) := hm
  show AW X G 3 N 0 [(0, _), (1, _), (2, _)] [] S 0 0
  obtain ⟨k, hk0, rfl⟩ := nI_of hx
  refine r_aload_n (pc' := 1) h dL_some_0 rfl rfl ?_
  refine r_iload_n (pc' := 2) h dL_some_1 rfl rfl ?_
  refine r_callSK (st := []) (As := [.ref (gSa G), .int (nI k)]) (M := mL_cell) (pc' := 5) h dL_some_2 rfl lL_7 vL_cell rfl rfl (Nat.le_of_ble_eq_true rfl) (rrb rfl) (kL_cell hk0 hL (fun v => K_int ?_))
  refine r_iconst (pc' := 6) (v := 3) h dL_some_5 rfl (by decide) ?_
  obtain ⟨m, hm1, hm2⟩ := ush3 v
  refine r_iushr (pc' := 7) h dL_some_6 rfl hm2 ?_
  refine r_iload_n (pc' := 8) h dL_some_7 rfl rfl ?_
  refine r_irem (pc' := 9) h dL_some_8 rfl (nI_ne0 hn hn2) ?_
  rw [pk_rem (by omega) hn hn2]
  exact r_ireturn h hm dL_some_9 (Nat.le_of_ble_eq_true rfl) (Nat.le_of_ble_eq_true rfl) (hk _ (Nat.mod_lt _ hn))
theorem kL_way {l : Launch} {G : GX} {N : Nat} {S : Nat → va_E} {K : RK} {x : Int32} (hk : K (.inl (some (.int (wayI x)))) S) : RetK l G N mL_way (0, 0, 0, 0) [.int x] S K := by
  refine ret_enter (by decide +kernel) (Nat.le_of_ble_eq_true rfl) (fun X hX h hm => ?_)
  subst hX
  replace h : OK X G N cL_way RL 1 (0, 0, 0, 0) := h
  replace hm : OKm X G N K (some .char) (0, 0, 0, 0) := hm
  show AW X G 1 N 0 [(0, _)] [] S 0 0
  refine r_iload_n (pc' := 1) h dL_way_0 rfl rfl ?_
  refine r_iconst (pc' := 2) (v := 4) h dL_way_1 rfl (by decide) ?_
  refine r_irem (pc' := 3) h dL_way_2 rfl (by decide) ?_
  refine r_if_ne (tgt := 11) (pc' := 6) h dL_way_3 (by decide) rfl (fun c0 => ?_) (fun c0 => ?_)
  · refine r_iload_n (pc' := 12) h dL_way_11 rfl rfl ?_
    refine r_iconst (pc' := 13) (v := 4) h dL_way_12 rfl (by decide) ?_
    refine r_irem (pc' := 14) h dL_way_13 rfl (by decide) ?_
    refine r_iconst (pc' := 15) (v := 1) h dL_way_14 rfl (by decide) ?_
    refine r_icmp_ne (tgt := 23) (pc' := 18) h dL_way_15 (by decide) rfl (fun c1 => ?_) (fun c1 => ?_)
    · refine r_iload_n (pc' := 24) h dL_way_23 rfl rfl ?_
      refine r_iconst (pc' := 25) (v := 4) h dL_way_24 rfl (by decide) ?_
      refine r_irem (pc' := 26) h dL_way_25 rfl (by decide) ?_
      refine r_iconst (pc' := 27) (v := 2) h dL_way_26 rfl (by decide) ?_
      refine r_icmp_ne (tgt := 35) (pc' := 30) h dL_way_27 (by decide) rfl (fun c2 => ?_) (fun c2 => ?_)
      · refine r_bipush (pc' := 37) (v := 87) h dL_way_35 rfl (by decide) ?_
        refine r_zreturn h hm dL_way_37 (Nat.le_of_ble_eq_true rfl) (Nat.le_of_ble_eq_true rfl) (by decide +kernel) ?_
        exact kI hk (by unfold wayI; rw [if_neg c0, if_neg c1, if_neg c2])
      · refine r_bipush (pc' := 32) (v := 83) h dL_way_30 rfl (by decide) ?_
        refine r_goto (tgt := 37) h dL_way_32 (by decide) ?_
        refine r_zreturn h hm dL_way_37 (Nat.le_of_ble_eq_true rfl) (Nat.le_of_ble_eq_true rfl) (by decide +kernel) ?_
        exact kI hk (by unfold wayI; rw [if_neg c0, if_neg c1, if_pos c2])
    · refine r_bipush (pc' := 20) (v := 69) h dL_way_18 rfl (by decide) ?_
      refine r_goto (tgt := 37) h dL_way_20 (by decide) ?_
      refine r_zreturn h hm dL_way_37 (Nat.le_of_ble_eq_true rfl) (Nat.le_of_ble_eq_true rfl) (by decide +kernel) ?_
      exact kI hk (by unfold wayI; rw [if_neg c0, if_pos c1])
  · refine r_bipush (pc' := 8) (v := 78) h dL_way_6 rfl (by decide) ?_
    refine r_goto (tgt := 37) h dL_way_8 (by decide) ?_
    refine r_zreturn h hm dL_way_37 (Nat.le_of_ble_eq_true rfl) (Nat.le_of_ble_eq_true rfl) (by decide +kernel) ?_
    exact kI hk (by unfold wayI; rw [if_pos c0])
theorem kL_factor {l : Launch} {G : GX} {N : Nat} {S : Nat → va_E} {K : RK} {x : Int32} (hk : K (.inl (some (.int (fac' x)))) S) : RetK l G N mL_factor (0, 0, 0, 0) [.int x] S K := by
  refine ret_enter (by decide +kernel) (Nat.le_of_ble_eq_true rfl) (fun X hX h hm => ?_)
  subst hX
  replace h : OK X G N cL_factor RL 1 (0, 0, 0, 0) := h
  replace hm : OKm X G N K (some .int) (0, 0, 0, 0) := hm
  show AW X G 1 N 0 [(0, _)] [] S 0 0
  refine r_iload_n (pc' := 1) h dL_factor_0 rfl rfl ?_
  refine r_iconst (pc' := 2) (v := 3) h dL_factor_1 rfl (by decide) ?_
  refine r_icmp_lt (tgt := 11) (pc' := 5) h dL_factor_2 (by decide) rfl (fun c0 => ?_) (fun c0 => ?_)
  · refine r_iconst (pc' := 12) (v := 0) h dL_factor_11 rfl (by decide) ?_
    refine r_goto (tgt := 47) h dL_factor_12 (by decide) ?_
    refine r_ireturn h hm dL_factor_47 (Nat.le_of_ble_eq_true rfl) (Nat.le_of_ble_eq_true rfl) ?_
    exact kI hk (by unfold fac'; rw [if_pos c0])
  · refine r_iload_n (pc' := 6) h dL_factor_5 rfl rfl ?_
    refine r_bipush (pc' := 8) (v := 22) h dL_factor_6 rfl (by decide) ?_
    refine r_icmp_le (tgt := 15) (pc' := 11) h dL_factor_8 (by decide) rfl (fun c1 => ?_) (fun c1 => ?_)
    · refine r_iload_n (pc' := 16) h dL_factor_15 rfl rfl ?_
      refine r_iconst (pc' := 17) (v := 5) h dL_factor_16 rfl (by decide) ?_
      refine r_icmp_ge (tgt := 24) (pc' := 20) h dL_factor_17 (by decide) rfl (fun c2 => ?_) (fun c2 => ?_)
      · have d2 : (4 : Int32) < x := Decidable.not_not.mp (fun z => absurd c2 (Int32.not_le.mpr (fac_lt (n := 4) (m := 5) (by decide) rfl z)))
        refine r_iload_n (pc' := 25) h dL_factor_24 rfl rfl ?_
        refine r_bipush (pc' := 27) (v := 8) h dL_factor_25 rfl (by decide) ?_
        refine r_icmp_ge (tgt := 34) (pc' := 30) h dL_factor_27 (by decide) rfl (fun c3 => ?_) (fun c3 => ?_)
        · have d3 : (7 : Int32) < x := Decidable.not_not.mp (fun z => absurd c3 (Int32.not_le.mpr (fac_lt (n := 7) (m := 8) (by decide) rfl z)))
          refine r_iload_n (pc' := 35) h dL_factor_34 rfl rfl ?_
          refine r_bipush (pc' := 37) (v := 12) h dL_factor_35 rfl (by decide) ?_
          refine r_icmp_ge (tgt := 45) (pc' := 40) h dL_factor_37 (by decide) rfl (fun c4 => ?_) (fun c4 => ?_)
          · have d4 : (11 : Int32) < x := Decidable.not_not.mp (fun z => absurd c4 (Int32.not_le.mpr (fac_lt (n := 11) (m := 12) (by decide) rfl z)))
            refine r_bipush (pc' := 47) (v := 10) h dL_factor_45 rfl (by decide) ?_
            refine r_ireturn h hm dL_factor_47 (Nat.le_of_ble_eq_true rfl) (Nat.le_of_ble_eq_true rfl) ?_
            exact kI hk (by unfold fac'; rw [if_neg c0, if_pos c1, if_pos d2, if_pos d3, if_pos d4])
          · have d4 : ¬ (11 : Int32) < x := fun z => c4 (Int32.not_lt.mp (fac_nlt (n := 11) (m := 12) (by decide) rfl z))
            refine r_bipush (pc' := 42) (v := 8) h dL_factor_40 rfl (by decide) ?_
            refine r_goto (tgt := 47) h dL_factor_42 (by decide) ?_
            refine r_ireturn h hm dL_factor_47 (Nat.le_of_ble_eq_true rfl) (Nat.le_of_ble_eq_true rfl) ?_
            exact kI hk (by unfold fac'; rw [if_neg c0, if_pos c1, if_pos d2, if_pos d3, if_neg d4])
        · have d3 : ¬ (7 : Int32) < x := fun z => c3 (Int32.not_lt.mp (fac_nlt (n := 7) (m := 8) (by decide) rfl z))
          refine r_iconst (pc' := 31) (v := 5) h dL_factor_30 rfl (by decide) ?_
          refine r_goto (tgt := 47) h dL_factor_31 (by decide) ?_
          refine r_ireturn h hm dL_factor_47 (Nat.le_of_ble_eq_true rfl) (Nat.le_of_ble_eq_true rfl) ?_
          exact kI hk (by unfold fac'; rw [if_neg c0, if_pos c1, if_pos d2, if_neg d3])
      · have d2 : ¬ (4 : Int32) < x := fun z => c2 (Int32.not_lt.mp (fac_nlt (n := 4) (m := 5) (by decide) rfl z))
        refine r_iconst (pc' := 21) (v := 2) h dL_factor_20 rfl (by decide) ?_
        refine r_goto (tgt := 47) h dL_factor_21 (by decide) ?_
        refine r_ireturn h hm dL_factor_47 (Nat.le_of_ble_eq_true rfl) (Nat.le_of_ble_eq_true rfl) ?_
        exact kI hk (by unfold fac'; rw [if_neg c0, if_pos c1, if_neg d2])
    · refine r_iconst (pc' := 12) (v := 0) h dL_factor_11 rfl (by decide) ?_
      refine r_goto (tgt := 47) h dL_factor_12 (by decide) ?_
      refine r_ireturn h hm dL_factor_47 (Nat.le_of_ble_eq_true rfl) (Nat.le_of_ble_eq_true rfl) ?_
      exact kI hk (by unfold fac'; rw [if_neg c0, if_neg c1])
