/-! THE LAW'S isUpwind, output, isLine. -/
section TERN
variable {X : CX} {G : GX} {cc : ByteArray} {own : String} {nL N pc pc' : Nat} {lo : List (Nat × Value)} {st : List Value} {S : Nat → va_E} {a b : Nat} {rm : Nat × Nat × Nat × Nat}
/-- c ? A : B, of a boolean -/
theorem r_tern (h : OK X G N cc own nL rm) {c : Bool} {A B : Int32} {a1 a2 : Int} {p1 p2 p3 : Nat} (d0 : decode cc pc = .ok (.ifCond .eq 7, 3)) (d1 : decode cc p1 = .ok (.iconst a1, 1)) (d2 : decode cc p2 = .ok (.goto 4, 3)) (d3 : decode cc p3 = .ok (.iconst a2, 1)) (hA : Int32.ofInt a1 = A) (hB : Int32.ofInt a2 = B) (hp : p1 = pc + 3 ∧ p2 = pc + 4 ∧ p3 = pc + 7 ∧ pc' = pc + 8)
    (kk : AW X G nL N pc' lo (.int (if c then A else B) :: st) S a b) : AW X G nL N pc lo (.int (b2i c) :: st) S a b := by
  obtain ⟨rfl, rfl, rfl, rfl⟩ := hp
  refine r_if_eqb (tgt := pc + 7) (pc' := pc + 3) h d0 (by omega) rfl (fun c0 => ?_) (fun c0 => ?_)
  · refine r_iconst (pc' := pc + 8) h d3 rfl hB ?_
    rw [c0] at kk
    exact kk
  · refine r_iconst (pc' := pc + 4) h d1 rfl hA ?_
    refine r_goto (tgt := pc + 8) h d2 (by omega) ?_
    rw [c0] at kk
    exact kk
/-- 0 < x ? A : B -/
theorem r_ternLe (h : OK X G N cc own nL rm) {x A B : Int32} {a1 a2 : Int} {p1 p2 p3 : Nat} (d0 : decode cc pc = .ok (.ifCond .le 7, 3)) (d1 : decode cc p1 = .ok (.iconst a1, 1)) (d2 : decode cc p2 = .ok (.goto 4, 3)) (d3 : decode cc p3 = .ok (.iconst a2, 1)) (hA : Int32.ofInt a1 = A) (hB : Int32.ofInt a2 = B) (hp : p1 = pc + 3 ∧ p2 = pc + 4 ∧ p3 = pc + 7 ∧ pc' = pc + 8)
    (kk : AW X G nL N pc' lo (.int (if x ≤ 0 then B else A) :: st) S a b) : AW X G nL N pc lo (.int x :: st) S a b := by
  obtain ⟨rfl, rfl, rfl, rfl⟩ := hp
  refine r_if_le (tgt := pc + 7) (pc' := pc + 3) h d0 (by omega) rfl (fun c0 => ?_) (fun c0 => ?_)
  · refine r_iconst (pc' := pc + 8) h d3 rfl hB ?_
    rw [if_pos c0] at kk
    exact kk
  · refine r_iconst (pc' := pc + 4) h d1 rfl hA ?_
    refine r_goto (tgt := pc + 8) h d2 (by omega) ?_
    rw [if_neg c0] at kk
    exact kk
end TERN
theorem kL_isUpwind {l : Launch} {G : GX} {N : Nat} {S : Nat → va_E} {K : RK} {D : DM} {B : Nat} {M : Nat → Int32} (hD : isD G N S D) (hM : okM B M) (hF : eqF (dF D 0) M) {j w far : Nat} (hj : j < qN M) (hw : w < 4) (hk : K (.inl (some (.int (b2i (runAt M (tv M j 0 + dnW (nI w) (nI far)) (tv M j 1 + rtW (nI w) (nI far))))))) S) : RetK l G N mL_isUpwind (9, 190, 5, 30) [.ref (ad G 0), .int (nI j), .int (nI far), .int (qSgn (nI w))] S K := by
  refine ret_enter (by decide +kernel) (Nat.le_of_ble_eq_true rfl) (fun X hX h hm => ?_)
  subst hX
  replace h : OK X G N cL_isUpwind RL 7 (9, 190, 5, 30) := h
  replace hm : OKm X G N K (some .boolean) (9, 190, 5, 30) := hm
  show AW X G 7 N 0 [(0, _), (1, _), (2, _), (3, _)] [] S 0 0
  obtain ⟨r, c, pp, s, hh, ll, t⟩ := tf_of hM hF hj
  obtain ⟨t1, t2, t3, t4, t5, t6, t7, t8, t9, ⟨x0, x1, x2⟩, v0, v1, v2, v3, v4, v5, v6⟩ := t
  have e0 : vAt 12 (fA (dF D 0) 0) (nI j) = tv M j 0 := v0.trans x0.symm
  have e1 : vAt 12 (fA (dF D 0) 1) (nI j) = tv M j 1 := v1.trans x1.symm
  have tail : AW X G 7 N 60 [(0, .ref (ad G 0)), (1, .int (nI j)), (2, .int (nI far)), (3, .int (qSgn (nI w))), (4, .int (tv M j 0 + dnW (nI w) (nI far))), (5, .int (tv M j 1 + rtW (nI w) (nI far)))] [] S 2 12 := by
    generalize tv M j 0 + dnW (nI w) (nI far) = x at hk ⊢
    generalize tv M j 1 + rtW (nI w) (nI far) = y at hk ⊢
    obtain ⟨z, v, hz, hal, hv, hres⟩ := up_res hM hF x y
    refine r_aload_n (pc' := 61) h dL_isUpwind_60 rfl rfl ?_
    refine r_iload (pc' := 63) h dL_isUpwind_61 rfl rfl ?_
    refine r_iload (pc' := 65) h dL_isUpwind_63 rfl rfl ?_
    refine r_callSL (st := []) (As := [.ref (ad G 0), .int x, .int y]) (M := mL_turbineAt) (pc' := 68) h dL_isUpwind_65 rfl lL_141 wL_turbineAt rfl rfl (Nat.le_of_ble_eq_true rfl) (rrb rfl) (kL_turbineAt hD hz hal (K_int ?_))
    rw [hv]
    refine r_istore (pc' := 70) h dL_isUpwind_68 rfl (by decide) rfl ?_
    refine r_iload (pc' := 72) h dL_isUpwind_70 rfl rfl ?_
    rcases hres with ⟨h1, h2⟩ | ⟨h1, h2, h3⟩
    · refine r_if_lt (tgt := 88) (pc' := 75) h dL_isUpwind_72 (by decide) rfl (fun _ => ?_) (fun c => absurd h1 c)
      refine r_iconst (pc' := 89) (v := 0) h dL_isUpwind_88 rfl (by decide) ?_
      exact r_zreturn h hm dL_isUpwind_89 (Nat.le_of_ble_eq_true rfl) (Nat.le_of_ble_eq_true rfl) (by decide +kernel) (kI hk (by rw [h2]; rfl))
    · refine r_if_lt (tgt := 88) (pc' := 75) h dL_isUpwind_72 (by decide) rfl (fun c => absurd c h1) (fun _ => ?_)
      refine r_aload_n (pc' := 76) h dL_isUpwind_75 rfl rfl ?_
      refine r_iload (pc' := 78) h dL_isUpwind_76 rfl rfl ?_
      refine r_callVL (st := []) (As := [.int v]) (M := mX4_isRunning) (pc' := 81) h dL_isUpwind_78 rfl lL_143 vX4_isRunning rfl hD.l0 hD.o0 rfl rfl (Nat.le_of_ble_eq_true rfl) (rrb rfl) (kX4_isRunning hD ?_)
      rw [if_pos h2, h3]
      refine K_int ?_
      refine r_tern (pc' := 89) (A := 1) (B := 0) h dL_isUpwind_81 dL_isUpwind_84 dL_isUpwind_85 dL_isUpwind_88 (by decide) (by decide) ⟨rfl, rfl, rfl, rfl⟩ ?_
      exact r_zreturn h hm dL_isUpwind_89 (Nat.le_of_ble_eq_true rfl) (Nat.le_of_ble_eq_true rfl) (nar_b _) hk
  refine r_aload_n (pc' := 1) h dL_isUpwind_0 rfl rfl ?_
  refine r_iload_n (pc' := 2) h dL_isUpwind_1 rfl rfl ?_
  refine r_callVL (st := []) (As := [.int (nI j)]) (M := mX4_rowOf) (pc' := 5) h dL_isUpwind_2 rfl lL_135 vX4_rowOf rfl hD.l0 hD.o0 rfl rfl (Nat.le_of_ble_eq_true rfl) (rrb rfl) (kX4_rowOf hD ?_)
  rw [if_pos v5, e0]
  refine K_int ?_
  refine r_iload_n (pc' := 6) h dL_isUpwind_5 rfl rfl ?_
  refine r_bipush (pc' := 8) (v := 78) h dL_isUpwind_6 rfl (by decide) ?_
  rcases (by omega : w = 0 ∨ w = 1 ∨ w = 2 ∨ w = 3) with rfl | rfl | rfl | rfl
  · refine r_icmp_ne (tgt := 16) (pc' := 11) h dL_isUpwind_8 (by decide) rfl (fun c => absurd c (fun z => z rfl)) (fun _ => ?_)
    refine r_iload_n (pc' := 12) h dL_isUpwind_11 rfl rfl ?_
    refine r_ineg (pc' := 13) h dL_isUpwind_12 rfl ?_
    refine r_goto (tgt := 27) h dL_isUpwind_13 (by decide) ?_
    refine r_iadd (pc' := 28) h dL_isUpwind_27 rfl ?_
    refine r_istore (pc' := 30) h dL_isUpwind_28 rfl (by decide) rfl ?_
    refine r_aload_n (pc' := 31) h dL_isUpwind_30 rfl rfl ?_
    refine r_iload_n (pc' := 32) h dL_isUpwind_31 rfl rfl ?_
    refine r_callVL (st := []) (As := [.int (nI j)]) (M := mX4_columnOf) (pc' := 35) h dL_isUpwind_32 rfl lL_138 vX4_columnOf rfl hD.l0 hD.o0 rfl rfl (Nat.le_of_ble_eq_true rfl) (rrb rfl) (kX4_columnOf hD ?_)
    rw [if_pos v5, e1]
    refine K_int ?_
    refine r_iload_n (pc' := 36) h dL_isUpwind_35 rfl rfl ?_
    refine r_bipush (pc' := 38) (v := 69) h dL_isUpwind_36 rfl (by decide) ?_
    refine r_icmp_ne (tgt := 45) (pc' := 41) h dL_isUpwind_38 (by decide) rfl (fun _ => ?_) (fun c => absurd c (by decide))
    refine r_iload_n (pc' := 46) h dL_isUpwind_45 rfl rfl ?_
    refine r_bipush (pc' := 48) (v := 87) h dL_isUpwind_46 rfl (by decide) ?_
    refine r_icmp_ne (tgt := 56) (pc' := 51) h dL_isUpwind_48 (by decide) rfl (fun _ => ?_) (fun c => absurd c (by decide))
    refine r_iconst (pc' := 57) (v := 0) h dL_isUpwind_56 rfl (by decide) ?_
    refine r_iadd (pc' := 58) h dL_isUpwind_57 rfl ?_
    refine r_istore (pc' := 60) h dL_isUpwind_58 rfl (by decide) rfl ?_
    exact tail
  · refine r_icmp_ne (tgt := 16) (pc' := 11) h dL_isUpwind_8 (by decide) rfl (fun _ => ?_) (fun c => absurd c (by decide))
    refine r_iload_n (pc' := 17) h dL_isUpwind_16 rfl rfl ?_
    refine r_bipush (pc' := 19) (v := 83) h dL_isUpwind_17 rfl (by decide) ?_
    refine r_icmp_ne (tgt := 26) (pc' := 22) h dL_isUpwind_19 (by decide) rfl (fun _ => ?_) (fun c => absurd c (by decide))
    refine r_iconst (pc' := 27) (v := 0) h dL_isUpwind_26 rfl (by decide) ?_
    refine r_iadd (pc' := 28) h dL_isUpwind_27 rfl ?_
    refine r_istore (pc' := 30) h dL_isUpwind_28 rfl (by decide) rfl ?_
    refine r_aload_n (pc' := 31) h dL_isUpwind_30 rfl rfl ?_
    refine r_iload_n (pc' := 32) h dL_isUpwind_31 rfl rfl ?_
    refine r_callVL (st := []) (As := [.int (nI j)]) (M := mX4_columnOf) (pc' := 35) h dL_isUpwind_32 rfl lL_138 vX4_columnOf rfl hD.l0 hD.o0 rfl rfl (Nat.le_of_ble_eq_true rfl) (rrb rfl) (kX4_columnOf hD ?_)
    rw [if_pos v5, e1]
    refine K_int ?_
    refine r_iload_n (pc' := 36) h dL_isUpwind_35 rfl rfl ?_
    refine r_bipush (pc' := 38) (v := 69) h dL_isUpwind_36 rfl (by decide) ?_
    refine r_icmp_ne (tgt := 45) (pc' := 41) h dL_isUpwind_38 (by decide) rfl (fun c => absurd c (fun z => z rfl)) (fun _ => ?_)
    refine r_iload_n (pc' := 42) h dL_isUpwind_41 rfl rfl ?_
    refine r_goto (tgt := 57) h dL_isUpwind_42 (by decide) ?_
    refine r_iadd (pc' := 58) h dL_isUpwind_57 rfl ?_
    refine r_istore (pc' := 60) h dL_isUpwind_58 rfl (by decide) rfl ?_
    exact tail
  · refine r_icmp_ne (tgt := 16) (pc' := 11) h dL_isUpwind_8 (by decide) rfl (fun _ => ?_) (fun c => absurd c (by decide))
    refine r_iload_n (pc' := 17) h dL_isUpwind_16 rfl rfl ?_
    refine r_bipush (pc' := 19) (v := 83) h dL_isUpwind_17 rfl (by decide) ?_
    refine r_icmp_ne (tgt := 26) (pc' := 22) h dL_isUpwind_19 (by decide) rfl (fun c => absurd c (fun z => z rfl)) (fun _ => ?_)
    refine r_iload_n (pc' := 23) h dL_isUpwind_22 rfl rfl ?_
    refine r_goto (tgt := 27) h dL_isUpwind_23 (by decide) ?_
    refine r_iadd (pc' := 28) h dL_isUpwind_27 rfl ?_
    refine r_istore (pc' := 30) h dL_isUpwind_28 rfl (by decide) rfl ?_
    refine r_aload_n (pc' := 31) h dL_isUpwind_30 rfl rfl ?_
    refine r_iload_n (pc' := 32) h dL_isUpwind_31 rfl rfl ?_
    refine r_callVL (st := []) (As := [.int (nI j)]) (M := mX4_columnOf) (pc' := 35) h dL_isUpwind_32 rfl lL_138 vX4_columnOf rfl hD.l0 hD.o0 rfl rfl (Nat.le_of_ble_eq_true rfl) (rrb rfl) (kX4_columnOf hD ?_)
    rw [if_pos v5, e1]
    refine K_int ?_
    refine r_iload_n (pc' := 36) h dL_isUpwind_35 rfl rfl ?_
    refine r_bipush (pc' := 38) (v := 69) h dL_isUpwind_36 rfl (by decide) ?_
    refine r_icmp_ne (tgt := 45) (pc' := 41) h dL_isUpwind_38 (by decide) rfl (fun _ => ?_) (fun c => absurd c (by decide))
    refine r_iload_n (pc' := 46) h dL_isUpwind_45 rfl rfl ?_
    refine r_bipush (pc' := 48) (v := 87) h dL_isUpwind_46 rfl (by decide) ?_
    refine r_icmp_ne (tgt := 56) (pc' := 51) h dL_isUpwind_48 (by decide) rfl (fun _ => ?_) (fun c => absurd c (by decide))
    refine r_iconst (pc' := 57) (v := 0) h dL_isUpwind_56 rfl (by decide) ?_
    refine r_iadd (pc' := 58) h dL_isUpwind_57 rfl ?_
    refine r_istore (pc' := 60) h dL_isUpwind_58 rfl (by decide) rfl ?_
    exact tail
  · refine r_icmp_ne (tgt := 16) (pc' := 11) h dL_isUpwind_8 (by decide) rfl (fun _ => ?_) (fun c => absurd c (by decide))
    refine r_iload_n (pc' := 17) h dL_isUpwind_16 rfl rfl ?_
    refine r_bipush (pc' := 19) (v := 83) h dL_isUpwind_17 rfl (by decide) ?_
    refine r_icmp_ne (tgt := 26) (pc' := 22) h dL_isUpwind_19 (by decide) rfl (fun _ => ?_) (fun c => absurd c (by decide))
    refine r_iconst (pc' := 27) (v := 0) h dL_isUpwind_26 rfl (by decide) ?_
    refine r_iadd (pc' := 28) h dL_isUpwind_27 rfl ?_
    refine r_istore (pc' := 30) h dL_isUpwind_28 rfl (by decide) rfl ?_
    refine r_aload_n (pc' := 31) h dL_isUpwind_30 rfl rfl ?_
    refine r_iload_n (pc' := 32) h dL_isUpwind_31 rfl rfl ?_
    refine r_callVL (st := []) (As := [.int (nI j)]) (M := mX4_columnOf) (pc' := 35) h dL_isUpwind_32 rfl lL_138 vX4_columnOf rfl hD.l0 hD.o0 rfl rfl (Nat.le_of_ble_eq_true rfl) (rrb rfl) (kX4_columnOf hD ?_)
    rw [if_pos v5, e1]
    refine K_int ?_
    refine r_iload_n (pc' := 36) h dL_isUpwind_35 rfl rfl ?_
    refine r_bipush (pc' := 38) (v := 69) h dL_isUpwind_36 rfl (by decide) ?_
    refine r_icmp_ne (tgt := 45) (pc' := 41) h dL_isUpwind_38 (by decide) rfl (fun _ => ?_) (fun c => absurd c (by decide))
    refine r_iload_n (pc' := 46) h dL_isUpwind_45 rfl rfl ?_
    refine r_bipush (pc' := 48) (v := 87) h dL_isUpwind_46 rfl (by decide) ?_
    refine r_icmp_ne (tgt := 56) (pc' := 51) h dL_isUpwind_48 (by decide) rfl (fun c => absurd c (fun z => z rfl)) (fun _ => ?_)
    refine r_iload_n (pc' := 52) h dL_isUpwind_51 rfl rfl ?_
    refine r_ineg (pc' := 53) h dL_isUpwind_52 rfl ?_
    refine r_goto (tgt := 57) h dL_isUpwind_53 (by decide) ?_
    refine r_iadd (pc' := 58) h dL_isUpwind_57 rfl ?_
    refine r_istore (pc' := 60) h dL_isUpwind_58 rfl (by decide) rfl ?_
    exact tail
theorem kL_output {l : Launch} {G : GX} {N : Nat} {S : Nat → va_E} {K : RK} {D : DM} {B : Nat} {M : Nat → Int32} (hD : isD G N S D) (hM : okM B M) (hF : eqF (dF D 0) M) {j w sp : Nat} (hj : j < qN M) (hw : w < 4) (hk : K (.inl (some (.int (outp (dF D 0) (nI j) (qSgn (nI w)) (nI sp))))) S) : RetK l G N mL_output (10, 240, 14, 84) [.ref (ad G 0), .int (nI j), .int (qSgn (nI w)), .int (nI sp)] S K := by
  refine ret_enter (by decide +kernel) (Nat.le_of_ble_eq_true rfl) (fun X hX h hm => ?_)
  subst hX
  replace h : OK X G N cL_output RL 7 (10, 240, 14, 84) := h
  replace hm : OKm X G N K (some .int) (10, 240, 14, 84) := hm
  show AW X G 7 N 0 [(0, _), (1, _), (2, _), (3, _)] [] S 0 0
  obtain ⟨r, c, pp, s, hh, ll, t⟩ := tf_of hM hF hj
  obtain ⟨lo', hlz, hla, hlr⟩ := lm_res t
  have hal : vAt 12 (fA (dF D 0) 2) (nI j) = nI pp := t.2.2.2.2.2.2.2.2.2.2.2.2.1
  obtain ⟨t1, t2, t3, t4, t5, t6, t7, t8, t9, ⟨x0, x1, x2⟩, v0, v1, v2, v3, v4, v5, v6⟩ := t
  have hls := los_ex hM hF.1 hj hw
  refine r_aload_n (pc' := 1) h dL_output_0 rfl rfl ?_
  refine r_iload_n (pc' := 2) h dL_output_1 rfl rfl ?_
  refine r_iconst (pc' := 3) (v := 1) h dL_output_2 rfl (by decide) ?_
  refine r_iload_n (pc' := 4) h dL_output_3 rfl rfl ?_
  refine r_callSK (st := []) (As := [.ref (ad G 0), .int (nI j), .int (nI 1), .int (qSgn (nI w))]) (M := mL_isUpwind) (pc' := 7) h dL_output_4 rfl lL_147 vL_isUpwind rfl rfl (Nat.le_of_ble_eq_true rfl) (rrb rfl) (kL_isUpwind hD hM hF (far := 1) hj hw (K_int ?_))
  refine r_tern (pc' := 15) (A := 3) (B := 0) h dL_output_7 dL_output_10 dL_output_11 dL_output_14 (by decide) (by decide) ⟨rfl, rfl, rfl, rfl⟩ ?_
  refine r_aload_n (pc' := 16) h dL_output_15 rfl rfl ?_
  refine r_iload_n (pc' := 17) h dL_output_16 rfl rfl ?_
  refine r_iconst (pc' := 18) (v := 2) h dL_output_17 rfl (by decide) ?_
  refine r_iload_n (pc' := 19) h dL_output_18 rfl rfl ?_
  refine r_callSK (st := [.int _]) (As := [.ref (ad G 0), .int (nI j), .int (nI 2), .int (qSgn (nI w))]) (M := mL_isUpwind) (pc' := 22) h dL_output_19 rfl lL_147 vL_isUpwind rfl rfl (Nat.le_of_ble_eq_true rfl) (rrb rfl) (kL_isUpwind hD hM hF (far := 2) hj hw (K_int ?_))
  refine r_tern (pc' := 30) (A := 1) (B := 0) h dL_output_22 dL_output_25 dL_output_26 dL_output_29 (by decide) (by decide) ⟨rfl, rfl, rfl, rfl⟩ ?_
  refine r_iadd (pc' := 31) h dL_output_30 rfl ?_
  rw [show ((if runAt M (tv M j 0 + dnW (nI w) (nI 1)) (tv M j 1 + rtW (nI w) (nI 1)) then (3 : Int32) else 0) + (if runAt M (tv M j 0 + dnW (nI w) (nI 2)) (tv M j 1 + rtW (nI w) (nI 2)) then 1 else 0)) = los (dF D 0) (nI j) (qSgn (nI w)) from hls.symm]
  refine r_istore (pc' := 33) h dL_output_31 rfl (by decide) rfl ?_
  refine r_aload_n (pc' := 34) h dL_output_33 rfl rfl ?_
  refine r_iload_n (pc' := 35) h dL_output_34 rfl rfl ?_
  refine r_callSL (st := []) (As := [.ref (ad G 0), .int (nI j)]) (M := mL_limitOf) (pc' := 38) h dL_output_35 rfl lL_151 wL_limitOf rfl rfl (Nat.le_of_ble_eq_true rfl) (rrb rfl) (kL_limitOf hD hlz hla (K_int ?_))
  refine r_istore (pc' := 40) h dL_output_38 rfl (by decide) rfl ?_
  refine r_aload_n (pc' := 41) h dL_output_40 rfl rfl ?_
  refine r_iload_n (pc' := 42) h dL_output_41 rfl rfl ?_
  refine r_callVL (st := []) (As := [.int (nI j)]) (M := mX4_isRunning) (pc' := 45) h dL_output_42 rfl lL_143 vX4_isRunning rfl hD.l0 hD.o0 rfl rfl (Nat.le_of_ble_eq_true rfl) (rrb rfl) (kX4_isRunning hD ?_)
  rw [if_pos v5]
  refine K_int ?_
  have hot : lim (dF D 0) (nI j) (pwr (dF D 0) (nI j) (nI sp) (los (dF D 0) (nI j) (qSgn (nI w)))) = (if rdI lo' = -30000 then pwr (dF D 0) (nI j) (nI sp) (los (dF D 0) (nI j) (qSgn (nI w))) else if pwr (dF D 0) (nI j) (nI sp) (los (dF D 0) (nI j) (qSgn (nI w))) < rdI lo' then pwr (dF D 0) (nI j) (nI sp) (los (dF D 0) (nI j) (qSgn (nI w))) else rdI lo') := (ot_res t7 (hlr.imp (fun q => ⟨q.1, q.2.1, q.2.2.1⟩) (fun q => ⟨q.1, q.2.2.1, q.2.2.2.1⟩))).symm
  have tail : ∀ a b, a ≤ 14 → b ≤ 84 → AW X G 7 N 69 [(0, .ref (ad G 0)), (1, .int (nI j)), (2, .int (qSgn (nI w))), (3, .int (nI sp)), (4, .int (los (dF D 0) (nI j) (qSgn (nI w)))), (5, .int (rdI lo'))] [.int (pwr (dF D 0) (nI j) (nI sp) (los (dF D 0) (nI j) (qSgn (nI w))))] S a b := by
    intro a b ha hb
    refine r_istore (pc' := 71) h dL_output_69 rfl (by decide) rfl ?_
    refine r_iload (pc' := 73) h dL_output_71 rfl rfl ?_
    refine r_sipush (pc' := 76) (v := -30000) h dL_output_73 rfl (by decide) ?_
    refine r_icmp_ne (tgt := 84) (pc' := 79) h dL_output_76 (by decide) rfl (fun c1 => ?_) (fun c1 => ?_)
    · refine r_iload (pc' := 86) h dL_output_84 rfl rfl ?_
      refine r_iload (pc' := 88) h dL_output_86 rfl rfl ?_
      refine r_min (pc' := 91) (own := RL) h dL_output_88 rfl lL_164 ⟨rfl, ha, hb⟩ ?_
      rw [if_neg c1] at hot
      exact r_ireturn h hm dL_output_91 ha hb (kI hk (by show _ = lim _ _ _; rw [hot]))
    · refine r_iload (pc' := 81) h dL_output_79 rfl rfl ?_
      refine r_goto (tgt := 91) h dL_output_81 (by decide) ?_
      rw [if_pos c1] at hot
      exact r_ireturn h hm dL_output_91 ha hb (kI hk (by show _ = lim _ _ _; rw [hot]))
  refine r_if_eqb (tgt := 68) (pc' := 48) h dL_output_45 (by decide) rfl (fun c0 => ?_) (fun c0 => ?_)
  · refine r_iconst (pc' := 69) (v := 0) h dL_output_68 rfl (by decide) ?_
    have hp := pw_res (dF D 0) (nI j) (nI sp) (los (dF D 0) (nI j) (qSgn (nI w)))
    rw [c0] at hp
    have hq := tail 13 78 (by decide) (by decide)
    rw [← hp] at hq
    exact hq
  · refine r_aload_n (pc' := 49) h dL_output_48 rfl rfl ?_
    refine r_iload_n (pc' := 50) h dL_output_49 rfl rfl ?_
    refine r_callVL (st := []) (As := [.int (nI j)]) (M := mX4_ratedPower) (pc' := 53) h dL_output_50 rfl lL_153 vX4_ratedPower rfl hD.l0 hD.o0 rfl rfl (Nat.le_of_ble_eq_true rfl) (rrb rfl) (kX4_ratedPower hD ?_)
    rw [if_pos v5]
    refine K_int ?_
    refine r_iconst (pc' := 54) (v := 0) h dL_output_53 rfl (by decide) ?_
    refine r_iload_n (pc' := 55) h dL_output_54 rfl rfl ?_
    refine r_callSK (st := [.int 0, .int (vAt 12 (fA (dF D 0) 2) (nI j))]) (As := [.int (nI sp)]) (M := mL_factor) (pc' := 58) h dL_output_55 rfl lL_156 vL_factor rfl rfl (Nat.le_of_ble_eq_true rfl) (rrb rfl) (kL_factor (K_int ?_))
    refine r_iload (pc' := 60) h dL_output_58 rfl rfl ?_
    refine r_isub (pc' := 61) h dL_output_60 rfl ?_
    refine r_max (pc' := 64) (own := RL) h dL_output_61 rfl lL_159 (rrm rfl) ?_
    refine r_imul (pc' := 65) h dL_output_64 rfl ?_
    refine r_goto (tgt := 69) h dL_output_65 (by decide) ?_
    have hp := pw_res (dF D 0) (nI j) (nI sp) (los (dF D 0) (nI j) (qSgn (nI w)))
    rw [c0, if_pos rfl] at hp
    have hq := tail 14 84 (by decide) (by decide)
    rw [← hp] at hq
    exact hq
