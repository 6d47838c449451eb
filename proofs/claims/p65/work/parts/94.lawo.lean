/-! THE LAW'S ORDERS. -/
theorem lex_le {X Y : Nat → Nat} {x y : Nat} (h : lexB X Y x y = true) : X y ≤ X x ∧ (X x = X y → Y y ≤ Y x ∧ (Y x = Y y → x < y)) := by
  unfold lexB at h
  rw [decide_eq_true_eq] at h
  omega
theorem sub_nlt {x y : Nat} (hx : x < 2 ^ 30) (h : y ≤ x) : ¬ nI x - nI y < 0 := by
  rw [pk_sub h]
  exact nI_pos (by omega)
theorem nI_s1 (j : Nat) : nI (j + 1) - 1 = nI j := by
  rw [← nI_1, Int32.add_sub_cancel]
theorem law_ob {X : CX} {G : GX} {B n w sp q0 a b : Nat} {S : Nat → va_E} {D : DM} {Q : MM} {tt tot run srv : Int32} (h : OK X G 119 code RL 19 rmL) (hD : isD G 119 S D) (hR : Rel B 0 D Q) (hn : n = qN (mM Q)) {best most bids nxt k1 : Int32} (ha : a + 240 ≤ 811098) (hb : b + 1440 ≤ 6651793)
    (kk : ∀ k2 : Int32, AW X G 19 119 1004 (LM G q0 tt (nI n) (qSgn (nI w)) (nI sp) tot run srv (nI (nB (dF D 0))) (nxt) (best) (most) (k2)) [] S (a + 240) (b + 1440)) : AW X G 19 119 911 (LM G q0 tt (nI n) (qSgn (nI w)) (nI sp) tot run srv (nI (nB (dF D 0))) (nxt) (best) (most) (k1)) [] S a b := by
  have hM := hR.2.1.1
  have hF := hR.2.1.2
  have h12 := hM.1.2
  have hwf := hR.v.2.2.1
  have hfn := fN_eq hF.1
  have hc : nB (dF D 0) ≤ 24 := num_le _ _
  have loop : ∀ (m j : Nat), j ≤ nB (dF D 0) → nB (dF D 0) - j < m → AW X G 19 119 914 (LM G q0 tt (nI n) (qSgn (nI w)) (nI sp) tot run srv (nI (nB (dF D 0))) (nxt) (best) (most) (nI (j + 1))) [] S (a + 10 * j) (b + 60 * j) := by
    intro m
    induction m with
    | zero => intro j h1 h2; exact absurd h2 (by omega)
    | succ m ih =>
      intro j h1 h2
      refine r_iload (pc' := 916) h dL_law_914 rfl rfl ?_
      refine r_iload (pc' := 918) h dL_law_916 rfl rfl ?_
      refine r_icmp_ge (tgt := 1004) (pc' := 921) h dL_law_918 (by decide) rfl (fun c0 => ?_) (fun c0 => ?_)
      · exact r_widen (by omega) (by omega) (kk _)
      · have hj : j + 1 < nB (dF D 0) := by
          rcases Nat.lt_or_ge (j + 1) (nB (dF D 0)) with z | z
          · exact z
          · exact absurd (nI_le z (by omega)) c0
        obtain ⟨x, hx, bx, rx, zx⟩ := bid_hit hM hF (k := j) (by omega)
        obtain ⟨y, hy, by', ry, zy⟩ := bid_hit hM hF (k := j + 1) hj
        have lx := lex_le (rk_next (lex_SO _ _ _ _) hx hy bx by' rx ry)
        obtain ⟨x1, x2, x3, x4, x5, x6⟩ := bd_yes hM hF hx bx
        obtain ⟨y1, y2, y3, y4, y5, y6⟩ := bd_yes hM hF hy by'
        refine r_widen (a' := a + 10 * j + 0) (b' := b + 60 * j + 0) (by omega) (by omega) ?_
        refine r_aload_n (pc' := 922) h dL_law_921 rfl rfl ?_
        refine r_iload (pc' := 924) h dL_law_922 rfl rfl ?_
        refine r_iconst (pc' := 925) (v := 1) h dL_law_924 rfl (by decide) ?_
        refine r_isub (pc' := 926) h dL_law_925 rfl ?_
        rw [nI_s1]
        refine r_callVL (st := []) (As := [.int (nI j)]) (M := mX4_bidByPrice) (pc' := 929) h dL_law_926 rfl lL_76 vX4_bidByPrice rfl hD.l0 hD.o0 rfl rfl (Nat.le_of_ble_eq_true rfl) ⟨by decide, by decide, by show a + 10 * j + 0 + 1 ≤ 811098; omega, by show b + 60 * j + 0 + 6 ≤ 6651793; omega⟩ (kX4_bidByPrice hD ?_)
        rw [zx]
        refine K_int ?_
        refine r_widen (a' := a + 10 * j + 1) (b' := b + 60 * j + 6) (by show a + 10 * j + 0 + 1 ≤ a + 10 * j + 1; omega) (by show b + 60 * j + 0 + 6 ≤ b + 60 * j + 6; omega) ?_
        refine r_istore (pc' := 931) h dL_law_929 rfl (by decide) rfl ?_
        refine r_aload_n (pc' := 932) h dL_law_931 rfl rfl ?_
        refine r_iload (pc' := 934) h dL_law_932 rfl rfl ?_
        refine r_callVL (st := []) (As := [.int (nI (j + 1))]) (M := mX4_bidByPrice) (pc' := 937) h dL_law_934 rfl lL_76 vX4_bidByPrice rfl hD.l0 hD.o0 rfl rfl (Nat.le_of_ble_eq_true rfl) ⟨by decide, by decide, by show a + 10 * j + 1 + 1 ≤ 811098; omega, by show b + 60 * j + 6 + 6 ≤ 6651793; omega⟩ (kX4_bidByPrice hD ?_)
        rw [zy]
        refine K_int ?_
        refine r_widen (a' := a + 10 * j + 2) (b' := b + 60 * j + 12) (by show a + 10 * j + 1 + 1 ≤ a + 10 * j + 2; omega) (by show b + 60 * j + 6 + 6 ≤ b + 60 * j + 12; omega) ?_
        refine r_istore (pc' := 939) h dL_law_937 rfl (by decide) rfl ?_
        refine r_aload_n (pc' := 940) h dL_law_939 rfl rfl ?_
        refine r_iload (pc' := 942) h dL_law_940 rfl rfl ?_
        refine r_callVL (st := []) (As := [.int (nI x)]) (M := mX4_bidPrice) (pc' := 945) h dL_law_942 rfl lL_70 vX4_bidPrice rfl hD.l0 hD.o0 rfl rfl (Nat.le_of_ble_eq_true rfl) ⟨by decide, by decide, by show a + 10 * j + 2 + 2 ≤ 811098; omega, by show b + 60 * j + 12 + 12 ≤ 6651793; omega⟩ (kX4_bidPrice hD ?_)
        rw [x5]
        refine K_int ?_
        refine r_widen (a' := a + 10 * j + 4) (b' := b + 60 * j + 24) (by show a + 10 * j + 2 + 2 ≤ a + 10 * j + 4; omega) (by show b + 60 * j + 12 + 12 ≤ b + 60 * j + 24; omega) ?_
        refine r_aload_n (pc' := 946) h dL_law_945 rfl rfl ?_
        refine r_iload (pc' := 948) h dL_law_946 rfl rfl ?_
        refine r_callVL (st := [.int (nI (pN (dF D 0) x))]) (As := [.int (nI y)]) (M := mX4_bidPrice) (pc' := 951) h dL_law_948 rfl lL_70 vX4_bidPrice rfl hD.l0 hD.o0 rfl rfl (Nat.le_of_ble_eq_true rfl) ⟨by decide, by decide, by show a + 10 * j + 4 + 2 ≤ 811098; omega, by show b + 60 * j + 24 + 12 ≤ 6651793; omega⟩ (kX4_bidPrice hD ?_)
        rw [y5]
        refine K_int ?_
        refine r_widen (a' := a + 10 * j + 6) (b' := b + 60 * j + 36) (by show a + 10 * j + 4 + 2 ≤ a + 10 * j + 6; omega) (by show b + 60 * j + 24 + 12 ≤ b + 60 * j + 36; omega) ?_
        refine r_isub (pc' := 952) h dL_law_951 rfl ?_
        refine r_istore (pc' := 954) h dL_law_952 rfl (by decide) rfl ?_
        refine r_aload_n (pc' := 955) h dL_law_954 rfl rfl ?_
        refine r_iload (pc' := 957) h dL_law_955 rfl rfl ?_
        refine r_callVL (st := []) (As := [.int (nI x)]) (M := mX4_bidQuantity) (pc' := 960) h dL_law_957 rfl lL_73 vX4_bidQuantity rfl hD.l0 hD.o0 rfl rfl (Nat.le_of_ble_eq_true rfl) ⟨by decide, by decide, by show a + 10 * j + 6 + 2 ≤ 811098; omega, by show b + 60 * j + 36 + 12 ≤ 6651793; omega⟩ (kX4_bidQuantity hD ?_)
        rw [x6]
        refine K_int ?_
        refine r_widen (a' := a + 10 * j + 8) (b' := b + 60 * j + 48) (by show a + 10 * j + 6 + 2 ≤ a + 10 * j + 8; omega) (by show b + 60 * j + 36 + 12 ≤ b + 60 * j + 48; omega) ?_
        refine r_aload_n (pc' := 961) h dL_law_960 rfl rfl ?_
        refine r_iload (pc' := 963) h dL_law_961 rfl rfl ?_
        refine r_callVL (st := [.int (nI (uN (dF D 0) x))]) (As := [.int (nI y)]) (M := mX4_bidQuantity) (pc' := 966) h dL_law_963 rfl lL_73 vX4_bidQuantity rfl hD.l0 hD.o0 rfl rfl (Nat.le_of_ble_eq_true rfl) ⟨by decide, by decide, by show a + 10 * j + 8 + 2 ≤ 811098; omega, by show b + 60 * j + 48 + 12 ≤ 6651793; omega⟩ (kX4_bidQuantity hD ?_)
        rw [y6]
        refine K_int ?_
        refine r_widen (a' := a + 10 * j + 10) (b' := b + 60 * j + 60) (by show a + 10 * j + 8 + 2 ≤ a + 10 * j + 10; omega) (by show b + 60 * j + 48 + 12 ≤ b + 60 * j + 60; omega) ?_
        refine r_isub (pc' := 967) h dL_law_966 rfl ?_
        refine r_istore (pc' := 969) h dL_law_967 rfl (by decide) rfl ?_
        have fin : AW X G 19 119 998 (LM G q0 tt (nI n) (qSgn (nI w)) (nI sp) tot run srv (nI (nB (dF D 0))) (nxt) (best) (most) (nI (j + 1))) [] S (a + 10 * j + 10) (b + 60 * j + 60) := by
          refine r_iinc (pc' := 1001) (v := 1) h dL_law_998 rfl (by decide) (by decide) rfl rfl ?_
          refine r_goto (tgt := 914) h dL_law_1001 (by decide) ?_
          rw [nI_1]
          exact r_widen (by show a + 10 * j + 10 ≤ a + 10 * (j + 1); omega) (by show b + 60 * j + 60 ≤ b + 60 * (j + 1); omega) (ih (j + 1) (by omega) (by omega))
        replace fin : ∀ lo2, lv_pick lo2 [0, 1, 2, 3, 4, 5, 6, 7, 8, 9, 10, 11, 12, 13] = LM G q0 tt (nI n) (qSgn (nI w)) (nI sp) tot run srv (nI (nB (dF D 0))) (nxt) (best) (most) (nI (j + 1)) → AW X G 19 119 998 lo2 [] S (a + 10 * j + 10) (b + 60 * j + 60) := fun lo2 q => r_sub [0, 1, 2, 3, 4, 5, 6, 7, 8, 9, 10, 11, 12, 13] q fin
        refine r_iload (pc' := 971) h dL_law_969 rfl rfl ?_
        refine r_if_lt (tgt := 996) (pc' := 974) h dL_law_971 (by decide) rfl (fun c => absurd c (sub_nlt (by omega) lx.1)) (fun _ => ?_)
        refine r_iload (pc' := 976) h dL_law_974 rfl rfl ?_
        refine r_if_ne (tgt := 998) (pc' := 979) h dL_law_976 (by decide) rfl (fun c1 => ?_) (fun c1 => ?_)
        · exact fin _ rfl
        · have l2 := lx.2 ((sub_eq0 (by omega) (by omega)).mp c1)
          refine r_iload (pc' := 981) h dL_law_979 rfl rfl ?_
          refine r_if_lt (tgt := 996) (pc' := 984) h dL_law_981 (by decide) rfl (fun c => absurd c (sub_nlt (by omega) l2.1)) (fun _ => ?_)
          refine r_iload (pc' := 986) h dL_law_984 rfl rfl ?_
          refine r_if_ne (tgt := 998) (pc' := 989) h dL_law_986 (by decide) rfl (fun c2 => ?_) (fun c2 => ?_)
          · exact fin _ rfl
          · have l3 := l2.2 ((sub_eq0 (by omega) (by omega)).mp c2)
            refine r_iload (pc' := 991) h dL_law_989 rfl rfl ?_
            refine r_iload (pc' := 993) h dL_law_991 rfl rfl ?_
            refine r_icmp_le (tgt := 998) (pc' := 996) h dL_law_993 (by decide) rfl (fun _ => ?_) (fun c => absurd (nI_le (Nat.le_of_lt l3) (by omega)) c)
            exact fin _ rfl
  refine r_iconst (pc' := 912) (v := 1) h dL_law_911 rfl (by decide) ?_
  refine r_istore (pc' := 914) h dL_law_912 rfl (by decide) rfl ?_
  have l0 := loop (nB (dF D 0) + 1) 0 (Nat.zero_le _) (by omega)
  exact l0
theorem law_ot {X : CX} {G : GX} {B n w sp q0 a b : Nat} {S : Nat → va_E} {D : DM} {Q : MM} {tt tot run srv : Int32} (h : OK X G 119 code RL 19 rmL) (hD : isD G 119 S D) (hR : Rel B 0 D Q) (hn : n = qN (mM Q)) {best most bids nxt k1 : Int32} (ha : a + 72 ≤ 811098) (hb : b + 432 ≤ 6651793)
    (kk : ∀ k2 : Int32, AW X G 19 119 1096 (LM G q0 tt (nI n) (qSgn (nI w)) (nI sp) tot run srv (bids) (nxt) (best) (most) (k2)) [] S (a + 72) (b + 432)) : AW X G 19 119 1004 (LM G q0 tt (nI n) (qSgn (nI w)) (nI sp) tot run srv (bids) (nxt) (best) (most) (k1)) [] S a b := by
  have hM := hR.2.1.1
  have hF := hR.2.1.2
  have h12 := hM.1.2
  have hwf := hR.v.2.2.1
  have hfn := fN_eq hF.1
  have hc : n ≤ 12 := by omega
  have loop : ∀ (m j : Nat), j ≤ n → n - j < m → AW X G 19 119 1007 (LM G q0 tt (nI n) (qSgn (nI w)) (nI sp) tot run srv (bids) (nxt) (best) (most) (nI (j + 1))) [] S (a + 6 * j) (b + 36 * j) := by
    intro m
    induction m with
    | zero => intro j h1 h2; exact absurd h2 (by omega)
    | succ m ih =>
      intro j h1 h2
      refine r_iload (pc' := 1009) h dL_law_1007 rfl rfl ?_
      refine r_iload_n (pc' := 1010) h dL_law_1009 rfl rfl ?_
      refine r_icmp_ge (tgt := 1096) (pc' := 1013) h dL_law_1010 (by decide) rfl (fun c0 => ?_) (fun c0 => ?_)
      · exact r_widen (by omega) (by omega) (kk _)
      · have hj : j + 1 < n := by
          rcases Nat.lt_or_ge (j + 1) (n) with z | z
          · exact z
          · exact absurd (nI_le z (by omega)) c0
        obtain ⟨x, hx, rx, zx⟩ := tur_hit hM hF (k := j) (by omega)
        obtain ⟨y, hy, ry, zy⟩ := tur_hit hM hF (k := j + 1) (by omega)
        have lx := lex_le (rk_next (lex_SO _ _ _ _) hx hy rfl rfl rx ry)
        obtain ⟨x1, x2, x3, x4⟩ := tur_of hM hF hx
        obtain ⟨y1, y2, y3, y4⟩ := tur_of hM hF hy
        have hhx := hasT_nI hM hF hx
        have hhy := hasT_nI hM hF hy
        refine r_widen (a' := a + 6 * j + 0) (b' := b + 36 * j + 0) (by omega) (by omega) ?_
        refine r_aload_n (pc' := 1014) h dL_law_1013 rfl rfl ?_
        refine r_iload (pc' := 1016) h dL_law_1014 rfl rfl ?_
        refine r_iconst (pc' := 1017) (v := 1) h dL_law_1016 rfl (by decide) ?_
        refine r_isub (pc' := 1018) h dL_law_1017 rfl ?_
        rw [nI_s1]
        refine r_callVL (st := []) (As := [.int (nI j)]) (M := mX4_turbineByOutput) (pc' := 1021) h dL_law_1018 rfl lL_85 vX4_turbineByOutput rfl hD.l0 hD.o0 rfl rfl (Nat.le_of_ble_eq_true rfl) ⟨by decide, by decide, by show a + 6 * j + 0 + 1 ≤ 811098; omega, by show b + 36 * j + 0 + 6 ≤ 6651793; omega⟩ (kX4_turbineByOutput hD hwf ?_)
        rw [zx]
        refine K_int ?_
        refine r_widen (a' := a + 6 * j + 1) (b' := b + 36 * j + 6) (by show a + 6 * j + 0 + 1 ≤ a + 6 * j + 1; omega) (by show b + 36 * j + 0 + 6 ≤ b + 36 * j + 6; omega) ?_
        refine r_istore (pc' := 1023) h dL_law_1021 rfl (by decide) rfl ?_
        refine r_aload_n (pc' := 1024) h dL_law_1023 rfl rfl ?_
        refine r_iload (pc' := 1026) h dL_law_1024 rfl rfl ?_
        refine r_callVL (st := []) (As := [.int (nI (j + 1))]) (M := mX4_turbineByOutput) (pc' := 1029) h dL_law_1026 rfl lL_85 vX4_turbineByOutput rfl hD.l0 hD.o0 rfl rfl (Nat.le_of_ble_eq_true rfl) ⟨by decide, by decide, by show a + 6 * j + 1 + 1 ≤ 811098; omega, by show b + 36 * j + 6 + 6 ≤ 6651793; omega⟩ (kX4_turbineByOutput hD hwf ?_)
        rw [zy]
        refine K_int ?_
        refine r_widen (a' := a + 6 * j + 2) (b' := b + 36 * j + 12) (by show a + 6 * j + 1 + 1 ≤ a + 6 * j + 2; omega) (by show b + 36 * j + 6 + 6 ≤ b + 36 * j + 12; omega) ?_
        refine r_istore (pc' := 1031) h dL_law_1029 rfl (by decide) rfl ?_
        refine r_aload_n (pc' := 1032) h dL_law_1031 rfl rfl ?_
        refine r_iload (pc' := 1034) h dL_law_1032 rfl rfl ?_
        refine r_callVL (st := []) (As := [.int (nI x)]) (M := mX4_outputOf) (pc' := 1037) h dL_law_1034 rfl lL_211 vX4_outputOf rfl hD.l0 hD.o0 rfl rfl (Nat.le_of_ble_eq_true rfl) ⟨by decide, by decide, by show a + 6 * j + 2 + 1 ≤ 811098; omega, by show b + 36 * j + 12 + 6 ≤ 6651793; omega⟩ (kX4_outputOf hD ?_)
        rw [if_pos hhx, x3]
        refine K_int ?_
        refine r_widen (a' := a + 6 * j + 3) (b' := b + 36 * j + 18) (by show a + 6 * j + 2 + 1 ≤ a + 6 * j + 3; omega) (by show b + 36 * j + 12 + 6 ≤ b + 36 * j + 18; omega) ?_
        refine r_aload_n (pc' := 1038) h dL_law_1037 rfl rfl ?_
        refine r_iload (pc' := 1040) h dL_law_1038 rfl rfl ?_
        refine r_callVL (st := [.int (nI (oF (dF D 0) x))]) (As := [.int (nI y)]) (M := mX4_outputOf) (pc' := 1043) h dL_law_1040 rfl lL_211 vX4_outputOf rfl hD.l0 hD.o0 rfl rfl (Nat.le_of_ble_eq_true rfl) ⟨by decide, by decide, by show a + 6 * j + 3 + 1 ≤ 811098; omega, by show b + 36 * j + 18 + 6 ≤ 6651793; omega⟩ (kX4_outputOf hD ?_)
        rw [if_pos hhy, y3]
        refine K_int ?_
        refine r_widen (a' := a + 6 * j + 4) (b' := b + 36 * j + 24) (by show a + 6 * j + 3 + 1 ≤ a + 6 * j + 4; omega) (by show b + 36 * j + 18 + 6 ≤ b + 36 * j + 24; omega) ?_
        refine r_isub (pc' := 1044) h dL_law_1043 rfl ?_
        refine r_istore (pc' := 1046) h dL_law_1044 rfl (by decide) rfl ?_
        refine r_aload_n (pc' := 1047) h dL_law_1046 rfl rfl ?_
        refine r_iload (pc' := 1049) h dL_law_1047 rfl rfl ?_
        refine r_callVL (st := []) (As := [.int (nI x)]) (M := mX4_ratedPower) (pc' := 1052) h dL_law_1049 rfl lL_153 vX4_ratedPower rfl hD.l0 hD.o0 rfl rfl (Nat.le_of_ble_eq_true rfl) ⟨by decide, by decide, by show a + 6 * j + 4 + 1 ≤ 811098; omega, by show b + 36 * j + 24 + 6 ≤ 6651793; omega⟩ (kX4_ratedPower hD ?_)
        rw [if_pos hhx, x4]
        refine K_int ?_
        refine r_widen (a' := a + 6 * j + 5) (b' := b + 36 * j + 30) (by show a + 6 * j + 4 + 1 ≤ a + 6 * j + 5; omega) (by show b + 36 * j + 24 + 6 ≤ b + 36 * j + 30; omega) ?_
        refine r_aload_n (pc' := 1053) h dL_law_1052 rfl rfl ?_
        refine r_iload (pc' := 1055) h dL_law_1053 rfl rfl ?_
        refine r_callVL (st := [.int (nI (rF (dF D 0) x))]) (As := [.int (nI y)]) (M := mX4_ratedPower) (pc' := 1058) h dL_law_1055 rfl lL_153 vX4_ratedPower rfl hD.l0 hD.o0 rfl rfl (Nat.le_of_ble_eq_true rfl) ⟨by decide, by decide, by show a + 6 * j + 5 + 1 ≤ 811098; omega, by show b + 36 * j + 30 + 6 ≤ 6651793; omega⟩ (kX4_ratedPower hD ?_)
        rw [if_pos hhy, y4]
        refine K_int ?_
        refine r_widen (a' := a + 6 * j + 6) (b' := b + 36 * j + 36) (by show a + 6 * j + 5 + 1 ≤ a + 6 * j + 6; omega) (by show b + 36 * j + 30 + 6 ≤ b + 36 * j + 36; omega) ?_
        refine r_isub (pc' := 1059) h dL_law_1058 rfl ?_
        refine r_istore (pc' := 1061) h dL_law_1059 rfl (by decide) rfl ?_
        have fin : AW X G 19 119 1090 (LM G q0 tt (nI n) (qSgn (nI w)) (nI sp) tot run srv (bids) (nxt) (best) (most) (nI (j + 1))) [] S (a + 6 * j + 6) (b + 36 * j + 36) := by
          refine r_iinc (pc' := 1093) (v := 1) h dL_law_1090 rfl (by decide) (by decide) rfl rfl ?_
          refine r_goto (tgt := 1007) h dL_law_1093 (by decide) ?_
          rw [nI_1]
          exact r_widen (by show a + 6 * j + 6 ≤ a + 6 * (j + 1); omega) (by show b + 36 * j + 36 ≤ b + 36 * (j + 1); omega) (ih (j + 1) (by omega) (by omega))
        replace fin : ∀ lo2, lv_pick lo2 [0, 1, 2, 3, 4, 5, 6, 7, 8, 9, 10, 11, 12, 13] = LM G q0 tt (nI n) (qSgn (nI w)) (nI sp) tot run srv (bids) (nxt) (best) (most) (nI (j + 1)) → AW X G 19 119 1090 lo2 [] S (a + 6 * j + 6) (b + 36 * j + 36) := fun lo2 q => r_sub [0, 1, 2, 3, 4, 5, 6, 7, 8, 9, 10, 11, 12, 13] q fin
        refine r_iload (pc' := 1063) h dL_law_1061 rfl rfl ?_
        refine r_if_lt (tgt := 1088) (pc' := 1066) h dL_law_1063 (by decide) rfl (fun c => absurd c (sub_nlt (by omega) lx.1)) (fun _ => ?_)
        refine r_iload (pc' := 1068) h dL_law_1066 rfl rfl ?_
        refine r_if_ne (tgt := 1090) (pc' := 1071) h dL_law_1068 (by decide) rfl (fun c1 => ?_) (fun c1 => ?_)
        · exact fin _ rfl
        · have l2 := lx.2 ((sub_eq0 (by omega) (by omega)).mp c1)
          refine r_iload (pc' := 1073) h dL_law_1071 rfl rfl ?_
          refine r_if_lt (tgt := 1088) (pc' := 1076) h dL_law_1073 (by decide) rfl (fun c => absurd c (sub_nlt (by omega) l2.1)) (fun _ => ?_)
          refine r_iload (pc' := 1078) h dL_law_1076 rfl rfl ?_
          refine r_if_ne (tgt := 1090) (pc' := 1081) h dL_law_1078 (by decide) rfl (fun c2 => ?_) (fun c2 => ?_)
          · exact fin _ rfl
          · have l3 := l2.2 ((sub_eq0 (by omega) (by omega)).mp c2)
            refine r_iload (pc' := 1083) h dL_law_1081 rfl rfl ?_
            refine r_iload (pc' := 1085) h dL_law_1083 rfl rfl ?_
            refine r_icmp_le (tgt := 1090) (pc' := 1088) h dL_law_1085 (by decide) rfl (fun _ => ?_) (fun c => absurd (nI_le (Nat.le_of_lt l3) (by omega)) c)
            exact fin _ rfl
  refine r_iconst (pc' := 1005) (v := 1) h dL_law_1004 rfl (by decide) ?_
  refine r_istore (pc' := 1007) h dL_law_1005 rfl (by decide) rfl ?_
  have l0 := loop (n + 1) 0 (Nat.zero_le _) (by omega)
  exact l0
