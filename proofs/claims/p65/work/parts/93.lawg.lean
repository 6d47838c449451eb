/-! THE LAW'S GREAT TEST. -/
theorem ord_self : ∀ d : FP.Core.Datum, d ≠ .nan → FP.Core.order d d = some .eq
  | .nan, h => absurd rfl h
  | .inf s, _ => by
    show some (compare (FP.Core.signed s 1) (FP.Core.signed s 1)) = some .eq
    simp
  | .fin s c q, _ => by
    show some (compare (FP.Core.signed s (FP.Core.inUnits c q (min q q))) (FP.Core.signed s (FP.Core.inUnits c q (min q q)))) = some .eq
    simp
theorem nan64 {v : UInt64} (h : vf_n64 v) : FP.Core.decode FP.Core.b64 v.toNat ≠ .nan := by
  unfold vf_n64 at h
  have h1 := UInt64.le_iff_toNat_le.mp h
  rw [UInt64.toNat_and, show (0x7fffffffffffffff : UInt64).toNat = 2 ^ 63 - 1 from rfl, Nat.and_two_pow_sub_one_eq_mod, show (0x7ff0000000000000 : UInt64).toNat = 9218868437227405312 from rfl] at h1
  generalize v.toNat = m at h1
  unfold FP.Core.decode
  by_cases c1 : FP.Core.fieldE FP.Core.b64 m = FP.Core.b64.exps - 1
  · by_cases c2 : FP.Core.fieldT FP.Core.b64 m = 0
    · rw [if_pos c1, if_pos c2]
      intro z
      cases z
    · exfalso
      have c3 : m / 4503599627370496 % 2048 = 2047 := c1
      have c4 : ¬ m % 4503599627370496 = 0 := c2
      omega
  · rw [if_neg c1]
    split
    · intro z
      cases z
    · intro z
      cases z
theorem nan32 {v : UInt32} (h : vf_n32 v) : FP.Core.decode FP.Core.b32 v.toNat ≠ .nan := by
  unfold vf_n32 at h
  have h1 := UInt32.le_iff_toNat_le.mp h
  rw [UInt32.toNat_and, show (0x7fffffff : UInt32).toNat = 2 ^ 31 - 1 from rfl, Nat.and_two_pow_sub_one_eq_mod, show (0x7f800000 : UInt32).toNat = 2139095040 from rfl] at h1
  generalize v.toNat = m at h1
  unfold FP.Core.decode
  by_cases c1 : FP.Core.fieldE FP.Core.b32 m = FP.Core.b32.exps - 1
  · by_cases c2 : FP.Core.fieldT FP.Core.b32 m = 0
    · rw [if_pos c1, if_pos c2]
      intro z
      cases z
    · exfalso
      have c3 : m / 8388608 % 256 = 255 := c1
      have c4 : ¬ m % 8388608 = 0 := c2
      omega
  · rw [if_neg c1]
    split
    · intro z
      cases z
    · intro z
      cases z
theorem dc_self {v : UInt64} (h : vf_n64 v) : Op.cmpValue (FP.dcmp v v) .l = 0 := by
  unfold FP.dcmp FP.Core.dcmp FP.Core.cmp
  rw [ord_self _ (nan64 h)]
  rfl
theorem fc_self {v : UInt32} (h : vf_n32 v) : Op.cmpValue (FP.fcmp v v) .l = 0 := by
  unfold FP.fcmp FP.Core.fcmp FP.Core.cmp
  rw [ord_self _ (nan32 h)]
  rfl
theorem zHT_or (F : FM) : ∀ k j, (∃ v, zHT F j k = .inl (some (.int v))) ∨ zHT F j k = .inr eN
  | 0, _ => Or.inr rfl
  | k + 1, j => by
    unfold zHT
    split
    · exact Or.inl ⟨_, rfl⟩
    · exact zHT_or F k (j + 1)
theorem gt_facts {B n w sp : Nat} {F : FM} {M : Nat → Int32} (hM : okM B M) (hF : eqF F M) (hB : B ≤ 80000) (hn : n = qN M) (e1 : fI F 1 = qSgn (nI w)) (e2 : fI F 2 = nI sp) : ∃ x r, x ≤ 1080 ∧ r ≤ 12 ∧ sumI F (qSgn (nI w)) (nI sp) n = nI x ∧ sumI F (fI F 1) (fI F 2) (fN F) = nI x ∧ bSum F (lCnt F) = nI x ∧ cSt F 1 n = nI r ∧ cSt F 1 (fN F) = nI r ∧ crews F = 2 - cSt F 3 n ∧ lg_cmp (fL F 0) (fL F 1 + fL F 2 + fL F 3) = 0 ∧ ¬ lg_cmp (fL F 3) 0 < 0 ∧ fI F 0 = nI n := by
  have hfn := fN_eq hF.1
  have h12 := hM.1.2
  have s1 := (sum_cur hM hF _ (Nat.le_refl _)).1
  have s2 := cSt_eq hM hF.1 (s := 0) (by decide) _ (Nat.le_refl _)
  have s3 := cnt_le M 0 (qN M)
  obtain ⟨t, ht, h4, m, l, s, c, a5, a6, a7, a8, al, am, -⟩ := hM.2.2.2.2.2.2.2.1
  obtain ⟨b0, b1, b2, b3, b4⟩ := hF.2.2.2.2.2.2.2.1
  refine ⟨tot M (qN M), cnt M 0 (qN M), tot_cur hM hF, by omega, ?_, ?_, lines_eq hM hF, ?_, ?_, ?_, ?_, ?_, ?_⟩
  · rw [← e1, ← e2, hn]
    exact s1
  · rw [hfn]
    exact s1
  · rw [hn]
    exact s2
  · rw [hfn]
    exact s2
  · unfold crews
    rw [hfn, hn]
  · have e1 : fL F 0 = fL F 1 + fL F 2 + fL F 3 := by
      rw [b0, b1, b2, b3, a5, a6, a7, pk_sub (by omega), pk_sub (by omega), nI_l (by omega), nI_l (by omega), nI_l (by omega), nI_l (by omega), lN_add, lN_add]
      congr 1
      omega
    rw [← e1]
    unfold lg_cmp
    rw [if_neg (Int64.lt_irrefl), if_pos rfl]
  · rw [b3, a5, a6, a7, pk_sub (by omega), pk_sub (by omega), nI_l (by omega)]
    unfold lg_cmp
    split
    · decide
    · rename_i z
      split
      · decide
      · rename_i z2
        intro _
        rcases Nat.eq_zero_or_pos (m - l - s) with q | q
        · rw [q] at z2
          exact z2 rfl
        · exact z ((lN_lt (a := 0) (by decide) (by omega)).mpr q)
  · rw [hF.1.1, hn, hM.1.1]
theorem law_g {X : CX} {G : GX} {B n w sp q0 a b : Nat} {S : Nat → va_E} {D : DM} {Q : MM} {tt tot run srv : Int32} (h : OK X G 119 code RL 19 rmL) (hD : isD G 119 S D) (hR : Rel B 0 D Q) (hn : n = qN (mM Q)) (hw : w < 4) (hsp : sp < 31) (e1 : fI (dF D 0) 1 = qSgn (nI w)) (e2 : fI (dF D 0) 2 = nI sp) {best most k1 : Int32} (hB : B ≤ 80000) (ht : tot = sumI (dF D 0) (qSgn (nI w)) (nI sp) n) (hr : run = cSt (dF D 0) 1 n) (hs : srv = cSt (dF D 0) 3 n) (hbs : wayI best = (zBd (dF D 0) 4).1) (ha : a + 12 ≤ 811098) (hb : b + 80 ≤ 6651793)
    (kk : AW X G 19 119 911 (LM G q0 tt (nI n) (qSgn (nI w)) (nI sp) tot run srv (nI (nB (dF D 0))) (rdI (zHT (dF D 0) 0 24)) (best) (most) (k1)) [] S (a + 12) (b + 80)) : AW X G 19 119 766 (LM G q0 tt (nI n) (qSgn (nI w)) (nI sp) tot run srv (nI (nB (dF D 0))) (rdI (zHT (dF D 0) 0 24)) (best) (most) (k1)) [] S a b := by
  have hM := hR.2.1.1
  have hF := hR.2.1.2
  have h12 := hM.1.2
  have hwf := hR.v.2.2.1
  have hfn := fN_eq hF.1
  obtain ⟨x, r, x1, r1, g1, g2, g3, g4, g5, g6, g7, g8, g9⟩ := gt_facts hM hF hB hn e1 e2
  rw [g1] at ht
  rw [g4] at hr
  rw [← hs] at g6
  generalize hnx : rdI (zHT (dF D 0) 0 24) = nxt at kk ⊢
  subst ht
  subst hr
  have t886 : AW X G 19 119 886 (LM G q0 tt (nI n) (qSgn (nI w)) (nI sp) (nI x) (nI r) srv (nI (nB (dF D 0))) (nxt) (best) (most) (k1)) [] S (a + 7) (b + 50) := by
    refine r_aload_n (pc' := 887) h dL_law_886 rfl rfl ?_
    refine r_iload (pc' := 889) h dL_law_887 rfl rfl ?_
    refine r_callSL (st := []) (As := [.ref (ad G 0), .int (nI (nB (dF D 0)))]) (M := mL_bidByPrice) (pc' := 892) h dL_law_889 rfl lL_304 wL_bidByPrice rfl rfl (Nat.le_of_ble_eq_true rfl) ⟨by decide, by decide, by show a + 7 + 1 ≤ 811098; omega, by show b + 50 + 6 ≤ 6651793; omega⟩ (kL_bidByPrice hD (zz := .inr eN) (bid_miss hM hF).symm (Or.inr rfl) (K_int ?_))
    rw [rdI_N]
    refine r_widen (a' := a + 8) (b' := b + 56) (by show a + 7 + 1 ≤ a + 8; omega) (by show b + 50 + 6 ≤ b + 56; omega) ?_
    refine r_sipush (pc' := 895) (v := -30000) h dL_law_892 rfl (by decide) ?_
    refine r_icmp_ne (tgt := 909) (pc' := 898) h dL_law_895 (by decide) rfl (fun c => absurd c (fun z => z rfl)) (fun _ => ?_)
    refine r_aload_n (pc' := 899) h dL_law_898 rfl rfl ?_
    refine r_iload_n (pc' := 900) h dL_law_899 rfl rfl ?_
    refine r_callSL (st := []) (As := [.ref (ad G 0), .int (nI n)]) (M := mL_turbineByOutput) (pc' := 903) h dL_law_900 rfl lL_306 wL_turbineByOutput rfl rfl (Nat.le_of_ble_eq_true rfl) ⟨by decide, by decide, by show a + 8 + 1 ≤ 811098; omega, by show b + 56 + 6 ≤ 6651793; omega⟩ (kL_turbineByOutput hD hwf (zz := .inr eN) (by rw [hn]; exact (tur_miss hM hF).symm) (Or.inr rfl) (K_int ?_))
    rw [rdI_N]
    refine r_widen (a' := a + 9) (b' := b + 62) (by show a + 8 + 1 ≤ a + 9; omega) (by show b + 56 + 6 ≤ b + 62; omega) ?_
    refine r_sipush (pc' := 906) (v := -30000) h dL_law_903 rfl (by decide) ?_
    refine r_icmp_eq (tgt := 911) (pc' := 909) h dL_law_906 (by decide) rfl (fun _ => ?_) (fun c => absurd rfl c)
    exact r_widen (by show a + 9 ≤ a + 12; omega) (by show b + 62 ≤ b + 80; omega) kk
  refine r_aload_n (pc' := 767) h dL_law_766 rfl rfl ?_
  refine r_callVL (st := []) (As := []) (M := mX4_totalOutput) (pc' := 770) h dL_law_767 rfl lL_264 vX4_totalOutput rfl hD.l0 hD.o0 rfl rfl (Nat.le_of_ble_eq_true rfl) ⟨by decide, by decide, by show a + 0 + 0 ≤ 811098; omega, by show b + 0 + 0 ≤ 6651793; omega⟩ (kX4_totalOutput hD hwf ?_)
  rw [g2]
  refine K_int ?_
  refine r_iload (pc' := 772) h dL_law_770 rfl rfl ?_
  refine r_icmp_ne (tgt := 909) (pc' := 775) h dL_law_772 (by decide) rfl (fun c => absurd c (fun z => z rfl)) (fun _ => ?_)
  refine r_aload_n (pc' := 776) h dL_law_775 rfl rfl ?_
  refine r_callVL (st := []) (As := []) (M := mX4_totalOutputByLines) (pc' := 779) h dL_law_776 rfl lL_267 vX4_totalOutputByLines rfl hD.l0 hD.o0 rfl rfl (Nat.le_of_ble_eq_true rfl) ⟨by decide, by decide, by show a + 0 + 0 ≤ 811098; omega, by show b + 0 + 0 ≤ 6651793; omega⟩ (kX4_totalOutputByLines hD ?_)
  rw [g3]
  refine K_int ?_
  refine r_iload (pc' := 781) h dL_law_779 rfl rfl ?_
  refine r_icmp_ne (tgt := 909) (pc' := 784) h dL_law_781 (by decide) rfl (fun c => absurd c (fun z => z rfl)) (fun _ => ?_)
  refine r_aload_n (pc' := 785) h dL_law_784 rfl rfl ?_
  refine r_callVL (st := []) (As := []) (M := mX4_bestDirection) (pc' := 788) h dL_law_785 rfl lL_270 vX4_bestDirection rfl hD.l0 hD.o0 rfl rfl (Nat.le_of_ble_eq_true rfl) ⟨by decide, by decide, by show a + 0 + 0 ≤ 811098; omega, by show b + 0 + 0 ≤ 6651793; omega⟩ (kX4_bestDirection hD hwf ?_)
  refine K_int ?_
  refine r_iload (pc' := 790) h dL_law_788 rfl rfl ?_
  refine r_callSK (st := [.int (zBd (dF D 0) 4).1]) (As := [.int best]) (M := mL_way) (pc' := 793) h dL_law_790 rfl lL_95 vL_way rfl rfl (Nat.le_of_ble_eq_true rfl) ⟨by decide, by decide, by show a + 0 + 0 ≤ 811098; omega, by show b + 0 + 0 ≤ 6651793; omega⟩ (kL_way (K_int ?_))
  rw [hbs]
  refine r_icmp_ne (tgt := 909) (pc' := 796) h dL_law_793 (by decide) rfl (fun c => absurd c (fun z => z rfl)) (fun _ => ?_)
  refine r_aload_n (pc' := 797) h dL_law_796 rfl rfl ?_
  refine r_callSL (st := []) (As := [.ref (ad G 0)]) (M := mL_hoursToBid) (pc' := 800) h dL_law_797 rfl lL_273 wL_hoursToBid rfl rfl (Nat.le_of_ble_eq_true rfl) ⟨by decide, by decide, by show a + 0 + 1 ≤ 811098; omega, by show b + 0 + 6 ≤ 6651793; omega⟩ (kL_hoursToBid hD (zz := zHT (dF D 0) 0 24) rfl (zHT_or _ _ _) (K_int ?_))
  rw [hnx]
  refine r_widen (a' := a + 1) (b' := b + 6) (by show a + 0 + 1 ≤ a + 1; omega) (by show b + 0 + 6 ≤ b + 6; omega) ?_
  refine r_iload (pc' := 802) h dL_law_800 rfl rfl ?_
  refine r_icmp_ne (tgt := 909) (pc' := 805) h dL_law_802 (by decide) rfl (fun c => absurd c (fun z => z rfl)) (fun _ => ?_)
  refine r_aload_n (pc' := 806) h dL_law_805 rfl rfl ?_
  refine r_callVL (st := []) (As := []) (M := mX4_freeCrews) (pc' := 809) h dL_law_806 rfl lL_276 vX4_freeCrews rfl hD.l0 hD.o0 rfl rfl (Nat.le_of_ble_eq_true rfl) ⟨by decide, by decide, by show a + 1 + 0 ≤ 811098; omega, by show b + 6 + 0 ≤ 6651793; omega⟩ (kX4_freeCrews hD hwf ?_)
  rw [g6]
  refine K_int ?_
  refine r_iconst (pc' := 810) (v := 2) h dL_law_809 rfl (by decide) ?_
  refine r_iload (pc' := 812) h dL_law_810 rfl rfl ?_
  refine r_isub (pc' := 813) h dL_law_812 rfl ?_
  refine r_icmp_ne (tgt := 909) (pc' := 816) h dL_law_813 (by decide) rfl (fun c => absurd c (fun z => z rfl)) (fun _ => ?_)
  refine r_aload_n (pc' := 817) h dL_law_816 rfl rfl ?_
  refine r_callVL (st := []) (As := []) (M := mX4_isConsistent) (pc' := 820) h dL_law_817 rfl lL_279 vX4_isConsistent rfl hD.l0 hD.o0 rfl rfl (Nat.le_of_ble_eq_true rfl) ⟨by decide, by decide, by show a + 1 + 0 ≤ 811098; omega, by show b + 6 + 0 ≤ 6651793; omega⟩ (kX4_isConsistent hD hwf ?_)
  rw [con_eq hM hF hB]
  refine K_int ?_
  refine r_if_eq (tgt := 909) (pc' := 823) h dL_law_820 (by decide) rfl (fun c => absurd c (by decide)) (fun _ => ?_)
  refine r_aload_n (pc' := 824) h dL_law_823 rfl rfl ?_
  refine r_callVL (st := []) (As := []) (M := mX4_energyMade) (pc' := 827) h dL_law_824 rfl lL_283 vX4_energyMade rfl hD.l0 hD.o0 rfl rfl (Nat.le_of_ble_eq_true rfl) ⟨by decide, by decide, by show a + 1 + 0 ≤ 811098; omega, by show b + 6 + 0 ≤ 6651793; omega⟩ (kX4_energyMade hD ?_)
  refine K_int ?_
  refine r_aload_n (pc' := 828) h dL_law_827 rfl rfl ?_
  refine r_callVL (st := [.long (fL (dF D 0) 0)]) (As := []) (M := mX4_energyLost) (pc' := 831) h dL_law_828 rfl lL_287 vX4_energyLost rfl hD.l0 hD.o0 rfl rfl (Nat.le_of_ble_eq_true rfl) ⟨by decide, by decide, by show a + 1 + 0 ≤ 811098; omega, by show b + 6 + 0 ≤ 6651793; omega⟩ (kX4_energyLost hD ?_)
  refine K_int ?_
  refine r_aload_n (pc' := 832) h dL_law_831 rfl rfl ?_
  refine r_callVL (st := [.long (fL (dF D 0) 1), .long (fL (dF D 0) 0)]) (As := []) (M := mX4_energySold) (pc' := 835) h dL_law_832 rfl lL_290 vX4_energySold rfl hD.l0 hD.o0 rfl rfl (Nat.le_of_ble_eq_true rfl) ⟨by decide, by decide, by show a + 1 + 0 ≤ 811098; omega, by show b + 6 + 0 ≤ 6651793; omega⟩ (kX4_energySold hD ?_)
  refine K_int ?_
  refine r_ladd (pc' := 836) h dL_law_835 rfl ?_
  refine r_aload_n (pc' := 837) h dL_law_836 rfl rfl ?_
  refine r_callVL (st := [.long (fL (dF D 0) 1 + fL (dF D 0) 2), .long (fL (dF D 0) 0)]) (As := []) (M := mX4_energySpilled) (pc' := 840) h dL_law_837 rfl lL_293 vX4_energySpilled rfl hD.l0 hD.o0 rfl rfl (Nat.le_of_ble_eq_true rfl) ⟨by decide, by decide, by show a + 1 + 0 ≤ 811098; omega, by show b + 6 + 0 ≤ 6651793; omega⟩ (kX4_energySpilled hD ?_)
  refine K_int ?_
  refine r_ladd (pc' := 841) h dL_law_840 rfl ?_
  refine r_lcmp (pc' := 842) h dL_law_841 rfl ?_
  rw [g7]
  refine r_if_ne (tgt := 909) (pc' := 845) h dL_law_842 (by decide) rfl (fun c => absurd c (fun z => z rfl)) (fun _ => ?_)
  refine r_aload_n (pc' := 846) h dL_law_845 rfl rfl ?_
  refine r_callVL (st := []) (As := []) (M := mX4_energySpilled) (pc' := 849) h dL_law_846 rfl lL_293 vX4_energySpilled rfl hD.l0 hD.o0 rfl rfl (Nat.le_of_ble_eq_true rfl) ⟨by decide, by decide, by show a + 1 + 0 ≤ 811098; omega, by show b + 6 + 0 ≤ 6651793; omega⟩ (kX4_energySpilled hD ?_)
  refine K_int ?_
  refine r_lconst (pc' := 850) (v := 0) h dL_law_849 rfl (by decide) ?_
  refine r_lcmp (pc' := 851) h dL_law_850 rfl ?_
  refine r_if_lt (tgt := 909) (pc' := 854) h dL_law_851 (by decide) rfl (fun c => absurd c g8) (fun _ => ?_)
  refine r_iload_n (pc' := 855) h dL_law_854 rfl rfl ?_
  refine r_if_le (tgt := 886) (pc' := 858) h dL_law_855 (by decide) rfl (fun c0 => ?_) (fun c0 => ?_)
  · exact r_widen (by show a + 1 ≤ a + 7; omega) (by show b + 6 ≤ b + 50; omega) t886
  · have n0 : 0 < n := by
      rcases Nat.eq_zero_or_pos n with z | z
      · subst z
        exact absurd (show nI 0 ≤ 0 by decide) c0
      · exact z
    have fd := fp_d (x := x) n0 (show n < 13 by omega) (by omega)
    have ff := fp_f (x := r) n0 (show n < 13 by omega) (by omega)
    refine r_aload_n (pc' := 859) h dL_law_858 rfl rfl ?_
    refine r_callVL (st := []) (As := []) (M := mX4_meanOutput) (pc' := 862) h dL_law_859 rfl lL_296 vX4_meanOutput rfl hD.l0 hD.o0 rfl rfl (Nat.le_of_ble_eq_true rfl) ⟨by decide, by decide, by show a + 1 + 1 ≤ 811098; omega, by show b + 6 + 6 ≤ 6651793; omega⟩ (kX4_meanOutput hD hwf (fun _ => by rw [g2, g9]; exact fd) ?_)
    rw [g2, g9, if_neg c0]
    refine K_int ?_
    refine r_widen (a' := a + 2) (b' := b + 12) (by show a + 1 + 1 ≤ a + 2; omega) (by show b + 6 + 6 ≤ b + 12; omega) ?_
    refine r_iload (pc' := 864) h dL_law_862 rfl rfl ?_
    refine r_i2d (pc' := 865) h dL_law_864 rfl ?_
    refine r_iload_n (pc' := 866) h dL_law_865 rfl rfl ?_
    refine r_i2d (pc' := 867) h dL_law_866 rfl ?_
    refine r_ddiv (pc' := 868) h dL_law_867 rfl fd ?_
    refine r_dcmp (pc' := 869) h dL_law_868 rfl ?_
    rw [dc_self fd]
    refine r_if_ne (tgt := 909) (pc' := 872) h dL_law_869 (by decide) rfl (fun c => absurd c (fun z => z rfl)) (fun _ => ?_)
    refine r_aload_n (pc' := 873) h dL_law_872 rfl rfl ?_
    refine r_callVL (st := []) (As := []) (M := mX4_runningShare) (pc' := 876) h dL_law_873 rfl lL_300 vX4_runningShare rfl hD.l0 hD.o0 rfl rfl (Nat.le_of_ble_eq_true rfl) ⟨by decide, by decide, by show a + 2 + 1 ≤ 811098; omega, by show b + 12 + 6 ≤ 6651793; omega⟩ (kX4_runningShare hD hwf (fun _ => by rw [g5, g9]; exact ff) ?_)
    rw [g5, g9, if_neg c0]
    refine K_int ?_
    refine r_widen (a' := a + 3) (b' := b + 18) (by show a + 2 + 1 ≤ a + 3; omega) (by show b + 12 + 6 ≤ b + 18; omega) ?_
    refine r_iload (pc' := 878) h dL_law_876 rfl rfl ?_
    refine r_i2f (pc' := 879) h dL_law_878 rfl ?_
    refine r_iload_n (pc' := 880) h dL_law_879 rfl rfl ?_
    refine r_i2f (pc' := 881) h dL_law_880 rfl ?_
    refine r_fdiv (pc' := 882) h dL_law_881 rfl ff ?_
    refine r_fcmp (pc' := 883) h dL_law_882 rfl ?_
    rw [fc_self ff]
    refine r_if_ne (tgt := 909) (pc' := 886) h dL_law_883 (by decide) rfl (fun c => absurd c (fun z => z rfl)) (fun _ => ?_)
    exact r_widen (by show a + 3 ≤ a + 7; omega) (by show b + 18 ≤ b + 50; omega) t886
