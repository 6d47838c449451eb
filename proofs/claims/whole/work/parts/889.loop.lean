/-! THE LAW'S LOOP. -/
section LOOP
variable {X : CX} {G : GX} {q0 L : Nat} {xs : Nat → Int32}
theorem law_turn {S : Nat → va_E} {D : DM} {Q : MM} {B q a b i : Nat} (c : LC X G q0 L xs) (hi : i + 4 ≤ L) (hL : L ≤ 2048) (hS : LSt G S D Q) (hR : Rel B q D Q) (hB : B + 24 * q + 48 ≤ 80000) (ha : a + 8 ≤ 603072) (hb : b + 64 ≤ 7157866) (kk : ∀ S1 D1 Q1 B1 q1, LSt G S1 D1 Q1 → Rel B1 q1 D1 Q1 → B1 + 24 * q1 ≤ B + 24 * q + 48 → AW X G 9 126 3033 (LO G q0 i) [] S1 (a + 8) (b + 64)) : AW X G 9 126 37 (LO G q0 i) [] S a b := by
  obtain ⟨h, hN, hX⟩ := id c
  refine r_aload_n (pc' := 38) h dL_law_37 rfl rfl ?_
  refine r_iload (pc' := 40) h dL_law_38 rfl rfl ?_
  refine r_sld (pc' := 41) h hX (nI_in (by omega) (by omega)) dL_law_40 rfl ?_
  refine r_bipush (pc' := 43) (v := 63) h dL_law_41 rfl (by decide) ?_
  refine r_iand (pc' := 44) h dL_law_43 rfl ?_
  obtain ⟨n, hn, e⟩ := pk_andE (xs (nI i).toNatClampNeg) (m := 63) 6 (by decide)
  rw [e]
  have hn31 : n < 2 ^ 31 := by omega
  by_cases h62 : n < 62
  · have sw : ∀ {off : Int} {tgt : Nat}, (#[264, 344, 400, 468, 524, 592, 648, 661, 729, 785, 841, 897, 960, 1023, 1086, 1142, 1198, 1211, 1281, 1294, 1307, 1320, 1376, 1432, 1488, 1501, 1514, 1584, 1597, 1653, 1666, 1679, 1692, 1772, 1828, 1891, 1947, 2003, 2059, 2115, 2128, 2184, 2228, 2242, 2256, 2270, 2284, 2298, 2354, 2419, 2485, 2498, 2554, 2610, 2668, 2712, 2756, 2800, 2844, 2888, 2932, 2945] : Array Int)[n]? = some off → (((44 : Nat) : Int) + off = (tgt : Int)) → AW X G 9 126 tgt (LO G q0 i) [] S a b → AW X G 9 126 44 (LO G q0 i) [.int (nI n)] S a b := fun ho ht k => r_tableIn h dL_law_44 (by rw [nI_toInt hn31]; omega) (by rw [nI_toInt hn31]; omega) (by rw [nI_toInt hn31, Int.sub_zero, Int.toNat_natCast]; exact ho) ht k
    by_cases c31 : n < 31
    · by_cases c15 : n < 15
      · by_cases c7 : n < 7
        · by_cases c3 : n < 3
          · by_cases c1 : n < 1
            · obtain rfl : n = 0 := by omega
              exact sw (off := 264) (tgt := 308) (by decide +kernel) (by decide) (lc_0 c hi hL hS hR hB ha hb kk)
            · by_cases c2 : n < 2
              · obtain rfl : n = 1 := by omega
                exact sw (off := 344) (tgt := 388) (by decide +kernel) (by decide) (lc_1 c hi hL hS hR hB ha hb kk)
              · obtain rfl : n = 2 := by omega
                exact sw (off := 400) (tgt := 444) (by decide +kernel) (by decide) (lc_2 c hi hL hS hR hB ha hb kk)
          · by_cases c5 : n < 5
            · by_cases c4 : n < 4
              · obtain rfl : n = 3 := by omega
                exact sw (off := 468) (tgt := 512) (by decide +kernel) (by decide) (lc_3 c hi hL hS hR hB ha hb kk)
              · obtain rfl : n = 4 := by omega
                exact sw (off := 524) (tgt := 568) (by decide +kernel) (by decide) (lc_4 c hi hL hS hR hB ha hb kk)
            · by_cases c6 : n < 6
              · obtain rfl : n = 5 := by omega
                exact sw (off := 592) (tgt := 636) (by decide +kernel) (by decide) (lc_5 c hi hL hS hR hB ha hb kk)
              · obtain rfl : n = 6 := by omega
                exact sw (off := 648) (tgt := 692) (by decide +kernel) (by decide) (lc_6 c hi hL hS hR hB ha hb kk)
        · by_cases c11 : n < 11
          · by_cases c9 : n < 9
            · by_cases c8 : n < 8
              · obtain rfl : n = 7 := by omega
                exact sw (off := 661) (tgt := 705) (by decide +kernel) (by decide) (lc_7 c hi hL hS hR hB ha hb kk)
              · obtain rfl : n = 8 := by omega
                exact sw (off := 729) (tgt := 773) (by decide +kernel) (by decide) (lc_8 c hi hL hS hR hB ha hb kk)
            · by_cases c10 : n < 10
              · obtain rfl : n = 9 := by omega
                exact sw (off := 785) (tgt := 829) (by decide +kernel) (by decide) (lc_9 c hi hL hS hR hB ha hb kk)
              · obtain rfl : n = 10 := by omega
                exact sw (off := 841) (tgt := 885) (by decide +kernel) (by decide) (lc_10 c hi hL hS hR hB ha hb kk)
          · by_cases c13 : n < 13
            · by_cases c12 : n < 12
              · obtain rfl : n = 11 := by omega
                exact sw (off := 897) (tgt := 941) (by decide +kernel) (by decide) (lc_11 c hi hL hS hR hB ha hb kk)
              · obtain rfl : n = 12 := by omega
                exact sw (off := 960) (tgt := 1004) (by decide +kernel) (by decide) (lc_12 c hi hL hS hR hB ha hb kk)
            · by_cases c14 : n < 14
              · obtain rfl : n = 13 := by omega
                exact sw (off := 1023) (tgt := 1067) (by decide +kernel) (by decide) (lc_13 c hi hL hS hR hB ha hb kk)
              · obtain rfl : n = 14 := by omega
                exact sw (off := 1086) (tgt := 1130) (by decide +kernel) (by decide) (lc_14 c hi hL hS hR hB ha hb kk)
      · by_cases c23 : n < 23
        · by_cases c19 : n < 19
          · by_cases c17 : n < 17
            · by_cases c16 : n < 16
              · obtain rfl : n = 15 := by omega
                exact sw (off := 1142) (tgt := 1186) (by decide +kernel) (by decide) (lc_15 c hi hL hS hR hB ha hb kk)
              · obtain rfl : n = 16 := by omega
                exact sw (off := 1198) (tgt := 1242) (by decide +kernel) (by decide) (lc_16 c hi hL hS hR hB ha hb kk)
            · by_cases c18 : n < 18
              · obtain rfl : n = 17 := by omega
                exact sw (off := 1211) (tgt := 1255) (by decide +kernel) (by decide) (lc_17 c hi hL hS hR hB ha hb kk)
              · obtain rfl : n = 18 := by omega
                exact sw (off := 1281) (tgt := 1325) (by decide +kernel) (by decide) (lc_18 c hi hL hS hR hB ha hb kk)
          · by_cases c21 : n < 21
            · by_cases c20 : n < 20
              · obtain rfl : n = 19 := by omega
                exact sw (off := 1294) (tgt := 1338) (by decide +kernel) (by decide) (lc_19 c hi hL hS hR hB ha hb kk)
              · obtain rfl : n = 20 := by omega
                exact sw (off := 1307) (tgt := 1351) (by decide +kernel) (by decide) (lc_20 c hi hL hS hR hB ha hb kk)
            · by_cases c22 : n < 22
              · obtain rfl : n = 21 := by omega
                exact sw (off := 1320) (tgt := 1364) (by decide +kernel) (by decide) (lc_21 c hi hL hS hR hB ha hb kk)
              · obtain rfl : n = 22 := by omega
                exact sw (off := 1376) (tgt := 1420) (by decide +kernel) (by decide) (lc_22 c hi hL hS hR hB ha hb kk)
        · by_cases c27 : n < 27
          · by_cases c25 : n < 25
            · by_cases c24 : n < 24
              · obtain rfl : n = 23 := by omega
                exact sw (off := 1432) (tgt := 1476) (by decide +kernel) (by decide) (lc_23 c hi hL hS hR hB ha hb kk)
              · obtain rfl : n = 24 := by omega
                exact sw (off := 1488) (tgt := 1532) (by decide +kernel) (by decide) (lc_24 c hi hL hS hR hB ha hb kk)
            · by_cases c26 : n < 26
              · obtain rfl : n = 25 := by omega
                exact sw (off := 1501) (tgt := 1545) (by decide +kernel) (by decide) (lc_25 c hi hL hS hR hB ha hb kk)
              · obtain rfl : n = 26 := by omega
                exact sw (off := 1514) (tgt := 1558) (by decide +kernel) (by decide) (lc_26 c hi hL hS hR hB ha hb kk)
          · by_cases c29 : n < 29
            · by_cases c28 : n < 28
              · obtain rfl : n = 27 := by omega
                exact sw (off := 1584) (tgt := 1628) (by decide +kernel) (by decide) (lc_27 c hi hL hS hR hB ha hb kk)
              · obtain rfl : n = 28 := by omega
                exact sw (off := 1597) (tgt := 1641) (by decide +kernel) (by decide) (lc_28 c hi hL hS hR hB ha hb kk)
            · by_cases c30 : n < 30
              · obtain rfl : n = 29 := by omega
                exact sw (off := 1653) (tgt := 1697) (by decide +kernel) (by decide) (lc_29 c hi hL hS hR hB ha hb kk)
              · obtain rfl : n = 30 := by omega
                exact sw (off := 1666) (tgt := 1710) (by decide +kernel) (by decide) (lc_30 c hi hL hS hR hB ha hb kk)
    · by_cases c46 : n < 46
      · by_cases c38 : n < 38
        · by_cases c34 : n < 34
          · by_cases c32 : n < 32
            · obtain rfl : n = 31 := by omega
              exact sw (off := 1679) (tgt := 1723) (by decide +kernel) (by decide) (lc_31 c hi hL hS hR hB ha hb kk)
            · by_cases c33 : n < 33
              · obtain rfl : n = 32 := by omega
                exact sw (off := 1692) (tgt := 1736) (by decide +kernel) (by decide) (lc_32 c hi hL hS hR hB ha hb kk)
              · obtain rfl : n = 33 := by omega
                exact sw (off := 1772) (tgt := 1816) (by decide +kernel) (by decide) (lc_33 c hi hL hS hR hB ha hb kk)
          · by_cases c36 : n < 36
            · by_cases c35 : n < 35
              · obtain rfl : n = 34 := by omega
                exact sw (off := 1828) (tgt := 1872) (by decide +kernel) (by decide) (lc_34 c hi hL hS hR hB ha hb kk)
              · obtain rfl : n = 35 := by omega
                exact sw (off := 1891) (tgt := 1935) (by decide +kernel) (by decide) (lc_35 c hi hL hS hR hB ha hb kk)
            · by_cases c37 : n < 37
              · obtain rfl : n = 36 := by omega
                exact sw (off := 1947) (tgt := 1991) (by decide +kernel) (by decide) (lc_36 c hi hL hS hR hB ha hb kk)
              · obtain rfl : n = 37 := by omega
                exact sw (off := 2003) (tgt := 2047) (by decide +kernel) (by decide) (lc_37 c hi hL hS hR hB ha hb kk)
        · by_cases c42 : n < 42
          · by_cases c40 : n < 40
            · by_cases c39 : n < 39
              · obtain rfl : n = 38 := by omega
                exact sw (off := 2059) (tgt := 2103) (by decide +kernel) (by decide) (lc_38 c hi hL hS hR hB ha hb kk)
              · obtain rfl : n = 39 := by omega
                exact sw (off := 2115) (tgt := 2159) (by decide +kernel) (by decide) (lc_39 c hi hL hS hR hB ha hb kk)
            · by_cases c41 : n < 41
              · obtain rfl : n = 40 := by omega
                exact sw (off := 2128) (tgt := 2172) (by decide +kernel) (by decide) (lc_40 c hi hL hS hR hB ha hb kk)
              · obtain rfl : n = 41 := by omega
                exact sw (off := 2184) (tgt := 2228) (by decide +kernel) (by decide) (lc_41 c hi hL hS hR hB ha hb kk)
          · by_cases c44 : n < 44
            · by_cases c43 : n < 43
              · obtain rfl : n = 42 := by omega
                exact sw (off := 2228) (tgt := 2272) (by decide +kernel) (by decide) (lc_42 c hi hL hS hR hB ha hb kk)
              · obtain rfl : n = 43 := by omega
                exact sw (off := 2242) (tgt := 2286) (by decide +kernel) (by decide) (lc_43 c hi hL hS hR hB ha hb kk)
            · by_cases c45 : n < 45
              · obtain rfl : n = 44 := by omega
                exact sw (off := 2256) (tgt := 2300) (by decide +kernel) (by decide) (lc_44 c hi hL hS hR hB ha hb kk)
              · obtain rfl : n = 45 := by omega
                exact sw (off := 2270) (tgt := 2314) (by decide +kernel) (by decide) (lc_45 c hi hL hS hR hB ha hb kk)
      · by_cases c54 : n < 54
        · by_cases c50 : n < 50
          · by_cases c48 : n < 48
            · by_cases c47 : n < 47
              · obtain rfl : n = 46 := by omega
                exact sw (off := 2284) (tgt := 2328) (by decide +kernel) (by decide) (lc_46 c hi hL hS hR hB ha hb kk)
              · obtain rfl : n = 47 := by omega
                exact sw (off := 2298) (tgt := 2342) (by decide +kernel) (by decide) (lc_47 c hi hL hS hR hB ha hb kk)
            · by_cases c49 : n < 49
              · obtain rfl : n = 48 := by omega
                exact sw (off := 2354) (tgt := 2398) (by decide +kernel) (by decide) (lc_48 c hi hL hS hR hB ha hb kk)
              · obtain rfl : n = 49 := by omega
                exact sw (off := 2419) (tgt := 2463) (by decide +kernel) (by decide) (lc_49 c hi hL hS hR hB ha hb kk)
          · by_cases c52 : n < 52
            · by_cases c51 : n < 51
              · obtain rfl : n = 50 := by omega
                exact sw (off := 2485) (tgt := 2529) (by decide +kernel) (by decide) (lc_50 c hi hL hS hR hB ha hb kk)
              · obtain rfl : n = 51 := by omega
                exact sw (off := 2498) (tgt := 2542) (by decide +kernel) (by decide) (lc_51 c hi hL hS hR hB ha hb kk)
            · by_cases c53 : n < 53
              · obtain rfl : n = 52 := by omega
                exact sw (off := 2554) (tgt := 2598) (by decide +kernel) (by decide) (lc_52 c hi hL hS hR hB ha hb kk)
              · obtain rfl : n = 53 := by omega
                exact sw (off := 2610) (tgt := 2654) (by decide +kernel) (by decide) (lc_53 c hi hL hS hR hB ha hb kk)
        · by_cases c58 : n < 58
          · by_cases c56 : n < 56
            · by_cases c55 : n < 55
              · obtain rfl : n = 54 := by omega
                exact sw (off := 2668) (tgt := 2712) (by decide +kernel) (by decide) (lc_54 c hi hL hS hR hB ha hb kk)
              · obtain rfl : n = 55 := by omega
                exact sw (off := 2712) (tgt := 2756) (by decide +kernel) (by decide) (lc_55 c hi hL hS hR hB ha hb kk)
            · by_cases c57 : n < 57
              · obtain rfl : n = 56 := by omega
                exact sw (off := 2756) (tgt := 2800) (by decide +kernel) (by decide) (lc_56 c hi hL hS hR hB ha hb kk)
              · obtain rfl : n = 57 := by omega
                exact sw (off := 2800) (tgt := 2844) (by decide +kernel) (by decide) (lc_57 c hi hL hS hR hB ha hb kk)
          · by_cases c60 : n < 60
            · by_cases c59 : n < 59
              · obtain rfl : n = 58 := by omega
                exact sw (off := 2844) (tgt := 2888) (by decide +kernel) (by decide) (lc_58 c hi hL hS hR hB ha hb kk)
              · obtain rfl : n = 59 := by omega
                exact sw (off := 2888) (tgt := 2932) (by decide +kernel) (by decide) (lc_59 c hi hL hS hR hB ha hb kk)
            · by_cases c61 : n < 61
              · obtain rfl : n = 60 := by omega
                exact sw (off := 2932) (tgt := 2976) (by decide +kernel) (by decide) (lc_60 c hi hL hS hR hB ha hb kk)
              · obtain rfl : n = 61 := by omega
                exact sw (off := 2945) (tgt := 2989) (by decide +kernel) (by decide) (lc_61 c hi hL hS hR hB ha hb kk)
  · exact r_tableOut (tgt := 3033) h dL_law_44 (Or.inr (by rw [nI_toInt hn31]; omega)) (by decide) (r_widen (Nat.le_add_right a 8) (Nat.le_add_right b 64) (kk S D Q B q hS hR (by omega)))
theorem loop_end {i : Nat} (hL : L ≤ 2048) (hi : i ≤ 4096) (c : ¬ nI L - 4 < nI i) : i + 4 ≤ L := by
  by_cases h4 : 4 ≤ L
  · obtain ⟨k, rfl⟩ : ∃ k, L = k + 4 := ⟨L - 4, by omega⟩
    rw [show nI (k + 4) - 4 = nI k from by
      rw [← nI_add k 4]
      exact Int32.add_sub_cancel _ _] at c
    have : ¬ k < i := fun z => c (nI_lt z (by omega))
    omega
  · exfalso
    have : nI L - 4 < 0 := by
      rcases (by omega : L = 0 ∨ L = 1 ∨ L = 2 ∨ L = 3) with rfl | rfl | rfl | rfl <;> decide
    exact c (Int32.lt_of_lt_of_le this (nI_pos' (by omega)))
theorem law_loop (c : LC X G q0 L xs) (hL : L ≤ 2048) (fin : ∀ (lo : List (Nat × Value)) (S : Nat → va_E) (a b : Nat), a ≤ 603072 → b ≤ 7157866 → AW X G 9 126 3039 lo [] S a b) : ∀ (n i : Nat) (S : Nat → va_E) (D : DM) (Q : MM) (B q a b : Nat), L ≤ i + 4 * n + 3 → i ≤ 2048 → LSt G S D Q → Rel B q D Q → B + 24 * q + 48 * n ≤ 80000 → a + 8 * n ≤ 603072 → b + 64 * n ≤ 7157866 → AW X G 9 126 28 (LO G q0 i) [] S a b := by
  intro n
  induction n with
  | zero =>
    intro i S D Q B q a b h1 h2 hS hR hB ha hb
    obtain ⟨h, hN, hX⟩ := id c
    refine r_iload (pc' := 30) h dL_law_28 rfl rfl ?_
    refine r_aload_n (pc' := 31) h dL_law_30 rfl rfl ?_
    refine r_slen (pc' := 32) h hX dL_law_31 rfl ?_
    refine r_iconst (pc' := 33) (v := 4) h dL_law_32 rfl (by decide) ?_
    refine r_isub (pc' := 34) h dL_law_33 rfl ?_
    refine r_icmp_gt (tgt := 3039) (pc' := 37) h dL_law_34 (by decide) rfl (fun _ => fin _ _ _ _ (by omega) (by omega)) (fun z => ?_)
    have := loop_end hL (by omega) z
    omega
  | succ n ih =>
    intro i S D Q B q a b h1 h2 hS hR hB ha hb
    obtain ⟨h, hN, hX⟩ := id c
    refine r_iload (pc' := 30) h dL_law_28 rfl rfl ?_
    refine r_aload_n (pc' := 31) h dL_law_30 rfl rfl ?_
    refine r_slen (pc' := 32) h hX dL_law_31 rfl ?_
    refine r_iconst (pc' := 33) (v := 4) h dL_law_32 rfl (by decide) ?_
    refine r_isub (pc' := 34) h dL_law_33 rfl ?_
    refine r_icmp_gt (tgt := 3039) (pc' := 37) h dL_law_34 (by decide) rfl (fun _ => fin _ _ _ _ (by omega) (by omega)) (fun z => ?_)
    have hi := loop_end hL (by omega) z
    refine law_turn c hi hL hS hR (by omega) (by omega) (by omega) (fun S1 D1 Q1 B1 q1 hS1 hR1 hB1 => ?_)
    refine r_iinc (lo' := LO G q0 (i + 4)) (v := 4) (pc' := 3036) h dL_law_3033 rfl (by decide) (by decide) rfl (by rw [show nI i + 4 = nI (i + 4) from nI_add i 4]; rfl) ?_
    refine r_goto (tgt := 28) h dL_law_3036 (by decide) ?_
    exact ih (i + 4) S1 D1 Q1 B1 q1 (a + 8) (b + 64) (by omega) (by omega) hS1 hR1 (by omega) (by omega) (by omega)
end LOOP
