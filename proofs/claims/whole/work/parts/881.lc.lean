/-! THE LAW's calls 10 to 19. -/
theorem lc_10 {X : CX} {G : GX} {q0 L : Nat} {xs : Nat → Int32} {S : Nat → va_E} {D : DM} {Q : MM} {B q a b i : Nat} (c : LC X G q0 L xs) (hi : i + 4 ≤ L) (hL : L ≤ 2048) (hS : LSt G S D Q) (hR : Rel B q D Q) (hB : B + 24 * q + 48 ≤ 80000) (ha : a + 8 ≤ 603072) (hb : b + 64 ≤ 7157866) (kk : ∀ S1 D1 Q1 B1 q1, LSt G S1 D1 Q1 → Rel B1 q1 D1 Q1 → B1 + 24 * q1 ≤ B + 24 * q + 48 → AW X G 9 126 3033 (LO G q0 i) [] S1 (a + 8) (b + 64)) : AW X G 9 126 885 (LO G q0 i) [] S a b := by
  obtain ⟨h, hN, hX⟩ := c
  obtain ⟨hD, hQ, ⟨f4, h4⟩, f5, h5⟩ := id hS
  obtain ⟨t, t1, t2⟩ := hR.t
  obtain ⟨hR2, hag⟩ := hR.rd (rd_rat hR.2.1.1 hR.2.1.2 (xs (i + 1)))
  refine r_aload_n (pc' := 886) h dL_law_885 rfl rfl ?_
  refine r_sarg (k := 1) (pc' := 892) h hX dL_law_886 dL_law_887 dL_law_889 dL_law_890 dL_law_891 rfl rfl rfl (by decide) (by omega) hL ?_
  refine r_aload_n (pc' := 893) h dL_law_892 rfl rfl ?_
  refine r_callSL (pc' := 896) (st := []) (M := (yL_ratedPower, cL_ratedPower, 4, some .int)) (As := [.ref (ad G 0), .int (xs (i + 1)), .ref (ad G 124)]) h hN dL_law_893 rfl lL_203 sL_ratedPower rfl rfl (by decide) ⟨by decide, by decide, by show a + 1 ≤ 603072; omega, by show b + 6 ≤ 7157866; omega⟩ (kL_ratedPower hD (by decide) h4 (fun K1 h1 => kX4_ratedPower hD (h1 S hD DR.rfl')) hag (fun S1 g hD1 hf hg e1 => ?_))
  show AW X G 9 126 896 _ _ S1 _ _
  have hS1 := hS.x hD1 hf hg
  have hQ1 : isM G 126 S1 Q := hS1.2.1
  refine r_istore (pc' := 898) h dL_law_896 rfl (by decide) rfl ?_
  refine r_aload_n (pc' := 899) h dL_law_898 rfl rfl ?_
  refine r_sarg (k := 1) (pc' := 905) h hX dL_law_899 dL_law_900 dL_law_902 dL_law_903 dL_law_904 rfl rfl rfl (by decide) (by omega) hL ?_
  refine r_callVL (pc' := 908) (st := []) (M := mX5_ratedPower) (As := [.int (xs (i + 1))]) h dL_law_905 rfl lL_205 vX5_ratedPower rfl hQ1.l0 hQ1.o rfl rfl (by decide) ⟨by decide, by decide, by show a + 1 + 0 ≤ 603072; omega, by show b + 6 + 0 ≤ 7157866; omega⟩ (kX5_ratedPower hQ1 hR.w (fun S2 hQ2 hR3 => ?_))
  show AW X G 9 126 908 _ _ S2 _ _
  refine r_istore (pc' := 910) h dL_law_908 rfl (by decide) rfl ?_
  exact r_tail (tgt := 3033) h hQ2 ((hR3 124 (by decide)).trans hg) rfl rfl rfl rfl rfl e1 dL_law_910 dL_law_911 dL_law_914 dL_law_916 dL_law_921 dL_law_923 dL_law_926 dL_law_927 dL_law_928 dL_law_929 dL_law_931 dL_law_932 dL_law_933 dL_law_938 (by decide) (by show a + 1 + 0 ≤ 603072; omega) (by show b + 6 + 0 ≤ 7157866; omega) rfl (r_widen (by show a + 1 + 0 ≤ a + 8; omega) (by show b + 6 + 0 ≤ b + 64; omega) (kk S2 _ _ _ _ (hS1.m hQ2 hR3) hR2 (by omega)))
theorem lc_11 {X : CX} {G : GX} {q0 L : Nat} {xs : Nat → Int32} {S : Nat → va_E} {D : DM} {Q : MM} {B q a b i : Nat} (c : LC X G q0 L xs) (hi : i + 4 ≤ L) (hL : L ≤ 2048) (hS : LSt G S D Q) (hR : Rel B q D Q) (hB : B + 24 * q + 48 ≤ 80000) (ha : a + 8 ≤ 603072) (hb : b + 64 ≤ 7157866) (kk : ∀ S1 D1 Q1 B1 q1, LSt G S1 D1 Q1 → Rel B1 q1 D1 Q1 → B1 + 24 * q1 ≤ B + 24 * q + 48 → AW X G 9 126 3033 (LO G q0 i) [] S1 (a + 8) (b + 64)) : AW X G 9 126 941 (LO G q0 i) [] S a b := by
  obtain ⟨h, hN, hX⟩ := c
  obtain ⟨hD, hQ, ⟨f4, h4⟩, f5, h5⟩ := id hS
  obtain ⟨t, t1, t2⟩ := hR.t
  obtain ⟨hR2, hag⟩ := hR.rd (rd_st hR.2.1.1 hR.2.1.2 (xs (i + 1)) (k := 0) (s := 1) (s' := 0) (by decide) (by decide) (by decide))
  refine r_aload_n (pc' := 942) h dL_law_941 rfl rfl ?_
  refine r_sarg (k := 1) (pc' := 948) h hX dL_law_942 dL_law_943 dL_law_945 dL_law_946 dL_law_947 rfl rfl rfl (by decide) (by omega) hL ?_
  refine r_aload_n (pc' := 949) h dL_law_948 rfl rfl ?_
  refine r_callSL (pc' := 952) (st := []) (M := (yL_isRunning, cL_isRunning, 4, some .int)) (As := [.ref (ad G 0), .int (xs (i + 1)), .ref (ad G 124)]) h hN dL_law_949 rfl lL_206 sL_isRunning rfl rfl (by decide) ⟨by decide, by decide, by show a + 1 ≤ 603072; omega, by show b + 6 ≤ 7157866; omega⟩ (kL_isRunning hD (by decide) h4 (fun K1 h1 => kX4_isRunning hD (h1 S hD DR.rfl')) hag (fun S1 g hD1 hf hg e1 => ?_))
  show AW X G 9 126 952 _ _ S1 _ _
  have hS1 := hS.x hD1 hf hg
  have hQ1 : isM G 126 S1 Q := hS1.2.1
  refine r_istore (pc' := 954) h dL_law_952 rfl (by decide) rfl ?_
  refine r_aload_n (pc' := 955) h dL_law_954 rfl rfl ?_
  refine r_sarg (k := 1) (pc' := 961) h hX dL_law_955 dL_law_956 dL_law_958 dL_law_959 dL_law_960 rfl rfl rfl (by decide) (by omega) hL ?_
  refine r_callVL (pc' := 964) (st := []) (M := mX5_isRunning) (As := [.int (xs (i + 1))]) h dL_law_961 rfl lL_208 vX5_isRunning rfl hQ1.l0 hQ1.o rfl rfl (by decide) ⟨by decide, by decide, by show a + 1 + 0 ≤ 603072; omega, by show b + 6 + 0 ≤ 7157866; omega⟩ (kX5_isRunning hQ1 hR.w (fun S2 hQ2 hR3 => ?_))
  show AW X G 9 126 964 _ _ S2 _ _
  refine r_istore (pc' := 966) h dL_law_964 rfl (by decide) rfl ?_
  exact r_tailB (tgt := 3033) h hQ2 ((hR3 124 (by decide)).trans hg) rfl rfl rfl rfl rfl e1 dL_law_966 dL_law_967 dL_law_970 dL_law_972 dL_law_977 dL_law_979 dL_law_982 dL_law_983 dL_law_984 dL_law_985 dL_law_987 dL_law_990 dL_law_991 dL_law_994 dL_law_995 dL_law_996 dL_law_1001 (by decide) (by show a + 1 + 0 ≤ 603072; omega) (by show b + 6 + 0 ≤ 7157866; omega) rfl (r_widen (by show a + 1 + 0 ≤ a + 8; omega) (by show b + 6 + 0 ≤ b + 64; omega) (kk S2 _ _ _ _ (hS1.m hQ2 hR3) hR2 (by omega)))
theorem lc_12 {X : CX} {G : GX} {q0 L : Nat} {xs : Nat → Int32} {S : Nat → va_E} {D : DM} {Q : MM} {B q a b i : Nat} (c : LC X G q0 L xs) (hi : i + 4 ≤ L) (hL : L ≤ 2048) (hS : LSt G S D Q) (hR : Rel B q D Q) (hB : B + 24 * q + 48 ≤ 80000) (ha : a + 8 ≤ 603072) (hb : b + 64 ≤ 7157866) (kk : ∀ S1 D1 Q1 B1 q1, LSt G S1 D1 Q1 → Rel B1 q1 D1 Q1 → B1 + 24 * q1 ≤ B + 24 * q + 48 → AW X G 9 126 3033 (LO G q0 i) [] S1 (a + 8) (b + 64)) : AW X G 9 126 1004 (LO G q0 i) [] S a b := by
  obtain ⟨h, hN, hX⟩ := c
  obtain ⟨hD, hQ, ⟨f4, h4⟩, f5, h5⟩ := id hS
  obtain ⟨t, t1, t2⟩ := hR.t
  obtain ⟨hR2, hag⟩ := hR.rd (rd_st hR.2.1.1 hR.2.1.2 (xs (i + 1)) (k := 1) (s := 2) (s' := 1) (by decide) (by decide) (by decide))
  refine r_aload_n (pc' := 1005) h dL_law_1004 rfl rfl ?_
  refine r_sarg (k := 1) (pc' := 1011) h hX dL_law_1005 dL_law_1006 dL_law_1008 dL_law_1009 dL_law_1010 rfl rfl rfl (by decide) (by omega) hL ?_
  refine r_aload_n (pc' := 1012) h dL_law_1011 rfl rfl ?_
  refine r_callSL (pc' := 1015) (st := []) (M := (yL_isFailed, cL_isFailed, 4, some .int)) (As := [.ref (ad G 0), .int (xs (i + 1)), .ref (ad G 124)]) h hN dL_law_1012 rfl lL_209 sL_isFailed rfl rfl (by decide) ⟨by decide, by decide, by show a + 1 ≤ 603072; omega, by show b + 6 ≤ 7157866; omega⟩ (kL_isFailed hD (by decide) h4 (fun K1 h1 => kX4_isFailed hD (h1 S hD DR.rfl')) hag (fun S1 g hD1 hf hg e1 => ?_))
  show AW X G 9 126 1015 _ _ S1 _ _
  have hS1 := hS.x hD1 hf hg
  have hQ1 : isM G 126 S1 Q := hS1.2.1
  refine r_istore (pc' := 1017) h dL_law_1015 rfl (by decide) rfl ?_
  refine r_aload_n (pc' := 1018) h dL_law_1017 rfl rfl ?_
  refine r_sarg (k := 1) (pc' := 1024) h hX dL_law_1018 dL_law_1019 dL_law_1021 dL_law_1022 dL_law_1023 rfl rfl rfl (by decide) (by omega) hL ?_
  refine r_callVL (pc' := 1027) (st := []) (M := mX5_isFailed) (As := [.int (xs (i + 1))]) h dL_law_1024 rfl lL_211 vX5_isFailed rfl hQ1.l0 hQ1.o rfl rfl (by decide) ⟨by decide, by decide, by show a + 1 + 0 ≤ 603072; omega, by show b + 6 + 0 ≤ 7157866; omega⟩ (kX5_isFailed hQ1 hR.w (fun S2 hQ2 hR3 => ?_))
  show AW X G 9 126 1027 _ _ S2 _ _
  refine r_istore (pc' := 1029) h dL_law_1027 rfl (by decide) rfl ?_
  exact r_tailB (tgt := 3033) h hQ2 ((hR3 124 (by decide)).trans hg) rfl rfl rfl rfl rfl e1 dL_law_1029 dL_law_1030 dL_law_1033 dL_law_1035 dL_law_1040 dL_law_1042 dL_law_1045 dL_law_1046 dL_law_1047 dL_law_1048 dL_law_1050 dL_law_1053 dL_law_1054 dL_law_1057 dL_law_1058 dL_law_1059 dL_law_1064 (by decide) (by show a + 1 + 0 ≤ 603072; omega) (by show b + 6 + 0 ≤ 7157866; omega) rfl (r_widen (by show a + 1 + 0 ≤ a + 8; omega) (by show b + 6 + 0 ≤ b + 64; omega) (kk S2 _ _ _ _ (hS1.m hQ2 hR3) hR2 (by omega)))
theorem lc_13 {X : CX} {G : GX} {q0 L : Nat} {xs : Nat → Int32} {S : Nat → va_E} {D : DM} {Q : MM} {B q a b i : Nat} (c : LC X G q0 L xs) (hi : i + 4 ≤ L) (hL : L ≤ 2048) (hS : LSt G S D Q) (hR : Rel B q D Q) (hB : B + 24 * q + 48 ≤ 80000) (ha : a + 8 ≤ 603072) (hb : b + 64 ≤ 7157866) (kk : ∀ S1 D1 Q1 B1 q1, LSt G S1 D1 Q1 → Rel B1 q1 D1 Q1 → B1 + 24 * q1 ≤ B + 24 * q + 48 → AW X G 9 126 3033 (LO G q0 i) [] S1 (a + 8) (b + 64)) : AW X G 9 126 1067 (LO G q0 i) [] S a b := by
  obtain ⟨h, hN, hX⟩ := c
  obtain ⟨hD, hQ, ⟨f4, h4⟩, f5, h5⟩ := id hS
  obtain ⟨t, t1, t2⟩ := hR.t
  obtain ⟨hR2, hag⟩ := hR.rd (rd_st hR.2.1.1 hR.2.1.2 (xs (i + 1)) (k := 2) (s := 3) (s' := 2) (by decide) (by decide) (by decide))
  refine r_aload_n (pc' := 1068) h dL_law_1067 rfl rfl ?_
  refine r_sarg (k := 1) (pc' := 1074) h hX dL_law_1068 dL_law_1069 dL_law_1071 dL_law_1072 dL_law_1073 rfl rfl rfl (by decide) (by omega) hL ?_
  refine r_aload_n (pc' := 1075) h dL_law_1074 rfl rfl ?_
  refine r_callSL (pc' := 1078) (st := []) (M := (yL_isInService, cL_isInService, 4, some .int)) (As := [.ref (ad G 0), .int (xs (i + 1)), .ref (ad G 124)]) h hN dL_law_1075 rfl lL_212 sL_isInService rfl rfl (by decide) ⟨by decide, by decide, by show a + 1 ≤ 603072; omega, by show b + 6 ≤ 7157866; omega⟩ (kL_isInService hD (by decide) h4 (fun K1 h1 => kX4_isInService hD (h1 S hD DR.rfl')) hag (fun S1 g hD1 hf hg e1 => ?_))
  show AW X G 9 126 1078 _ _ S1 _ _
  have hS1 := hS.x hD1 hf hg
  have hQ1 : isM G 126 S1 Q := hS1.2.1
  refine r_istore (pc' := 1080) h dL_law_1078 rfl (by decide) rfl ?_
  refine r_aload_n (pc' := 1081) h dL_law_1080 rfl rfl ?_
  refine r_sarg (k := 1) (pc' := 1087) h hX dL_law_1081 dL_law_1082 dL_law_1084 dL_law_1085 dL_law_1086 rfl rfl rfl (by decide) (by omega) hL ?_
  refine r_callVL (pc' := 1090) (st := []) (M := mX5_isInService) (As := [.int (xs (i + 1))]) h dL_law_1087 rfl lL_214 vX5_isInService rfl hQ1.l0 hQ1.o rfl rfl (by decide) ⟨by decide, by decide, by show a + 1 + 0 ≤ 603072; omega, by show b + 6 + 0 ≤ 7157866; omega⟩ (kX5_isInService hQ1 hR.w (fun S2 hQ2 hR3 => ?_))
  show AW X G 9 126 1090 _ _ S2 _ _
  refine r_istore (pc' := 1092) h dL_law_1090 rfl (by decide) rfl ?_
  exact r_tailB (tgt := 3033) h hQ2 ((hR3 124 (by decide)).trans hg) rfl rfl rfl rfl rfl e1 dL_law_1092 dL_law_1093 dL_law_1096 dL_law_1098 dL_law_1103 dL_law_1105 dL_law_1108 dL_law_1109 dL_law_1110 dL_law_1111 dL_law_1113 dL_law_1116 dL_law_1117 dL_law_1120 dL_law_1121 dL_law_1122 dL_law_1127 (by decide) (by show a + 1 + 0 ≤ 603072; omega) (by show b + 6 + 0 ≤ 7157866; omega) rfl (r_widen (by show a + 1 + 0 ≤ a + 8; omega) (by show b + 6 + 0 ≤ b + 64; omega) (kk S2 _ _ _ _ (hS1.m hQ2 hR3) hR2 (by omega)))
theorem lc_14 {X : CX} {G : GX} {q0 L : Nat} {xs : Nat → Int32} {S : Nat → va_E} {D : DM} {Q : MM} {B q a b i : Nat} (c : LC X G q0 L xs) (hi : i + 4 ≤ L) (hL : L ≤ 2048) (hS : LSt G S D Q) (hR : Rel B q D Q) (hB : B + 24 * q + 48 ≤ 80000) (ha : a + 8 ≤ 603072) (hb : b + 64 ≤ 7157866) (kk : ∀ S1 D1 Q1 B1 q1, LSt G S1 D1 Q1 → Rel B1 q1 D1 Q1 → B1 + 24 * q1 ≤ B + 24 * q + 48 → AW X G 9 126 3033 (LO G q0 i) [] S1 (a + 8) (b + 64)) : AW X G 9 126 1130 (LO G q0 i) [] S a b := by
  obtain ⟨h, hN, hX⟩ := c
  obtain ⟨hD, hQ, ⟨f4, h4⟩, f5, h5⟩ := id hS
  obtain ⟨t, t1, t2⟩ := hR.t
  obtain ⟨hR2, hag⟩ := hR.rd (rd_lim hR.2.1.1 hR.2.1.2 (xs (i + 1)))
  refine r_aload_n (pc' := 1131) h dL_law_1130 rfl rfl ?_
  refine r_sarg (k := 1) (pc' := 1137) h hX dL_law_1131 dL_law_1132 dL_law_1134 dL_law_1135 dL_law_1136 rfl rfl rfl (by decide) (by omega) hL ?_
  refine r_aload_n (pc' := 1138) h dL_law_1137 rfl rfl ?_
  refine r_callSL (pc' := 1141) (st := []) (M := (yL_limitOf, cL_limitOf, 4, some .int)) (As := [.ref (ad G 0), .int (xs (i + 1)), .ref (ad G 124)]) h hN dL_law_1138 rfl lL_215 sL_limitOf rfl rfl (by decide) ⟨by decide, by decide, by show a + 2 ≤ 603072; omega, by show b + 12 ≤ 7157866; omega⟩ (kL_limitOf hD (by decide) h4 (fun K1 h1 => kX4_limitOf hD (h1 S hD DR.rfl')) hag (fun S1 g hD1 hf hg e1 => ?_))
  show AW X G 9 126 1141 _ _ S1 _ _
  have hS1 := hS.x hD1 hf hg
  have hQ1 : isM G 126 S1 Q := hS1.2.1
  refine r_istore (pc' := 1143) h dL_law_1141 rfl (by decide) rfl ?_
  refine r_aload_n (pc' := 1144) h dL_law_1143 rfl rfl ?_
  refine r_sarg (k := 1) (pc' := 1150) h hX dL_law_1144 dL_law_1145 dL_law_1147 dL_law_1148 dL_law_1149 rfl rfl rfl (by decide) (by omega) hL ?_
  refine r_callVL (pc' := 1153) (st := []) (M := mX5_limitOf) (As := [.int (xs (i + 1))]) h dL_law_1150 rfl lL_217 vX5_limitOf rfl hQ1.l0 hQ1.o rfl rfl (by decide) ⟨by decide, by decide, by show a + 2 + 0 ≤ 603072; omega, by show b + 12 + 0 ≤ 7157866; omega⟩ (kX5_limitOf hQ1 hR.w (fun S2 hQ2 hR3 => ?_))
  show AW X G 9 126 1153 _ _ S2 _ _
  refine r_istore (pc' := 1155) h dL_law_1153 rfl (by decide) rfl ?_
  exact r_tail (tgt := 3033) h hQ2 ((hR3 124 (by decide)).trans hg) rfl rfl rfl rfl rfl e1 dL_law_1155 dL_law_1156 dL_law_1159 dL_law_1161 dL_law_1166 dL_law_1168 dL_law_1171 dL_law_1172 dL_law_1173 dL_law_1174 dL_law_1176 dL_law_1177 dL_law_1178 dL_law_1183 (by decide) (by show a + 2 + 0 ≤ 603072; omega) (by show b + 12 + 0 ≤ 7157866; omega) rfl (r_widen (by show a + 2 + 0 ≤ a + 8; omega) (by show b + 12 + 0 ≤ b + 64; omega) (kk S2 _ _ _ _ (hS1.m hQ2 hR3) hR2 (by omega)))
theorem lc_15 {X : CX} {G : GX} {q0 L : Nat} {xs : Nat → Int32} {S : Nat → va_E} {D : DM} {Q : MM} {B q a b i : Nat} (c : LC X G q0 L xs) (hi : i + 4 ≤ L) (hL : L ≤ 2048) (hS : LSt G S D Q) (hR : Rel B q D Q) (hB : B + 24 * q + 48 ≤ 80000) (ha : a + 8 ≤ 603072) (hb : b + 64 ≤ 7157866) (kk : ∀ S1 D1 Q1 B1 q1, LSt G S1 D1 Q1 → Rel B1 q1 D1 Q1 → B1 + 24 * q1 ≤ B + 24 * q + 48 → AW X G 9 126 3033 (LO G q0 i) [] S1 (a + 8) (b + 64)) : AW X G 9 126 1186 (LO G q0 i) [] S a b := by
  obtain ⟨h, hN, hX⟩ := c
  obtain ⟨hD, hQ, ⟨f4, h4⟩, f5, h5⟩ := id hS
  obtain ⟨t, t1, t2⟩ := hR.t
  obtain ⟨hR2, hag⟩ := hR.rd (rd_sh hR.2.1.1 hR.2.1.2 (xs (i + 1)))
  refine r_aload_n (pc' := 1187) h dL_law_1186 rfl rfl ?_
  refine r_sarg (k := 1) (pc' := 1193) h hX dL_law_1187 dL_law_1188 dL_law_1190 dL_law_1191 dL_law_1192 rfl rfl rfl (by decide) (by omega) hL ?_
  refine r_aload_n (pc' := 1194) h dL_law_1193 rfl rfl ?_
  refine r_callSL (pc' := 1197) (st := []) (M := (yL_serviceHoursLeft, cL_serviceHoursLeft, 4, some .int)) (As := [.ref (ad G 0), .int (xs (i + 1)), .ref (ad G 124)]) h hN dL_law_1194 rfl lL_218 sL_serviceHoursLeft rfl rfl (by decide) ⟨by decide, by decide, by show a + 2 ≤ 603072; omega, by show b + 12 ≤ 7157866; omega⟩ (kL_serviceHoursLeft hD (by decide) h4 (fun K1 h1 => kX4_serviceHoursLeft hD (h1 S hD DR.rfl')) hag (fun S1 g hD1 hf hg e1 => ?_))
  show AW X G 9 126 1197 _ _ S1 _ _
  have hS1 := hS.x hD1 hf hg
  have hQ1 : isM G 126 S1 Q := hS1.2.1
  refine r_istore (pc' := 1199) h dL_law_1197 rfl (by decide) rfl ?_
  refine r_aload_n (pc' := 1200) h dL_law_1199 rfl rfl ?_
  refine r_sarg (k := 1) (pc' := 1206) h hX dL_law_1200 dL_law_1201 dL_law_1203 dL_law_1204 dL_law_1205 rfl rfl rfl (by decide) (by omega) hL ?_
  refine r_callVL (pc' := 1209) (st := []) (M := mX5_serviceHoursLeft) (As := [.int (xs (i + 1))]) h dL_law_1206 rfl lL_220 vX5_serviceHoursLeft rfl hQ1.l0 hQ1.o rfl rfl (by decide) ⟨by decide, by decide, by show a + 2 + 0 ≤ 603072; omega, by show b + 12 + 0 ≤ 7157866; omega⟩ (kX5_serviceHoursLeft hQ1 hR.w (fun S2 hQ2 hR3 => ?_))
  show AW X G 9 126 1209 _ _ S2 _ _
  refine r_istore (pc' := 1211) h dL_law_1209 rfl (by decide) rfl ?_
  exact r_tail (tgt := 3033) h hQ2 ((hR3 124 (by decide)).trans hg) rfl rfl rfl rfl rfl e1 dL_law_1211 dL_law_1212 dL_law_1215 dL_law_1217 dL_law_1222 dL_law_1224 dL_law_1227 dL_law_1228 dL_law_1229 dL_law_1230 dL_law_1232 dL_law_1233 dL_law_1234 dL_law_1239 (by decide) (by show a + 2 + 0 ≤ 603072; omega) (by show b + 12 + 0 ≤ 7157866; omega) rfl (r_widen (by show a + 2 + 0 ≤ a + 8; omega) (by show b + 12 + 0 ≤ b + 64; omega) (kk S2 _ _ _ _ (hS1.m hQ2 hR3) hR2 (by omega)))
theorem lc_16 {X : CX} {G : GX} {q0 L : Nat} {xs : Nat → Int32} {S : Nat → va_E} {D : DM} {Q : MM} {B q a b i : Nat} (c : LC X G q0 L xs) (hi : i + 4 ≤ L) (hL : L ≤ 2048) (hS : LSt G S D Q) (hR : Rel B q D Q) (hB : B + 24 * q + 48 ≤ 80000) (ha : a + 8 ≤ 603072) (hb : b + 64 ≤ 7157866) (kk : ∀ S1 D1 Q1 B1 q1, LSt G S1 D1 Q1 → Rel B1 q1 D1 Q1 → B1 + 24 * q1 ≤ B + 24 * q + 48 → AW X G 9 126 3033 (LO G q0 i) [] S1 (a + 8) (b + 64)) : AW X G 9 126 1242 (LO G q0 i) [] S a b := by
  obtain ⟨h, hN, hX⟩ := c
  obtain ⟨hD, hQ, ⟨f4, h4⟩, f5, h5⟩ := id hS
  obtain ⟨t, t1, t2⟩ := hR.t
  refine r_aload_n (pc' := 1243) h dL_law_1242 rfl rfl ?_
  refine r_callVL (pc' := 1246) (st := []) (M := mX4_freeCrews) (As := []) h dL_law_1243 rfl lL_221 vX4_freeCrews rfl hD.l0 hD.o0 rfl rfl (by decide) ⟨by decide, by decide, by show a + 0 ≤ 603072; omega, by show b + 0 ≤ 7157866; omega⟩ (kX4_freeCrews hD (dr_wF hR) ?_)
  show AW X G 9 126 1246 _ _ S _ _
  refine r_aload_n (pc' := 1247) h dL_law_1246 rfl rfl ?_
  refine r_callVL (pc' := 1250) (st := [.int _]) (M := mX5_freeCrews) (As := []) h dL_law_1247 rfl lL_224 vX5_freeCrews rfl hQ.l0 hQ.o rfl rfl (by show 1 + 0 ≤ 8; decide) ⟨by decide, by decide, by show a + 0 + 0 ≤ 603072; omega, by show b + 0 + 0 ≤ 7157866; omega⟩ (kX5_freeCrews hQ hR.w (fun S2 hQ2 hR3 => ?_))
  show AW X G 9 126 1250 _ _ S2 _ _
  exact r_icmp_eq (tgt := 3033) (pc' := 1253) h dL_law_1250 (by decide) rfl (fun _ => r_widen (by show a + 0 + 0 ≤ a + 8; omega) (by show b + 0 + 0 ≤ b + 64; omega) (kk S2 _ _ _ _ (hS.m hQ2 hR3) (hR.thr 0) (by omega))) (fun c => absurd (dr_crews hR) c)
theorem lc_17 {X : CX} {G : GX} {q0 L : Nat} {xs : Nat → Int32} {S : Nat → va_E} {D : DM} {Q : MM} {B q a b i : Nat} (c : LC X G q0 L xs) (hi : i + 4 ≤ L) (hL : L ≤ 2048) (hS : LSt G S D Q) (hR : Rel B q D Q) (hB : B + 24 * q + 48 ≤ 80000) (ha : a + 8 ≤ 603072) (hb : b + 64 ≤ 7157866) (kk : ∀ S1 D1 Q1 B1 q1, LSt G S1 D1 Q1 → Rel B1 q1 D1 Q1 → B1 + 24 * q1 ≤ B + 24 * q + 48 → AW X G 9 126 3033 (LO G q0 i) [] S1 (a + 8) (b + 64)) : AW X G 9 126 1255 (LO G q0 i) [] S a b := by
  obtain ⟨h, hN, hX⟩ := c
  obtain ⟨hD, hQ, ⟨f4, h4⟩, f5, h5⟩ := id hS
  obtain ⟨t, t1, t2⟩ := hR.t
  obtain ⟨hR2, hag⟩ := chg_wind hR (chr (xs (i + 1))) (xs (i + 2))
  refine r_aload_n (pc' := 1256) h dL_law_1255 rfl rfl ?_
  refine r_sarg (k := 1) (pc' := 1262) h hX dL_law_1256 dL_law_1257 dL_law_1259 dL_law_1260 dL_law_1261 rfl rfl rfl (by decide) (by omega) hL ?_
  refine r_i2c (pc' := 1263) h dL_law_1262 rfl ?_
  refine r_sarg (k := 2) (pc' := 1269) h hX dL_law_1263 dL_law_1264 dL_law_1266 dL_law_1267 dL_law_1268 rfl rfl rfl (by decide) (by omega) hL ?_
  refine r_aload_n (pc' := 1270) h dL_law_1269 rfl rfl ?_
  refine r_callSL (pc' := 1273) (st := []) (M := (yL_setWind, cL_setWind, 5, some .int)) (As := [.ref (ad G 0), .int (chr (xs (i + 1))), .int (xs (i + 2)), .ref (ad G 124)]) h hN dL_law_1270 rfl lL_225 sL_setWind rfl rfl (by decide) ⟨by decide, by decide, by show a + 3 ≤ 603072; omega, by show b + 18 ≤ 7157866; omega⟩ (kL_setWind hD (by decide) h4 (fun K1 h1 => kX4_setWind hD hR.v (isCh_chr _) h1) hag (fun S1 g hD1 hf hg e1 => ?_))
  show AW X G 9 126 1273 _ _ S1 _ _
  have hS1 := hS.x hD1 hf hg
  have hQ1 : isM G 126 S1 Q := hS1.2.1
  refine r_istore (pc' := 1275) h dL_law_1273 rfl (by decide) rfl ?_
  refine r_aload_n (pc' := 1276) h dL_law_1275 rfl rfl ?_
  refine r_sarg (k := 1) (pc' := 1282) h hX dL_law_1276 dL_law_1277 dL_law_1279 dL_law_1280 dL_law_1281 rfl rfl rfl (by decide) (by omega) hL ?_
  refine r_i2c (pc' := 1283) h dL_law_1282 rfl ?_
  refine r_sarg (k := 2) (pc' := 1289) h hX dL_law_1283 dL_law_1284 dL_law_1286 dL_law_1287 dL_law_1288 rfl rfl rfl (by decide) (by omega) hL ?_
  refine r_callVL (pc' := 1292) (st := []) (M := mX5_setWind) (As := [.int (chr (xs (i + 1))), .int (xs (i + 2))]) h dL_law_1289 rfl lL_228 vX5_setWind rfl hQ1.l0 hQ1.o rfl rfl (by decide) ⟨by decide, by decide, by show a + 3 + 0 ≤ 603072; omega, by show b + 18 + 0 ≤ 7157866; omega⟩ (kX5_setWind hQ1 hR.w hR.c (fun S2 hQ2 hR3 => ?_))
  show AW X G 9 126 1292 _ _ S2 _ _
  refine r_istore (pc' := 1294) h dL_law_1292 rfl (by decide) rfl ?_
  exact r_tail (tgt := 3033) h hQ2 ((hR3 124 (by decide)).trans hg) rfl rfl rfl rfl rfl e1 dL_law_1294 dL_law_1295 dL_law_1298 dL_law_1300 dL_law_1305 dL_law_1307 dL_law_1310 dL_law_1311 dL_law_1312 dL_law_1313 dL_law_1315 dL_law_1316 dL_law_1317 dL_law_1322 (by decide) (by show a + 3 + 0 ≤ 603072; omega) (by show b + 18 + 0 ≤ 7157866; omega) rfl (r_widen (by show a + 3 + 0 ≤ a + 8; omega) (by show b + 18 + 0 ≤ b + 64; omega) (kk S2 _ _ _ _ (hS1.m hQ2 hR3) hR2 (by omega)))
theorem lc_18 {X : CX} {G : GX} {q0 L : Nat} {xs : Nat → Int32} {S : Nat → va_E} {D : DM} {Q : MM} {B q a b i : Nat} (c : LC X G q0 L xs) (hi : i + 4 ≤ L) (hL : L ≤ 2048) (hS : LSt G S D Q) (hR : Rel B q D Q) (hB : B + 24 * q + 48 ≤ 80000) (ha : a + 8 ≤ 603072) (hb : b + 64 ≤ 7157866) (kk : ∀ S1 D1 Q1 B1 q1, LSt G S1 D1 Q1 → Rel B1 q1 D1 Q1 → B1 + 24 * q1 ≤ B + 24 * q + 48 → AW X G 9 126 3033 (LO G q0 i) [] S1 (a + 8) (b + 64)) : AW X G 9 126 1325 (LO G q0 i) [] S a b := by
  obtain ⟨h, hN, hX⟩ := c
  obtain ⟨hD, hQ, ⟨f4, h4⟩, f5, h5⟩ := id hS
  obtain ⟨t, t1, t2⟩ := hR.t
  refine r_aload_n (pc' := 1326) h dL_law_1325 rfl rfl ?_
  refine r_callVL (pc' := 1329) (st := []) (M := mX4_windDirection) (As := []) h dL_law_1326 rfl lL_229 vX4_windDirection rfl hD.l0 hD.o0 rfl rfl (by decide) ⟨by decide, by decide, by show a + 0 ≤ 603072; omega, by show b + 0 ≤ 7157866; omega⟩ (kX4_windDirection hD (dr_ch hR) ?_)
  show AW X G 9 126 1329 _ _ S _ _
  refine r_aload_n (pc' := 1330) h dL_law_1329 rfl rfl ?_
  refine r_callVL (pc' := 1333) (st := [.int _]) (M := mX5_windDirection) (As := []) h dL_law_1330 rfl lL_233 vX5_windDirection rfl hQ.l0 hQ.o rfl rfl (by show 1 + 0 ≤ 8; decide) ⟨by decide, by decide, by show a + 0 + 0 ≤ 603072; omega, by show b + 0 + 0 ≤ 7157866; omega⟩ (kX5_windDirection hQ (fun S2 hQ2 hR3 => ?_))
  show AW X G 9 126 1333 _ _ S2 _ _
  exact r_icmp_eq (tgt := 3033) (pc' := 1336) h dL_law_1333 (by decide) rfl (fun _ => r_widen (by show a + 0 + 0 ≤ a + 8; omega) (by show b + 0 + 0 ≤ b + 64; omega) (kk S2 _ _ _ _ (hS.m hQ2 hR3) (hR.thr 0) (by omega))) (fun c => absurd (dr_dir hR) c)
theorem lc_19 {X : CX} {G : GX} {q0 L : Nat} {xs : Nat → Int32} {S : Nat → va_E} {D : DM} {Q : MM} {B q a b i : Nat} (c : LC X G q0 L xs) (hi : i + 4 ≤ L) (hL : L ≤ 2048) (hS : LSt G S D Q) (hR : Rel B q D Q) (hB : B + 24 * q + 48 ≤ 80000) (ha : a + 8 ≤ 603072) (hb : b + 64 ≤ 7157866) (kk : ∀ S1 D1 Q1 B1 q1, LSt G S1 D1 Q1 → Rel B1 q1 D1 Q1 → B1 + 24 * q1 ≤ B + 24 * q + 48 → AW X G 9 126 3033 (LO G q0 i) [] S1 (a + 8) (b + 64)) : AW X G 9 126 1338 (LO G q0 i) [] S a b := by
  obtain ⟨h, hN, hX⟩ := c
  obtain ⟨hD, hQ, ⟨f4, h4⟩, f5, h5⟩ := id hS
  obtain ⟨t, t1, t2⟩ := hR.t
  refine r_aload_n (pc' := 1339) h dL_law_1338 rfl rfl ?_
  refine r_callVL (pc' := 1342) (st := []) (M := mX4_windSpeed) (As := []) h dL_law_1339 rfl lL_234 vX4_windSpeed rfl hD.l0 hD.o0 rfl rfl (by decide) ⟨by decide, by decide, by show a + 0 ≤ 603072; omega, by show b + 0 ≤ 7157866; omega⟩ (kX4_windSpeed hD ?_)
  show AW X G 9 126 1342 _ _ S _ _
  refine r_aload_n (pc' := 1343) h dL_law_1342 rfl rfl ?_
  refine r_callVL (pc' := 1346) (st := [.int _]) (M := mX5_windSpeed) (As := []) h dL_law_1343 rfl lL_237 vX5_windSpeed rfl hQ.l0 hQ.o rfl rfl (by show 1 + 0 ≤ 8; decide) ⟨by decide, by decide, by show a + 0 + 0 ≤ 603072; omega, by show b + 0 + 0 ≤ 7157866; omega⟩ (kX5_windSpeed hQ (fun S2 hQ2 hR3 => ?_))
  show AW X G 9 126 1346 _ _ S2 _ _
  exact r_icmp_eq (tgt := 3033) (pc' := 1349) h dL_law_1346 (by decide) rfl (fun _ => r_widen (by show a + 0 + 0 ≤ a + 8; omega) (by show b + 0 + 0 ≤ b + 64; omega) (kk S2 _ _ _ _ (hS.m hQ2 hR3) (hR.thr 0) (by omega))) (fun c => absurd (dr_speed hR) c)
