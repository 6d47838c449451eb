/-! THE LAW's calls 30 to 39. -/
theorem lc_30 {X : CX} {G : GX} {q0 L : Nat} {xs : Nat → Int32} {S : Nat → va_E} {D : DM} {Q : MM} {B q a b i : Nat} (c : LC X G q0 L xs) (hi : i + 4 ≤ L) (hL : L ≤ 2048) (hS : LSt G S D Q) (hR : Rel B q D Q) (hB : B + 24 * q + 48 ≤ 80000) (ha : a + 8 ≤ 603072) (hb : b + 64 ≤ 7157866) (kk : ∀ S1 D1 Q1 B1 q1, LSt G S1 D1 Q1 → Rel B1 q1 D1 Q1 → B1 + 24 * q1 ≤ B + 24 * q + 48 → AW X G 9 126 3033 (LO G q0 i) [] S1 (a + 8) (b + 64)) : AW X G 9 126 1710 (LO G q0 i) [] S a b := by
  obtain ⟨h, hN, hX⟩ := c
  obtain ⟨hD, hQ, ⟨f4, h4⟩, f5, h5⟩ := id hS
  obtain ⟨t, t1, t2⟩ := hR.t
  obtain ⟨hR2, hag⟩ := chg_disp hR
  refine r_aload_n (pc' := 1711) h dL_law_1710 rfl rfl ?_
  refine r_callVL (pc' := 1714) (st := []) (M := mX4_dispatch) (As := []) h dL_law_1711 rfl lL_273 vX4_dispatch rfl hD.l0 hD.o0 rfl rfl (by decide) ⟨by decide, by decide, by show a + 3 ≤ 603072; omega, by show b + 18 ≤ 7157866; omega⟩ (kX4_dispatch hD hR.v (fun S1 hD1 hr1 => ?_))
  rw [agr_nil hag]
  show AW X G 9 126 1714 _ _ S1 _ _
  have hS1 := hS.dr hD1 hr1
  have hQ1 : isM G 126 S1 Q := hS1.2.1
  refine r_aload_n (pc' := 1715) h dL_law_1714 rfl rfl ?_
  refine r_callVL (pc' := 1718) (st := [.int _]) (M := mX5_dispatch) (As := []) h dL_law_1715 rfl lL_276 vX5_dispatch rfl hQ1.l0 hQ1.o rfl rfl (by show 1 + 0 ≤ 8; decide) ⟨by decide, by decide, by show a + 3 + 0 ≤ 603072; omega, by show b + 18 + 0 ≤ 7157866; omega⟩ (kX5_dispatch hQ1 hR.w hR.c (d := 12) (disp_all (qB_ok hR) (qB_eq hR)).2.2.2.2 (fun S2 hQ2 hR3 => ?_))
  show AW X G 9 126 1718 _ _ S2 _ _
  exact r_icmp_eq (tgt := 3033) (pc' := 1721) h dL_law_1718 (by decide) rfl (fun _ => r_widen (by show a + 3 + 0 ≤ a + 8; omega) (by show b + 18 + 0 ≤ b + 64; omega) (kk S2 _ _ _ _ (hS1.m hQ2 hR3) hR2 (by omega))) (fun c => absurd rfl c)
theorem lc_31 {X : CX} {G : GX} {q0 L : Nat} {xs : Nat → Int32} {S : Nat → va_E} {D : DM} {Q : MM} {B q a b i : Nat} (c : LC X G q0 L xs) (hi : i + 4 ≤ L) (hL : L ≤ 2048) (hS : LSt G S D Q) (hR : Rel B q D Q) (hB : B + 24 * q + 48 ≤ 80000) (ha : a + 8 ≤ 603072) (hb : b + 64 ≤ 7157866) (kk : ∀ S1 D1 Q1 B1 q1, LSt G S1 D1 Q1 → Rel B1 q1 D1 Q1 → B1 + 24 * q1 ≤ B + 24 * q + 48 → AW X G 9 126 3033 (LO G q0 i) [] S1 (a + 8) (b + 64)) : AW X G 9 126 1723 (LO G q0 i) [] S a b := by
  obtain ⟨h, hN, hX⟩ := c
  obtain ⟨hD, hQ, ⟨f4, h4⟩, f5, h5⟩ := id hS
  obtain ⟨t, t1, t2⟩ := hR.t
  obtain ⟨hR2, hag⟩ := chg_relall hR
  refine r_aload_n (pc' := 1724) h dL_law_1723 rfl rfl ?_
  refine r_callVL (pc' := 1727) (st := []) (M := mX4_releaseAll) (As := []) h dL_law_1724 rfl lL_277 vX4_releaseAll rfl hD.l0 hD.o0 rfl rfl (by decide) ⟨by decide, by decide, by show a + 3 ≤ 603072; omega, by show b + 18 ≤ 7157866; omega⟩ (kX4_releaseAll hD hR.v (fun S1 hD1 hr1 => ?_))
  rw [agr_nil hag]
  show AW X G 9 126 1727 _ _ S1 _ _
  have hS1 := hS.dr hD1 hr1
  have hQ1 : isM G 126 S1 Q := hS1.2.1
  refine r_aload_n (pc' := 1728) h dL_law_1727 rfl rfl ?_
  refine r_callVL (pc' := 1731) (st := [.int _]) (M := mX5_releaseAll) (As := []) h dL_law_1728 rfl lL_280 vX5_releaseAll rfl hQ1.l0 hQ1.o rfl rfl (by show 1 + 0 ≤ 8; decide) ⟨by decide, by decide, by show a + 3 + 0 ≤ 603072; omega, by show b + 18 + 0 ≤ 7157866; omega⟩ (kX5_releaseAll hQ1 hR.w hR.c (fun S2 hQ2 hR3 => ?_))
  show AW X G 9 126 1731 _ _ S2 _ _
  exact r_icmp_eq (tgt := 3033) (pc' := 1734) h dL_law_1731 (by decide) rfl (fun _ => r_widen (by show a + 3 + 0 ≤ a + 8; omega) (by show b + 18 + 0 ≤ b + 64; omega) (kk S2 _ _ _ _ (hS1.m hQ2 hR3) hR2 (by omega))) (fun c => absurd rfl c)
theorem lc_32 {X : CX} {G : GX} {q0 L : Nat} {xs : Nat → Int32} {S : Nat → va_E} {D : DM} {Q : MM} {B q a b i : Nat} (c : LC X G q0 L xs) (hi : i + 4 ≤ L) (hL : L ≤ 2048) (hS : LSt G S D Q) (hR : Rel B q D Q) (hB : B + 24 * q + 48 ≤ 80000) (ha : a + 8 ≤ 603072) (hb : b + 64 ≤ 7157866) (kk : ∀ S1 D1 Q1 B1 q1, LSt G S1 D1 Q1 → Rel B1 q1 D1 Q1 → B1 + 24 * q1 ≤ B + 24 * q + 48 → AW X G 9 126 3033 (LO G q0 i) [] S1 (a + 8) (b + 64)) : AW X G 9 126 1736 (LO G q0 i) [] S a b := by
  obtain ⟨h, hN, hX⟩ := c
  obtain ⟨hD, hQ, ⟨f4, h4⟩, f5, h5⟩ := id hS
  obtain ⟨t, t1, t2⟩ := hR.t
  obtain ⟨hR2, hag⟩ := chg_bid hR (xs (i + 1)) (xs (i + 2)) (xs (i + 3))
  refine r_aload_n (pc' := 1737) h dL_law_1736 rfl rfl ?_
  refine r_sarg (k := 1) (pc' := 1743) h hX dL_law_1737 dL_law_1738 dL_law_1740 dL_law_1741 dL_law_1742 rfl rfl rfl (by decide) (by omega) hL ?_
  refine r_sarg (k := 2) (pc' := 1749) h hX dL_law_1743 dL_law_1744 dL_law_1746 dL_law_1747 dL_law_1748 rfl rfl rfl (by decide) (by omega) hL ?_
  refine r_sarg (k := 3) (pc' := 1755) h hX dL_law_1749 dL_law_1750 dL_law_1752 dL_law_1753 dL_law_1754 rfl rfl rfl (by decide) (by omega) hL ?_
  refine r_aload_n (pc' := 1756) h dL_law_1755 rfl rfl ?_
  refine r_callSL (pc' := 1759) (st := []) (M := (yL_placeBid, cL_placeBid, 6, some .int)) (As := [.ref (ad G 0), .int (xs (i + 1)), .int (xs (i + 2)), .int (xs (i + 3)), .ref (ad G 124)]) h hN dL_law_1756 rfl lL_281 sL_placeBid rfl rfl (by decide) ⟨by decide, by decide, by show a + 3 ≤ 603072; omega, by show b + 18 ≤ 7157866; omega⟩ (kL_placeBid hD (by decide) h4 hR.v hag (fun S1 g hD1 hf hg e1 => ?_))
  show AW X G 9 126 1759 _ _ S1 _ _
  have hS1 := hS.x hD1 hf hg
  have hQ1 : isM G 126 S1 Q := hS1.2.1
  refine r_istore (pc' := 1761) h dL_law_1759 rfl (by decide) rfl ?_
  refine r_aload_n (pc' := 1762) h dL_law_1761 rfl rfl ?_
  refine r_sarg (k := 1) (pc' := 1768) h hX dL_law_1762 dL_law_1763 dL_law_1765 dL_law_1766 dL_law_1767 rfl rfl rfl (by decide) (by omega) hL ?_
  refine r_sarg (k := 2) (pc' := 1774) h hX dL_law_1768 dL_law_1769 dL_law_1771 dL_law_1772 dL_law_1773 rfl rfl rfl (by decide) (by omega) hL ?_
  refine r_sarg (k := 3) (pc' := 1780) h hX dL_law_1774 dL_law_1775 dL_law_1777 dL_law_1778 dL_law_1779 rfl rfl rfl (by decide) (by omega) hL ?_
  refine r_callVL (pc' := 1783) (st := []) (M := mX5_placeBid) (As := [.int (xs (i + 1)), .int (xs (i + 2)), .int (xs (i + 3))]) h dL_law_1780 rfl lL_283 vX5_placeBid rfl hQ1.l0 hQ1.o rfl rfl (by decide) ⟨by decide, by decide, by show a + 3 + 0 ≤ 603072; omega, by show b + 18 + 0 ≤ 7157866; omega⟩ (kX5_placeBid hQ1 hR.w hR.c (fun S2 hQ2 hR3 => ?_))
  show AW X G 9 126 1783 _ _ S2 _ _
  refine r_istore (pc' := 1785) h dL_law_1783 rfl (by decide) rfl ?_
  exact r_tail (tgt := 3033) h hQ2 ((hR3 124 (by decide)).trans hg) rfl rfl rfl rfl rfl e1 dL_law_1785 dL_law_1786 dL_law_1789 dL_law_1791 dL_law_1796 dL_law_1798 dL_law_1801 dL_law_1802 dL_law_1803 dL_law_1804 dL_law_1806 dL_law_1807 dL_law_1808 dL_law_1813 (by decide) (by show a + 3 + 0 ≤ 603072; omega) (by show b + 18 + 0 ≤ 7157866; omega) rfl (r_widen (by show a + 3 + 0 ≤ a + 8; omega) (by show b + 18 + 0 ≤ b + 64; omega) (kk S2 _ _ _ _ (hS1.m hQ2 hR3) hR2 (by omega)))
theorem lc_33 {X : CX} {G : GX} {q0 L : Nat} {xs : Nat → Int32} {S : Nat → va_E} {D : DM} {Q : MM} {B q a b i : Nat} (c : LC X G q0 L xs) (hi : i + 4 ≤ L) (hL : L ≤ 2048) (hS : LSt G S D Q) (hR : Rel B q D Q) (hB : B + 24 * q + 48 ≤ 80000) (ha : a + 8 ≤ 603072) (hb : b + 64 ≤ 7157866) (kk : ∀ S1 D1 Q1 B1 q1, LSt G S1 D1 Q1 → Rel B1 q1 D1 Q1 → B1 + 24 * q1 ≤ B + 24 * q + 48 → AW X G 9 126 3033 (LO G q0 i) [] S1 (a + 8) (b + 64)) : AW X G 9 126 1816 (LO G q0 i) [] S a b := by
  obtain ⟨h, hN, hX⟩ := c
  obtain ⟨hD, hQ, ⟨f4, h4⟩, f5, h5⟩ := id hS
  obtain ⟨t, t1, t2⟩ := hR.t
  obtain ⟨hR2, hag⟩ := chg_unbid hR (xs (i + 1))
  refine r_aload_n (pc' := 1817) h dL_law_1816 rfl rfl ?_
  refine r_sarg (k := 1) (pc' := 1823) h hX dL_law_1817 dL_law_1818 dL_law_1820 dL_law_1821 dL_law_1822 rfl rfl rfl (by decide) (by omega) hL ?_
  refine r_aload_n (pc' := 1824) h dL_law_1823 rfl rfl ?_
  refine r_callSL (pc' := 1827) (st := []) (M := (yL_withdrawBid, cL_withdrawBid, 4, some .int)) (As := [.ref (ad G 0), .int (xs (i + 1)), .ref (ad G 124)]) h hN dL_law_1824 rfl lL_284 sL_withdrawBid rfl rfl (by decide) ⟨by decide, by decide, by show a + 3 ≤ 603072; omega, by show b + 18 ≤ 7157866; omega⟩ (kL_withdrawBid hD (by decide) h4 hR.v hag (fun S1 g hD1 hf hg e1 => ?_))
  show AW X G 9 126 1827 _ _ S1 _ _
  have hS1 := hS.x hD1 hf hg
  have hQ1 : isM G 126 S1 Q := hS1.2.1
  refine r_istore (pc' := 1829) h dL_law_1827 rfl (by decide) rfl ?_
  refine r_aload_n (pc' := 1830) h dL_law_1829 rfl rfl ?_
  refine r_sarg (k := 1) (pc' := 1836) h hX dL_law_1830 dL_law_1831 dL_law_1833 dL_law_1834 dL_law_1835 rfl rfl rfl (by decide) (by omega) hL ?_
  refine r_callVL (pc' := 1839) (st := []) (M := mX5_withdrawBid) (As := [.int (xs (i + 1))]) h dL_law_1836 rfl lL_286 vX5_withdrawBid rfl hQ1.l0 hQ1.o rfl rfl (by decide) ⟨by decide, by decide, by show a + 3 + 0 ≤ 603072; omega, by show b + 18 + 0 ≤ 7157866; omega⟩ (kX5_withdrawBid hQ1 hR.w hR.c (fun S2 hQ2 hR3 => ?_))
  show AW X G 9 126 1839 _ _ S2 _ _
  refine r_istore (pc' := 1841) h dL_law_1839 rfl (by decide) rfl ?_
  exact r_tail (tgt := 3033) h hQ2 ((hR3 124 (by decide)).trans hg) rfl rfl rfl rfl rfl e1 dL_law_1841 dL_law_1842 dL_law_1845 dL_law_1847 dL_law_1852 dL_law_1854 dL_law_1857 dL_law_1858 dL_law_1859 dL_law_1860 dL_law_1862 dL_law_1863 dL_law_1864 dL_law_1869 (by decide) (by show a + 3 + 0 ≤ 603072; omega) (by show b + 18 + 0 ≤ 7157866; omega) rfl (r_widen (by show a + 3 + 0 ≤ a + 8; omega) (by show b + 18 + 0 ≤ b + 64; omega) (kk S2 _ _ _ _ (hS1.m hQ2 hR3) hR2 (by omega)))
theorem lc_34 {X : CX} {G : GX} {q0 L : Nat} {xs : Nat → Int32} {S : Nat → va_E} {D : DM} {Q : MM} {B q a b i : Nat} (c : LC X G q0 L xs) (hi : i + 4 ≤ L) (hL : L ≤ 2048) (hS : LSt G S D Q) (hR : Rel B q D Q) (hB : B + 24 * q + 48 ≤ 80000) (ha : a + 8 ≤ 603072) (hb : b + 64 ≤ 7157866) (kk : ∀ S1 D1 Q1 B1 q1, LSt G S1 D1 Q1 → Rel B1 q1 D1 Q1 → B1 + 24 * q1 ≤ B + 24 * q + 48 → AW X G 9 126 3033 (LO G q0 i) [] S1 (a + 8) (b + 64)) : AW X G 9 126 1872 (LO G q0 i) [] S a b := by
  obtain ⟨h, hN, hX⟩ := c
  obtain ⟨hD, hQ, ⟨f4, h4⟩, f5, h5⟩ := id hS
  obtain ⟨t, t1, t2⟩ := hR.t
  obtain ⟨hR2, hag⟩ := hR.rd (rd_hb hR.2.1.1 hR.2.1.2 (xs (i + 1)))
  refine r_aload_n (pc' := 1873) h dL_law_1872 rfl rfl ?_
  refine r_sarg (k := 1) (pc' := 1879) h hX dL_law_1873 dL_law_1874 dL_law_1876 dL_law_1877 dL_law_1878 rfl rfl rfl (by decide) (by omega) hL ?_
  refine r_aload_n (pc' := 1880) h dL_law_1879 rfl rfl ?_
  refine r_callSL (pc' := 1883) (st := []) (M := (yL_hasBid, cL_hasBid, 4, some .int)) (As := [.ref (ad G 0), .int (xs (i + 1)), .ref (ad G 124)]) h hN dL_law_1880 rfl lL_287 sL_hasBid rfl rfl (by decide) ⟨by decide, by decide, by show a + 1 ≤ 603072; omega, by show b + 6 ≤ 7157866; omega⟩ (kL_hasBid hD (by decide) h4 (fun K1 h1 => kX4_hasBid hD (h1 S hD DR.rfl')) hag (fun S1 g hD1 hf hg e1 => ?_))
  show AW X G 9 126 1883 _ _ S1 _ _
  have hS1 := hS.x hD1 hf hg
  have hQ1 : isM G 126 S1 Q := hS1.2.1
  refine r_istore (pc' := 1885) h dL_law_1883 rfl (by decide) rfl ?_
  refine r_aload_n (pc' := 1886) h dL_law_1885 rfl rfl ?_
  refine r_sarg (k := 1) (pc' := 1892) h hX dL_law_1886 dL_law_1887 dL_law_1889 dL_law_1890 dL_law_1891 rfl rfl rfl (by decide) (by omega) hL ?_
  refine r_callVL (pc' := 1895) (st := []) (M := mX5_hasBid) (As := [.int (xs (i + 1))]) h dL_law_1892 rfl lL_289 vX5_hasBid rfl hQ1.l0 hQ1.o rfl rfl (by decide) ⟨by decide, by decide, by show a + 1 + 0 ≤ 603072; omega, by show b + 6 + 0 ≤ 7157866; omega⟩ (kX5_hasBid hQ1 (fun S2 hQ2 hR3 => ?_))
  show AW X G 9 126 1895 _ _ S2 _ _
  refine r_istore (pc' := 1897) h dL_law_1895 rfl (by decide) rfl ?_
  exact r_tailB (tgt := 3033) h hQ2 ((hR3 124 (by decide)).trans hg) rfl rfl rfl rfl rfl e1 dL_law_1897 dL_law_1898 dL_law_1901 dL_law_1903 dL_law_1908 dL_law_1910 dL_law_1913 dL_law_1914 dL_law_1915 dL_law_1916 dL_law_1918 dL_law_1921 dL_law_1922 dL_law_1925 dL_law_1926 dL_law_1927 dL_law_1932 (by decide) (by show a + 1 + 0 ≤ 603072; omega) (by show b + 6 + 0 ≤ 7157866; omega) rfl (r_widen (by show a + 1 + 0 ≤ a + 8; omega) (by show b + 6 + 0 ≤ b + 64; omega) (kk S2 _ _ _ _ (hS1.m hQ2 hR3) hR2 (by omega)))
theorem lc_35 {X : CX} {G : GX} {q0 L : Nat} {xs : Nat → Int32} {S : Nat → va_E} {D : DM} {Q : MM} {B q a b i : Nat} (c : LC X G q0 L xs) (hi : i + 4 ≤ L) (hL : L ≤ 2048) (hS : LSt G S D Q) (hR : Rel B q D Q) (hB : B + 24 * q + 48 ≤ 80000) (ha : a + 8 ≤ 603072) (hb : b + 64 ≤ 7157866) (kk : ∀ S1 D1 Q1 B1 q1, LSt G S1 D1 Q1 → Rel B1 q1 D1 Q1 → B1 + 24 * q1 ≤ B + 24 * q + 48 → AW X G 9 126 3033 (LO G q0 i) [] S1 (a + 8) (b + 64)) : AW X G 9 126 1935 (LO G q0 i) [] S a b := by
  obtain ⟨h, hN, hX⟩ := c
  obtain ⟨hD, hQ, ⟨f4, h4⟩, f5, h5⟩ := id hS
  obtain ⟨t, t1, t2⟩ := hR.t
  obtain ⟨hR2, hag⟩ := hR.rd (rd_bp hR.2.1.1 hR.2.1.2 (xs (i + 1)))
  refine r_aload_n (pc' := 1936) h dL_law_1935 rfl rfl ?_
  refine r_sarg (k := 1) (pc' := 1942) h hX dL_law_1936 dL_law_1937 dL_law_1939 dL_law_1940 dL_law_1941 rfl rfl rfl (by decide) (by omega) hL ?_
  refine r_aload_n (pc' := 1943) h dL_law_1942 rfl rfl ?_
  refine r_callSL (pc' := 1946) (st := []) (M := (yL_bidPrice, cL_bidPrice, 4, some .int)) (As := [.ref (ad G 0), .int (xs (i + 1)), .ref (ad G 124)]) h hN dL_law_1943 rfl lL_290 sL_bidPrice rfl rfl (by decide) ⟨by decide, by decide, by show a + 2 ≤ 603072; omega, by show b + 12 ≤ 7157866; omega⟩ (kL_bidPrice hD (by decide) h4 (fun K1 h1 => kX4_bidPrice hD (h1 S hD DR.rfl')) hag (fun S1 g hD1 hf hg e1 => ?_))
  show AW X G 9 126 1946 _ _ S1 _ _
  have hS1 := hS.x hD1 hf hg
  have hQ1 : isM G 126 S1 Q := hS1.2.1
  refine r_istore (pc' := 1948) h dL_law_1946 rfl (by decide) rfl ?_
  refine r_aload_n (pc' := 1949) h dL_law_1948 rfl rfl ?_
  refine r_sarg (k := 1) (pc' := 1955) h hX dL_law_1949 dL_law_1950 dL_law_1952 dL_law_1953 dL_law_1954 rfl rfl rfl (by decide) (by omega) hL ?_
  refine r_callVL (pc' := 1958) (st := []) (M := mX5_bidPrice) (As := [.int (xs (i + 1))]) h dL_law_1955 rfl lL_292 vX5_bidPrice rfl hQ1.l0 hQ1.o rfl rfl (by decide) ⟨by decide, by decide, by show a + 2 + 0 ≤ 603072; omega, by show b + 12 + 0 ≤ 7157866; omega⟩ (kX5_bidPrice hQ1 (fun S2 hQ2 hR3 => ?_))
  show AW X G 9 126 1958 _ _ S2 _ _
  refine r_istore (pc' := 1960) h dL_law_1958 rfl (by decide) rfl ?_
  exact r_tail (tgt := 3033) h hQ2 ((hR3 124 (by decide)).trans hg) rfl rfl rfl rfl rfl e1 dL_law_1960 dL_law_1961 dL_law_1964 dL_law_1966 dL_law_1971 dL_law_1973 dL_law_1976 dL_law_1977 dL_law_1978 dL_law_1979 dL_law_1981 dL_law_1982 dL_law_1983 dL_law_1988 (by decide) (by show a + 2 + 0 ≤ 603072; omega) (by show b + 12 + 0 ≤ 7157866; omega) rfl (r_widen (by show a + 2 + 0 ≤ a + 8; omega) (by show b + 12 + 0 ≤ b + 64; omega) (kk S2 _ _ _ _ (hS1.m hQ2 hR3) hR2 (by omega)))
theorem lc_36 {X : CX} {G : GX} {q0 L : Nat} {xs : Nat → Int32} {S : Nat → va_E} {D : DM} {Q : MM} {B q a b i : Nat} (c : LC X G q0 L xs) (hi : i + 4 ≤ L) (hL : L ≤ 2048) (hS : LSt G S D Q) (hR : Rel B q D Q) (hB : B + 24 * q + 48 ≤ 80000) (ha : a + 8 ≤ 603072) (hb : b + 64 ≤ 7157866) (kk : ∀ S1 D1 Q1 B1 q1, LSt G S1 D1 Q1 → Rel B1 q1 D1 Q1 → B1 + 24 * q1 ≤ B + 24 * q + 48 → AW X G 9 126 3033 (LO G q0 i) [] S1 (a + 8) (b + 64)) : AW X G 9 126 1991 (LO G q0 i) [] S a b := by
  obtain ⟨h, hN, hX⟩ := c
  obtain ⟨hD, hQ, ⟨f4, h4⟩, f5, h5⟩ := id hS
  obtain ⟨t, t1, t2⟩ := hR.t
  obtain ⟨hR2, hag⟩ := hR.rd (rd_bq hR.2.1.1 hR.2.1.2 (xs (i + 1)))
  refine r_aload_n (pc' := 1992) h dL_law_1991 rfl rfl ?_
  refine r_sarg (k := 1) (pc' := 1998) h hX dL_law_1992 dL_law_1993 dL_law_1995 dL_law_1996 dL_law_1997 rfl rfl rfl (by decide) (by omega) hL ?_
  refine r_aload_n (pc' := 1999) h dL_law_1998 rfl rfl ?_
  refine r_callSL (pc' := 2002) (st := []) (M := (yL_bidQuantity, cL_bidQuantity, 4, some .int)) (As := [.ref (ad G 0), .int (xs (i + 1)), .ref (ad G 124)]) h hN dL_law_1999 rfl lL_293 sL_bidQuantity rfl rfl (by decide) ⟨by decide, by decide, by show a + 2 ≤ 603072; omega, by show b + 12 ≤ 7157866; omega⟩ (kL_bidQuantity hD (by decide) h4 (fun K1 h1 => kX4_bidQuantity hD (h1 S hD DR.rfl')) hag (fun S1 g hD1 hf hg e1 => ?_))
  show AW X G 9 126 2002 _ _ S1 _ _
  have hS1 := hS.x hD1 hf hg
  have hQ1 : isM G 126 S1 Q := hS1.2.1
  refine r_istore (pc' := 2004) h dL_law_2002 rfl (by decide) rfl ?_
  refine r_aload_n (pc' := 2005) h dL_law_2004 rfl rfl ?_
  refine r_sarg (k := 1) (pc' := 2011) h hX dL_law_2005 dL_law_2006 dL_law_2008 dL_law_2009 dL_law_2010 rfl rfl rfl (by decide) (by omega) hL ?_
  refine r_callVL (pc' := 2014) (st := []) (M := mX5_bidQuantity) (As := [.int (xs (i + 1))]) h dL_law_2011 rfl lL_295 vX5_bidQuantity rfl hQ1.l0 hQ1.o rfl rfl (by decide) ⟨by decide, by decide, by show a + 2 + 0 ≤ 603072; omega, by show b + 12 + 0 ≤ 7157866; omega⟩ (kX5_bidQuantity hQ1 (fun S2 hQ2 hR3 => ?_))
  show AW X G 9 126 2014 _ _ S2 _ _
  refine r_istore (pc' := 2016) h dL_law_2014 rfl (by decide) rfl ?_
  exact r_tail (tgt := 3033) h hQ2 ((hR3 124 (by decide)).trans hg) rfl rfl rfl rfl rfl e1 dL_law_2016 dL_law_2017 dL_law_2020 dL_law_2022 dL_law_2027 dL_law_2029 dL_law_2032 dL_law_2033 dL_law_2034 dL_law_2035 dL_law_2037 dL_law_2038 dL_law_2039 dL_law_2044 (by decide) (by show a + 2 + 0 ≤ 603072; omega) (by show b + 12 + 0 ≤ 7157866; omega) rfl (r_widen (by show a + 2 + 0 ≤ a + 8; omega) (by show b + 12 + 0 ≤ b + 64; omega) (kk S2 _ _ _ _ (hS1.m hQ2 hR3) hR2 (by omega)))
theorem lc_37 {X : CX} {G : GX} {q0 L : Nat} {xs : Nat → Int32} {S : Nat → va_E} {D : DM} {Q : MM} {B q a b i : Nat} (c : LC X G q0 L xs) (hi : i + 4 ≤ L) (hL : L ≤ 2048) (hS : LSt G S D Q) (hR : Rel B q D Q) (hB : B + 24 * q + 48 ≤ 80000) (ha : a + 8 ≤ 603072) (hb : b + 64 ≤ 7157866) (kk : ∀ S1 D1 Q1 B1 q1, LSt G S1 D1 Q1 → Rel B1 q1 D1 Q1 → B1 + 24 * q1 ≤ B + 24 * q + 48 → AW X G 9 126 3033 (LO G q0 i) [] S1 (a + 8) (b + 64)) : AW X G 9 126 2047 (LO G q0 i) [] S a b := by
  obtain ⟨h, hN, hX⟩ := c
  obtain ⟨hD, hQ, ⟨f4, h4⟩, f5, h5⟩ := id hS
  obtain ⟨t, t1, t2⟩ := hR.t
  obtain ⟨hR2, hag⟩ := hR.rd (rd_byp hR.2.1.1 hR.2.1.2 (xs (i + 1)) 24 0 (by decide))
  refine r_aload_n (pc' := 2048) h dL_law_2047 rfl rfl ?_
  refine r_sarg (k := 1) (pc' := 2054) h hX dL_law_2048 dL_law_2049 dL_law_2051 dL_law_2052 dL_law_2053 rfl rfl rfl (by decide) (by omega) hL ?_
  refine r_aload_n (pc' := 2055) h dL_law_2054 rfl rfl ?_
  refine r_callSL (pc' := 2058) (st := []) (M := (yL_bidByPrice, cL_bidByPrice, 4, some .int)) (As := [.ref (ad G 0), .int (xs (i + 1)), .ref (ad G 124)]) h hN dL_law_2055 rfl lL_296 sL_bidByPrice rfl rfl (by decide) ⟨by decide, by decide, by show a + 1 ≤ 603072; omega, by show b + 6 ≤ 7157866; omega⟩ (kL_bidByPrice hD (by decide) h4 (fun K1 h1 => kX4_bidByPrice hD (h1 S hD DR.rfl')) hag (fun S1 g hD1 hf hg e1 => ?_))
  show AW X G 9 126 2058 _ _ S1 _ _
  have hS1 := hS.x hD1 hf hg
  have hQ1 : isM G 126 S1 Q := hS1.2.1
  refine r_istore (pc' := 2060) h dL_law_2058 rfl (by decide) rfl ?_
  refine r_aload_n (pc' := 2061) h dL_law_2060 rfl rfl ?_
  refine r_sarg (k := 1) (pc' := 2067) h hX dL_law_2061 dL_law_2062 dL_law_2064 dL_law_2065 dL_law_2066 rfl rfl rfl (by decide) (by omega) hL ?_
  refine r_callVL (pc' := 2070) (st := []) (M := mX5_bidByPrice) (As := [.int (xs (i + 1))]) h dL_law_2067 rfl lL_298 vX5_bidByPrice rfl hQ1.l0 hQ1.o rfl rfl (by decide) ⟨by decide, by decide, by show a + 1 + 0 ≤ 603072; omega, by show b + 6 + 0 ≤ 7157866; omega⟩ (kX5_bidByPrice hQ1 (fun S2 hQ2 hR3 => ?_))
  show AW X G 9 126 2070 _ _ S2 _ _
  refine r_istore (pc' := 2072) h dL_law_2070 rfl (by decide) rfl ?_
  exact r_tail (tgt := 3033) h hQ2 ((hR3 124 (by decide)).trans hg) rfl rfl rfl rfl rfl e1 dL_law_2072 dL_law_2073 dL_law_2076 dL_law_2078 dL_law_2083 dL_law_2085 dL_law_2088 dL_law_2089 dL_law_2090 dL_law_2091 dL_law_2093 dL_law_2094 dL_law_2095 dL_law_2100 (by decide) (by show a + 1 + 0 ≤ 603072; omega) (by show b + 6 + 0 ≤ 7157866; omega) rfl (r_widen (by show a + 1 + 0 ≤ a + 8; omega) (by show b + 6 + 0 ≤ b + 64; omega) (kk S2 _ _ _ _ (hS1.m hQ2 hR3) hR2 (by omega)))
theorem lc_38 {X : CX} {G : GX} {q0 L : Nat} {xs : Nat → Int32} {S : Nat → va_E} {D : DM} {Q : MM} {B q a b i : Nat} (c : LC X G q0 L xs) (hi : i + 4 ≤ L) (hL : L ≤ 2048) (hS : LSt G S D Q) (hR : Rel B q D Q) (hB : B + 24 * q + 48 ≤ 80000) (ha : a + 8 ≤ 603072) (hb : b + 64 ≤ 7157866) (kk : ∀ S1 D1 Q1 B1 q1, LSt G S1 D1 Q1 → Rel B1 q1 D1 Q1 → B1 + 24 * q1 ≤ B + 24 * q + 48 → AW X G 9 126 3033 (LO G q0 i) [] S1 (a + 8) (b + 64)) : AW X G 9 126 2103 (LO G q0 i) [] S a b := by
  obtain ⟨h, hN, hX⟩ := c
  obtain ⟨hD, hQ, ⟨f4, h4⟩, f5, h5⟩ := id hS
  obtain ⟨t, t1, t2⟩ := hR.t
  obtain ⟨hR2, hag⟩ := chg_hours hR (by omega) (xs (i + 1))
  refine r_aload_n (pc' := 2104) h dL_law_2103 rfl rfl ?_
  refine r_sarg (k := 1) (pc' := 2110) h hX dL_law_2104 dL_law_2105 dL_law_2107 dL_law_2108 dL_law_2109 rfl rfl rfl (by decide) (by omega) hL ?_
  refine r_aload_n (pc' := 2111) h dL_law_2110 rfl rfl ?_
  refine r_callSL (pc' := 2114) (st := []) (M := (yL_passHours, cL_passHours, 4, some .int)) (As := [.ref (ad G 0), .int (xs (i + 1)), .ref (ad G 124)]) h hN dL_law_2111 rfl lL_299 sL_passHours rfl rfl (by decide) ⟨by decide, by decide, by show a + 3 ≤ 603072; omega, by show b + 18 ≤ 7157866; omega⟩ (kL_passHours hD (by decide) h4 (fun K1 h1 => kX4_passHours hD hR.v h1) hag (fun S1 g hD1 hf hg e1 => ?_))
  show AW X G 9 126 2114 _ _ S1 _ _
  have hS1 := hS.x hD1 hf hg
  have hQ1 : isM G 126 S1 Q := hS1.2.1
  refine r_istore (pc' := 2116) h dL_law_2114 rfl (by decide) rfl ?_
  refine r_aload_n (pc' := 2117) h dL_law_2116 rfl rfl ?_
  refine r_sarg (k := 1) (pc' := 2123) h hX dL_law_2117 dL_law_2118 dL_law_2120 dL_law_2121 dL_law_2122 rfl rfl rfl (by decide) (by omega) hL ?_
  refine r_callVL (pc' := 2126) (st := []) (M := mX5_passHours) (As := [.int (xs (i + 1))]) h dL_law_2123 rfl lL_301 vX5_passHours rfl hQ1.l0 hQ1.o rfl rfl (by decide) ⟨by decide, by decide, by show a + 3 + 0 ≤ 603072; omega, by show b + 18 + 0 ≤ 7157866; omega⟩ (kX5_passHours hQ1 hR.w hR.c t2 (by omega) (fun S2 hQ2 hR3 => ?_))
  show AW X G 9 126 2126 _ _ S2 _ _
  refine r_istore (pc' := 2128) h dL_law_2126 rfl (by decide) rfl ?_
  exact r_tail (tgt := 3033) h hQ2 ((hR3 124 (by decide)).trans hg) rfl rfl rfl rfl rfl e1 dL_law_2128 dL_law_2129 dL_law_2132 dL_law_2134 dL_law_2139 dL_law_2141 dL_law_2144 dL_law_2145 dL_law_2146 dL_law_2147 dL_law_2149 dL_law_2150 dL_law_2151 dL_law_2156 (by decide) (by show a + 3 + 0 ≤ 603072; omega) (by show b + 18 + 0 ≤ 7157866; omega) rfl (r_widen (by show a + 3 + 0 ≤ a + 8; omega) (by show b + 18 + 0 ≤ b + 64; omega) (kk S2 _ _ _ _ (hS1.m hQ2 hR3) hR2 (by omega)))
theorem lc_39 {X : CX} {G : GX} {q0 L : Nat} {xs : Nat → Int32} {S : Nat → va_E} {D : DM} {Q : MM} {B q a b i : Nat} (c : LC X G q0 L xs) (hi : i + 4 ≤ L) (hL : L ≤ 2048) (hS : LSt G S D Q) (hR : Rel B q D Q) (hB : B + 24 * q + 48 ≤ 80000) (ha : a + 8 ≤ 603072) (hb : b + 64 ≤ 7157866) (kk : ∀ S1 D1 Q1 B1 q1, LSt G S1 D1 Q1 → Rel B1 q1 D1 Q1 → B1 + 24 * q1 ≤ B + 24 * q + 48 → AW X G 9 126 3033 (LO G q0 i) [] S1 (a + 8) (b + 64)) : AW X G 9 126 2159 (LO G q0 i) [] S a b := by
  obtain ⟨h, hN, hX⟩ := c
  obtain ⟨hD, hQ, ⟨f4, h4⟩, f5, h5⟩ := id hS
  obtain ⟨t, t1, t2⟩ := hR.t
  refine r_aload_n (pc' := 2160) h dL_law_2159 rfl rfl ?_
  refine r_callVL (pc' := 2163) (st := []) (M := mX4_time) (As := []) h dL_law_2160 rfl lL_302 vX4_time rfl hD.l0 hD.o0 rfl rfl (by decide) ⟨by decide, by decide, by show a + 0 ≤ 603072; omega, by show b + 0 ≤ 7157866; omega⟩ (kX4_time hD ?_)
  show AW X G 9 126 2163 _ _ S _ _
  refine r_aload_n (pc' := 2164) h dL_law_2163 rfl rfl ?_
  refine r_callVL (pc' := 2167) (st := [.int _]) (M := mX5_time) (As := []) h dL_law_2164 rfl lL_305 vX5_time rfl hQ.l0 hQ.o rfl rfl (by show 1 + 0 ≤ 8; decide) ⟨by decide, by decide, by show a + 0 + 0 ≤ 603072; omega, by show b + 0 + 0 ≤ 7157866; omega⟩ (kX5_time hQ (fun S2 hQ2 hR3 => ?_))
  show AW X G 9 126 2167 _ _ S2 _ _
  exact r_icmp_eq (tgt := 3033) (pc' := 2170) h dL_law_2167 (by decide) rfl (fun _ => r_widen (by show a + 0 + 0 ≤ a + 8; omega) (by show b + 0 + 0 ≤ b + 64; omega) (kk S2 _ _ _ _ (hS.m hQ2 hR3) (hR.thr 0) (by omega))) (fun c => absurd (dr_time hR) c)
