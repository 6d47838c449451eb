/-! THE LAW's calls 40 to 49. -/
theorem lc_40 {X : CX} {G : GX} {q0 L : Nat} {xs : Nat → Int32} {S : Nat → va_E} {D : DM} {Q : MM} {B q a b i : Nat} (c : LC X G q0 L xs) (hi : i + 4 ≤ L) (hL : L ≤ 2048) (hS : LSt G S D Q) (hR : Rel B q D Q) (hB : B + 24 * q + 48 ≤ 80000) (ha : a + 8 ≤ 603072) (hb : b + 64 ≤ 7157866) (kk : ∀ S1 D1 Q1 B1 q1, LSt G S1 D1 Q1 → Rel B1 q1 D1 Q1 → B1 + 24 * q1 ≤ B + 24 * q + 48 → AW X G 9 126 3033 (LO G q0 i) [] S1 (a + 8) (b + 64)) : AW X G 9 126 2172 (LO G q0 i) [] S a b := by
  obtain ⟨h, hN, hX⟩ := c
  obtain ⟨hD, hQ, ⟨f4, h4⟩, f5, h5⟩ := id hS
  obtain ⟨t, t1, t2⟩ := hR.t
  obtain ⟨hR2, hag⟩ := in_rel hR (by omega) (xs (i + 1))
  refine r_aload_n (pc' := 2173) h dL_law_2172 rfl rfl ?_
  refine r_sarg (k := 1) (pc' := 2179) h hX dL_law_2173 dL_law_2174 dL_law_2176 dL_law_2177 dL_law_2178 rfl rfl rfl (by decide) (by omega) hL ?_
  refine r_aload_n (pc' := 2180) h dL_law_2179 rfl rfl ?_
  refine r_callSL (pc' := 2183) (st := []) (M := (yL_incomeWithin, cL_incomeWithin, 4, some .int)) (As := [.ref (ad G 0), .int (xs (i + 1)), .ref (ad G 124)]) h hN dL_law_2180 rfl lL_306 sL_incomeWithin rfl rfl (by decide) ⟨by decide, by decide, by show a + 1 ≤ 603072; omega, by show b + 6 ≤ 7157866; omega⟩ (kL_incomeWithin hD (by decide) h4 (fun K1 h1 => kX4_incomeWithin hD hR.v h1) hag (fun S1 g hD1 hf hg e1 => ?_))
  show AW X G 9 126 2183 _ _ S1 _ _
  have hS1 := hS.x hD1 hf hg
  have hQ1 : isM G 126 S1 Q := hS1.2.1
  refine r_istore (pc' := 2185) h dL_law_2183 rfl (by decide) rfl ?_
  refine r_aload_n (pc' := 2186) h dL_law_2185 rfl rfl ?_
  refine r_sarg (k := 1) (pc' := 2192) h hX dL_law_2186 dL_law_2187 dL_law_2189 dL_law_2190 dL_law_2191 rfl rfl rfl (by decide) (by omega) hL ?_
  refine r_callVL (pc' := 2195) (st := []) (M := mX5_incomeWithin) (As := [.int (xs (i + 1))]) h dL_law_2192 rfl lL_308 vX5_incomeWithin rfl hQ1.l0 hQ1.o rfl rfl (by decide) ⟨by decide, by decide, by show a + 1 + 0 ≤ 603072; omega, by show b + 6 + 0 ≤ 7157866; omega⟩ (kX5_incomeWithin hQ1 hR.w t2 (by omega) (fun S2 hQ2 hR3 => ?_))
  show AW X G 9 126 2195 _ _ S2 _ _
  refine r_istore (pc' := 2197) h dL_law_2195 rfl (by decide) rfl ?_
  exact r_tail (tgt := 3033) h hQ2 ((hR3 124 (by decide)).trans hg) rfl rfl rfl rfl rfl e1 dL_law_2197 dL_law_2198 dL_law_2201 dL_law_2203 dL_law_2208 dL_law_2210 dL_law_2213 dL_law_2214 dL_law_2215 dL_law_2216 dL_law_2218 dL_law_2219 dL_law_2220 dL_law_2225 (by decide) (by show a + 1 + 0 ≤ 603072; omega) (by show b + 6 + 0 ≤ 7157866; omega) rfl (r_widen (by show a + 1 + 0 ≤ a + 8; omega) (by show b + 6 + 0 ≤ b + 64; omega) (kk S2 _ _ _ _ (hS1.m hQ2 hR3) hR2 (by omega)))
theorem lc_41 {X : CX} {G : GX} {q0 L : Nat} {xs : Nat → Int32} {S : Nat → va_E} {D : DM} {Q : MM} {B q a b i : Nat} (c : LC X G q0 L xs) (hi : i + 4 ≤ L) (hL : L ≤ 2048) (hS : LSt G S D Q) (hR : Rel B q D Q) (hB : B + 24 * q + 48 ≤ 80000) (ha : a + 8 ≤ 603072) (hb : b + 64 ≤ 7157866) (kk : ∀ S1 D1 Q1 B1 q1, LSt G S1 D1 Q1 → Rel B1 q1 D1 Q1 → B1 + 24 * q1 ≤ B + 24 * q + 48 → AW X G 9 126 3033 (LO G q0 i) [] S1 (a + 8) (b + 64)) : AW X G 9 126 2228 (LO G q0 i) [] S a b := by
  obtain ⟨h, hN, hX⟩ := c
  obtain ⟨hD, hQ, ⟨f4, h4⟩, f5, h5⟩ := id hS
  obtain ⟨t, t1, t2⟩ := hR.t
  obtain ⟨hR2, hag⟩ := hR.rd (rd_htb hR.2.1.1 hR.2.1.2 t2 (by omega) 24 0 (by decide))
  refine r_aload_n (pc' := 2229) h dL_law_2228 rfl rfl ?_
  refine r_aload_n (pc' := 2230) h dL_law_2229 rfl rfl ?_
  refine r_callSL (pc' := 2233) (st := []) (M := (yL_hoursToBid, cL_hoursToBid, 3, some .int)) (As := [.ref (ad G 0), .ref (ad G 124)]) h hN dL_law_2230 rfl lL_309 sL_hoursToBid rfl rfl (by decide) ⟨by decide, by decide, by show a + 1 ≤ 603072; omega, by show b + 6 ≤ 7157866; omega⟩ (kL_hoursToBid hD (by decide) h4 (fun K1 h1 => kX4_hoursToBid hD (h1 S hD DR.rfl')) hag (fun S1 g hD1 hf hg e1 => ?_))
  show AW X G 9 126 2233 _ _ S1 _ _
  have hS1 := hS.x hD1 hf hg
  have hQ1 : isM G 126 S1 Q := hS1.2.1
  refine r_istore (pc' := 2235) h dL_law_2233 rfl (by decide) rfl ?_
  refine r_aload_n (pc' := 2236) h dL_law_2235 rfl rfl ?_
  refine r_callVL (pc' := 2239) (st := []) (M := mX5_hoursToBid) (As := []) h dL_law_2236 rfl lL_312 vX5_hoursToBid rfl hQ1.l0 hQ1.o rfl rfl (by decide) ⟨by decide, by decide, by show a + 1 + 0 ≤ 603072; omega, by show b + 6 + 0 ≤ 7157866; omega⟩ (kX5_hoursToBid hQ1 t2 (by omega) (fun S2 hQ2 hR3 => ?_))
  show AW X G 9 126 2239 _ _ S2 _ _
  refine r_istore (pc' := 2241) h dL_law_2239 rfl (by decide) rfl ?_
  exact r_tail (tgt := 3033) h hQ2 ((hR3 124 (by decide)).trans hg) rfl rfl rfl rfl rfl e1 dL_law_2241 dL_law_2242 dL_law_2245 dL_law_2247 dL_law_2252 dL_law_2254 dL_law_2257 dL_law_2258 dL_law_2259 dL_law_2260 dL_law_2262 dL_law_2263 dL_law_2264 dL_law_2269 (by decide) (by show a + 1 + 0 ≤ 603072; omega) (by show b + 6 + 0 ≤ 7157866; omega) rfl (r_widen (by show a + 1 + 0 ≤ a + 8; omega) (by show b + 6 + 0 ≤ b + 64; omega) (kk S2 _ _ _ _ (hS1.m hQ2 hR3) hR2 (by omega)))
theorem lc_42 {X : CX} {G : GX} {q0 L : Nat} {xs : Nat → Int32} {S : Nat → va_E} {D : DM} {Q : MM} {B q a b i : Nat} (c : LC X G q0 L xs) (hi : i + 4 ≤ L) (hL : L ≤ 2048) (hS : LSt G S D Q) (hR : Rel B q D Q) (hB : B + 24 * q + 48 ≤ 80000) (ha : a + 8 ≤ 603072) (hb : b + 64 ≤ 7157866) (kk : ∀ S1 D1 Q1 B1 q1, LSt G S1 D1 Q1 → Rel B1 q1 D1 Q1 → B1 + 24 * q1 ≤ B + 24 * q + 48 → AW X G 9 126 3033 (LO G q0 i) [] S1 (a + 8) (b + 64)) : AW X G 9 126 2272 (LO G q0 i) [] S a b := by
  obtain ⟨h, hN, hX⟩ := c
  obtain ⟨hD, hQ, ⟨f4, h4⟩, f5, h5⟩ := id hS
  obtain ⟨t, t1, t2⟩ := hR.t
  refine r_aload_n (pc' := 2273) h dL_law_2272 rfl rfl ?_
  refine r_callVL (pc' := 2276) (st := []) (M := mX4_energyMade) (As := []) h dL_law_2273 rfl lL_313 vX4_energyMade rfl hD.l0 hD.o0 rfl rfl (by decide) ⟨by decide, by decide, by show a + 0 ≤ 603072; omega, by show b + 0 ≤ 7157866; omega⟩ (kX4_energyMade hD ?_)
  show AW X G 9 126 2276 _ _ S _ _
  refine r_aload_n (pc' := 2277) h dL_law_2276 rfl rfl ?_
  refine r_callVL (pc' := 2280) (st := [.long _]) (M := mX5_energyMade) (As := []) h dL_law_2277 rfl lL_317 vX5_energyMade rfl hQ.l0 hQ.o rfl rfl (by show 2 + 0 ≤ 8; decide) ⟨by decide, by decide, by show a + 0 + 0 ≤ 603072; omega, by show b + 0 + 0 ≤ 7157866; omega⟩ (kX5_energyMade hQ (fun S2 hQ2 hR3 => ?_))
  show AW X G 9 126 2280 _ _ S2 _ _
  refine r_lcmp (pc' := 2281) h dL_law_2280 rfl ?_
  rw [(dr_acc hR).1, lg_self]
  exact r_if_eq (tgt := 3033) (pc' := 2284) h dL_law_2281 (by decide) rfl (fun _ => r_widen (by show a + 0 + 0 ≤ a + 8; omega) (by show b + 0 + 0 ≤ b + 64; omega) (kk S2 _ _ _ _ (hS.m hQ2 hR3) (hR.thr 0) (by omega))) (fun c => absurd rfl c)
theorem lc_43 {X : CX} {G : GX} {q0 L : Nat} {xs : Nat → Int32} {S : Nat → va_E} {D : DM} {Q : MM} {B q a b i : Nat} (c : LC X G q0 L xs) (hi : i + 4 ≤ L) (hL : L ≤ 2048) (hS : LSt G S D Q) (hR : Rel B q D Q) (hB : B + 24 * q + 48 ≤ 80000) (ha : a + 8 ≤ 603072) (hb : b + 64 ≤ 7157866) (kk : ∀ S1 D1 Q1 B1 q1, LSt G S1 D1 Q1 → Rel B1 q1 D1 Q1 → B1 + 24 * q1 ≤ B + 24 * q + 48 → AW X G 9 126 3033 (LO G q0 i) [] S1 (a + 8) (b + 64)) : AW X G 9 126 2286 (LO G q0 i) [] S a b := by
  obtain ⟨h, hN, hX⟩ := c
  obtain ⟨hD, hQ, ⟨f4, h4⟩, f5, h5⟩ := id hS
  obtain ⟨t, t1, t2⟩ := hR.t
  refine r_aload_n (pc' := 2287) h dL_law_2286 rfl rfl ?_
  refine r_callVL (pc' := 2290) (st := []) (M := mX4_energyLost) (As := []) h dL_law_2287 rfl lL_318 vX4_energyLost rfl hD.l0 hD.o0 rfl rfl (by decide) ⟨by decide, by decide, by show a + 0 ≤ 603072; omega, by show b + 0 ≤ 7157866; omega⟩ (kX4_energyLost hD ?_)
  show AW X G 9 126 2290 _ _ S _ _
  refine r_aload_n (pc' := 2291) h dL_law_2290 rfl rfl ?_
  refine r_callVL (pc' := 2294) (st := [.long _]) (M := mX5_energyLost) (As := []) h dL_law_2291 rfl lL_321 vX5_energyLost rfl hQ.l0 hQ.o rfl rfl (by show 2 + 0 ≤ 8; decide) ⟨by decide, by decide, by show a + 0 + 0 ≤ 603072; omega, by show b + 0 + 0 ≤ 7157866; omega⟩ (kX5_energyLost hQ (fun S2 hQ2 hR3 => ?_))
  show AW X G 9 126 2294 _ _ S2 _ _
  refine r_lcmp (pc' := 2295) h dL_law_2294 rfl ?_
  rw [(dr_acc hR).2.1, lg_self]
  exact r_if_eq (tgt := 3033) (pc' := 2298) h dL_law_2295 (by decide) rfl (fun _ => r_widen (by show a + 0 + 0 ≤ a + 8; omega) (by show b + 0 + 0 ≤ b + 64; omega) (kk S2 _ _ _ _ (hS.m hQ2 hR3) (hR.thr 0) (by omega))) (fun c => absurd rfl c)
theorem lc_44 {X : CX} {G : GX} {q0 L : Nat} {xs : Nat → Int32} {S : Nat → va_E} {D : DM} {Q : MM} {B q a b i : Nat} (c : LC X G q0 L xs) (hi : i + 4 ≤ L) (hL : L ≤ 2048) (hS : LSt G S D Q) (hR : Rel B q D Q) (hB : B + 24 * q + 48 ≤ 80000) (ha : a + 8 ≤ 603072) (hb : b + 64 ≤ 7157866) (kk : ∀ S1 D1 Q1 B1 q1, LSt G S1 D1 Q1 → Rel B1 q1 D1 Q1 → B1 + 24 * q1 ≤ B + 24 * q + 48 → AW X G 9 126 3033 (LO G q0 i) [] S1 (a + 8) (b + 64)) : AW X G 9 126 2300 (LO G q0 i) [] S a b := by
  obtain ⟨h, hN, hX⟩ := c
  obtain ⟨hD, hQ, ⟨f4, h4⟩, f5, h5⟩ := id hS
  obtain ⟨t, t1, t2⟩ := hR.t
  refine r_aload_n (pc' := 2301) h dL_law_2300 rfl rfl ?_
  refine r_callVL (pc' := 2304) (st := []) (M := mX4_energySold) (As := []) h dL_law_2301 rfl lL_322 vX4_energySold rfl hD.l0 hD.o0 rfl rfl (by decide) ⟨by decide, by decide, by show a + 0 ≤ 603072; omega, by show b + 0 ≤ 7157866; omega⟩ (kX4_energySold hD ?_)
  show AW X G 9 126 2304 _ _ S _ _
  refine r_aload_n (pc' := 2305) h dL_law_2304 rfl rfl ?_
  refine r_callVL (pc' := 2308) (st := [.long _]) (M := mX5_energySold) (As := []) h dL_law_2305 rfl lL_325 vX5_energySold rfl hQ.l0 hQ.o rfl rfl (by show 2 + 0 ≤ 8; decide) ⟨by decide, by decide, by show a + 0 + 0 ≤ 603072; omega, by show b + 0 + 0 ≤ 7157866; omega⟩ (kX5_energySold hQ (fun S2 hQ2 hR3 => ?_))
  show AW X G 9 126 2308 _ _ S2 _ _
  refine r_lcmp (pc' := 2309) h dL_law_2308 rfl ?_
  rw [(dr_acc hR).2.2.1, lg_self]
  exact r_if_eq (tgt := 3033) (pc' := 2312) h dL_law_2309 (by decide) rfl (fun _ => r_widen (by show a + 0 + 0 ≤ a + 8; omega) (by show b + 0 + 0 ≤ b + 64; omega) (kk S2 _ _ _ _ (hS.m hQ2 hR3) (hR.thr 0) (by omega))) (fun c => absurd rfl c)
theorem lc_45 {X : CX} {G : GX} {q0 L : Nat} {xs : Nat → Int32} {S : Nat → va_E} {D : DM} {Q : MM} {B q a b i : Nat} (c : LC X G q0 L xs) (hi : i + 4 ≤ L) (hL : L ≤ 2048) (hS : LSt G S D Q) (hR : Rel B q D Q) (hB : B + 24 * q + 48 ≤ 80000) (ha : a + 8 ≤ 603072) (hb : b + 64 ≤ 7157866) (kk : ∀ S1 D1 Q1 B1 q1, LSt G S1 D1 Q1 → Rel B1 q1 D1 Q1 → B1 + 24 * q1 ≤ B + 24 * q + 48 → AW X G 9 126 3033 (LO G q0 i) [] S1 (a + 8) (b + 64)) : AW X G 9 126 2314 (LO G q0 i) [] S a b := by
  obtain ⟨h, hN, hX⟩ := c
  obtain ⟨hD, hQ, ⟨f4, h4⟩, f5, h5⟩ := id hS
  obtain ⟨t, t1, t2⟩ := hR.t
  refine r_aload_n (pc' := 2315) h dL_law_2314 rfl rfl ?_
  refine r_callVL (pc' := 2318) (st := []) (M := mX4_energySpilled) (As := []) h dL_law_2315 rfl lL_326 vX4_energySpilled rfl hD.l0 hD.o0 rfl rfl (by decide) ⟨by decide, by decide, by show a + 0 ≤ 603072; omega, by show b + 0 ≤ 7157866; omega⟩ (kX4_energySpilled hD ?_)
  show AW X G 9 126 2318 _ _ S _ _
  refine r_aload_n (pc' := 2319) h dL_law_2318 rfl rfl ?_
  refine r_callVL (pc' := 2322) (st := [.long _]) (M := mX5_energySpilled) (As := []) h dL_law_2319 rfl lL_329 vX5_energySpilled rfl hQ.l0 hQ.o rfl rfl (by show 2 + 0 ≤ 8; decide) ⟨by decide, by decide, by show a + 0 + 0 ≤ 603072; omega, by show b + 0 + 0 ≤ 7157866; omega⟩ (kX5_energySpilled hQ (fun S2 hQ2 hR3 => ?_))
  show AW X G 9 126 2322 _ _ S2 _ _
  refine r_lcmp (pc' := 2323) h dL_law_2322 rfl ?_
  rw [(dr_acc hR).2.2.2.1, lg_self]
  exact r_if_eq (tgt := 3033) (pc' := 2326) h dL_law_2323 (by decide) rfl (fun _ => r_widen (by show a + 0 + 0 ≤ a + 8; omega) (by show b + 0 + 0 ≤ b + 64; omega) (kk S2 _ _ _ _ (hS.m hQ2 hR3) (hR.thr 0) (by omega))) (fun c => absurd rfl c)
theorem lc_46 {X : CX} {G : GX} {q0 L : Nat} {xs : Nat → Int32} {S : Nat → va_E} {D : DM} {Q : MM} {B q a b i : Nat} (c : LC X G q0 L xs) (hi : i + 4 ≤ L) (hL : L ≤ 2048) (hS : LSt G S D Q) (hR : Rel B q D Q) (hB : B + 24 * q + 48 ≤ 80000) (ha : a + 8 ≤ 603072) (hb : b + 64 ≤ 7157866) (kk : ∀ S1 D1 Q1 B1 q1, LSt G S1 D1 Q1 → Rel B1 q1 D1 Q1 → B1 + 24 * q1 ≤ B + 24 * q + 48 → AW X G 9 126 3033 (LO G q0 i) [] S1 (a + 8) (b + 64)) : AW X G 9 126 2328 (LO G q0 i) [] S a b := by
  obtain ⟨h, hN, hX⟩ := c
  obtain ⟨hD, hQ, ⟨f4, h4⟩, f5, h5⟩ := id hS
  obtain ⟨t, t1, t2⟩ := hR.t
  refine r_aload_n (pc' := 2329) h dL_law_2328 rfl rfl ?_
  refine r_callVL (pc' := 2332) (st := []) (M := mX4_coins) (As := []) h dL_law_2329 rfl lL_330 vX4_coins rfl hD.l0 hD.o0 rfl rfl (by decide) ⟨by decide, by decide, by show a + 0 ≤ 603072; omega, by show b + 0 ≤ 7157866; omega⟩ (kX4_coins hD ?_)
  show AW X G 9 126 2332 _ _ S _ _
  refine r_aload_n (pc' := 2333) h dL_law_2332 rfl rfl ?_
  refine r_callVL (pc' := 2336) (st := [.long _]) (M := mX5_coins) (As := []) h dL_law_2333 rfl lL_333 vX5_coins rfl hQ.l0 hQ.o rfl rfl (by show 2 + 0 ≤ 8; decide) ⟨by decide, by decide, by show a + 0 + 0 ≤ 603072; omega, by show b + 0 + 0 ≤ 7157866; omega⟩ (kX5_coins hQ (fun S2 hQ2 hR3 => ?_))
  show AW X G 9 126 2336 _ _ S2 _ _
  refine r_lcmp (pc' := 2337) h dL_law_2336 rfl ?_
  rw [(dr_acc hR).2.2.2.2, lg_self]
  exact r_if_eq (tgt := 3033) (pc' := 2340) h dL_law_2337 (by decide) rfl (fun _ => r_widen (by show a + 0 + 0 ≤ a + 8; omega) (by show b + 0 + 0 ≤ b + 64; omega) (kk S2 _ _ _ _ (hS.m hQ2 hR3) (hR.thr 0) (by omega))) (fun c => absurd rfl c)
theorem lc_47 {X : CX} {G : GX} {q0 L : Nat} {xs : Nat → Int32} {S : Nat → va_E} {D : DM} {Q : MM} {B q a b i : Nat} (c : LC X G q0 L xs) (hi : i + 4 ≤ L) (hL : L ≤ 2048) (hS : LSt G S D Q) (hR : Rel B q D Q) (hB : B + 24 * q + 48 ≤ 80000) (ha : a + 8 ≤ 603072) (hb : b + 64 ≤ 7157866) (kk : ∀ S1 D1 Q1 B1 q1, LSt G S1 D1 Q1 → Rel B1 q1 D1 Q1 → B1 + 24 * q1 ≤ B + 24 * q + 48 → AW X G 9 126 3033 (LO G q0 i) [] S1 (a + 8) (b + 64)) : AW X G 9 126 2342 (LO G q0 i) [] S a b := by
  obtain ⟨h, hN, hX⟩ := c
  obtain ⟨hD, hQ, ⟨f4, h4⟩, f5, h5⟩ := id hS
  obtain ⟨t, t1, t2⟩ := hR.t
  obtain ⟨hR2, hag⟩ := dr_tbo hR (xs (i + 1))
  refine r_aload_n (pc' := 2343) h dL_law_2342 rfl rfl ?_
  refine r_sarg (k := 1) (pc' := 2349) h hX dL_law_2343 dL_law_2344 dL_law_2346 dL_law_2347 dL_law_2348 rfl rfl rfl (by decide) (by omega) hL ?_
  refine r_aload_n (pc' := 2350) h dL_law_2349 rfl rfl ?_
  refine r_callSL (pc' := 2353) (st := []) (M := (yL_turbineByOutput, cL_turbineByOutput, 4, some .int)) (As := [.ref (ad G 0), .int (xs (i + 1)), .ref (ad G 124)]) h hN dL_law_2350 rfl lL_334 sL_turbineByOutput rfl rfl (by decide) ⟨by decide, by decide, by show a + 1 ≤ 603072; omega, by show b + 6 ≤ 7157866; omega⟩ (kL_turbineByOutput hD (by decide) h4 (fun K1 h1 => kX4_turbineByOutput hD (dr_wF hR) (h1 S hD DR.rfl')) hag (fun S1 g hD1 hf hg e1 => ?_))
  show AW X G 9 126 2353 _ _ S1 _ _
  have hS1 := hS.x hD1 hf hg
  have hQ1 : isM G 126 S1 Q := hS1.2.1
  refine r_istore (pc' := 2355) h dL_law_2353 rfl (by decide) rfl ?_
  refine r_aload_n (pc' := 2356) h dL_law_2355 rfl rfl ?_
  refine r_sarg (k := 1) (pc' := 2362) h hX dL_law_2356 dL_law_2357 dL_law_2359 dL_law_2360 dL_law_2361 rfl rfl rfl (by decide) (by omega) hL ?_
  refine r_callVL (pc' := 2365) (st := []) (M := mX5_turbineByOutput) (As := [.int (xs (i + 1))]) h dL_law_2362 rfl lL_336 vX5_turbineByOutput rfl hQ1.l0 hQ1.o rfl rfl (by decide) ⟨by decide, by decide, by show a + 1 + 0 ≤ 603072; omega, by show b + 6 + 0 ≤ 7157866; omega⟩ (kX5_turbineByOutput hQ1 hR.w (fun S2 hQ2 hR3 => ?_))
  show AW X G 9 126 2365 _ _ S2 _ _
  refine r_istore (pc' := 2367) h dL_law_2365 rfl (by decide) rfl ?_
  exact r_tail (tgt := 3033) h hQ2 ((hR3 124 (by decide)).trans hg) rfl rfl rfl rfl rfl e1 dL_law_2367 dL_law_2368 dL_law_2371 dL_law_2373 dL_law_2378 dL_law_2380 dL_law_2383 dL_law_2384 dL_law_2385 dL_law_2386 dL_law_2388 dL_law_2389 dL_law_2390 dL_law_2395 (by decide) (by show a + 1 + 0 ≤ 603072; omega) (by show b + 6 + 0 ≤ 7157866; omega) rfl (r_widen (by show a + 1 + 0 ≤ a + 8; omega) (by show b + 6 + 0 ≤ b + 64; omega) (kk S2 _ _ _ _ (hS1.m hQ2 hR3) hR2 (by omega)))
