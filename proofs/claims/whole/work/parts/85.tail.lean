/-! THE LAW'S CALLS: what stands between them. -/
abbrev rmL : Nat × Nat × Nat × Nat := (2048, 94400, 603072, 7157866)
abbrev LO (G : GX) (q i : Nat) : List (Nat × Value) := [(0, .ref q), (1, .ref (ad G 0)), (2, .ref (ad G 119)), (3, .ref (ad G 124)), (4, .ref (ad G 125)), (5, .int (nI i))]
/-- the world between two calls -/
def LSt (G : GX) (S : Nat → va_E) (D : DM) (Q : MM) : Prop := isD G 126 S D ∧ isM G 126 S Q ∧ (∃ f, S 124 = .inl (gJ G, 1, .inr (.inl f))) ∧ ∃ f, S 125 = .inl (gE G, 1, .inr (.inr (.inr (.inl f))))
/-- the law's frame -/
def LC (X : CX) (G : GX) (q L : Nat) (xs : Nat → Int32) : Prop := OK X G 126 cL_law RL 9 rmL ∧ NC X.2.2.2.2.1 ∧ XS X G q L xs
theorem isM.world {G : GX} {N : Nat} {S S' : Nat → va_E} {Q : MM} (h : isM G N S Q) (e : ∀ k, 119 ≤ k → k ≤ 123 → S' k = S k) : isM G N S' Q :=
  ⟨h.1, (e _ (by omega) (by omega)).trans h.o, (e _ (by omega) (by omega)).trans h.r1, (e _ (by omega) (by omega)).trans h.r2, (e _ (by omega) (by omega)).trans h.r3, (e _ (by omega) (by omega)).trans h.r4⟩
theorem lg_self (x : Int64) : lg_cmp x x = 0 := by
  unfold lg_cmp
  rw [if_neg (by simp), if_pos rfl]
section TAIL
variable {X : CX} {G : GX} {pc tgt : Nat} {lo lo' : List (Nat × Value)} {S S1 S2 : Nat → va_E} {a b : Nat} {D D1 : DM} {Q Q1 : MM}
/-- behind the class's call by a wrapper -/
theorem LSt.x (h : LSt G S D Q) {f : Nat → Int64} (hD : isD G 126 S1 D1) (hf : ∀ j, 118 < j → j ≠ 124 → S1 j = S j) (hg : S1 124 = .inl (gJ G, 1, .inr (.inl f))) : LSt G S1 D1 Q := by
  obtain ⟨-, hQ, -, f5, h5⟩ := h
  exact ⟨hD, hQ.world (fun k k1 k2 => hf k (by omega) (by omega)), ⟨f, hg⟩, f5, (hf _ (by omega) (by omega)).trans h5⟩
theorem LSt.xd (h : LSt G S D Q) {f : Nat → UInt64} (hD : isD G 126 S1 D1) (hf : ∀ j, 118 < j → j ≠ 125 → S1 j = S j) (hg : S1 125 = .inl (gE G, 1, .inr (.inr (.inr (.inl f))))) : LSt G S1 D1 Q := by
  obtain ⟨-, hQ, ⟨f5, h5⟩, -⟩ := h
  exact ⟨hD, hQ.world (fun k k1 k2 => hf k (by omega) (by omega)), ⟨f5, (hf _ (by omega) (by omega)).trans h5⟩, f, hg⟩
theorem LSt.dr (h : LSt G S D Q) (hD : isD G 126 S1 D1) (hr : DR S S1) : LSt G S1 D1 Q := by
  obtain ⟨-, hQ, ⟨f4, h4⟩, f5, h5⟩ := h
  exact ⟨hD, hQ.world (fun k k1 k2 => hr k (by omega)), ⟨f4, (hr _ (by omega)).trans h4⟩, f5, (hr _ (by omega)).trans h5⟩
/-- behind the reference's -/
theorem LSt.m (h : LSt G S D Q) (hQ : isM G 126 S1 Q1) (hr : GR S S1) : LSt G S1 D Q1 := by
  obtain ⟨hD, -, ⟨f4, h4⟩, f5, h5⟩ := h
  exact ⟨hD.world (fun k hk => hr k (by omega)), hQ, ⟨f4, (hr _ (by omega)).trans h4⟩, f5, (hr _ (by omega)).trans h5⟩
/-- thrown alike, and answered alike: int -/
theorem r_tail (h : OK X G 126 cL_law RL 9 rmL) (hQ : isM G 126 S Q) {f : Nat → Int64} (hf : S 124 = .inl (gJ G, 1, .inr (.inl f))) {kk v : Int32} (h2 : lget 2 lo = some (.ref (ad G 119))) (h3 : lget 3 lo = some (.ref (ad G 124))) (h6 : lget 6 lo = some (.int kk)) (h7 : lget 7 lo = some (.int v)) (e0 : mI Q 0 = kk) (e1 : kk = 0 → f 0 = v.toInt64)
    {off : Int} (d0 : decode cL_law pc = .ok (.aload_n 2, 1)) (d1 : decode cL_law (pc + 1) = .ok (.invokevirtual 170, 3)) (d2 : decode cL_law (pc + 4) = .ok (.iload 6, 2)) (d3 : decode cL_law (pc + 6) = .ok (.if_icmp .eq 5, 3)) (d4 : decode cL_law (pc + 11) = .ok (.iload 6, 2)) (d5 : decode cL_law (pc + 13) = .ok (.ifCond .ne 15, 3)) (d6 : decode cL_law (pc + 16) = .ok (.aload_n 3, 1)) (d7 : decode cL_law (pc + 17) = .ok (.iconst 0, 1)) (d8 : decode cL_law (pc + 18) = .ok (.laload, 1)) (d9 : decode cL_law (pc + 19) = .ok (.iload 7, 2)) (d10 : decode cL_law (pc + 21) = .ok (.i2l, 1)) (d11 : decode cL_law (pc + 22) = .ok (.lcmp, 1)) (d12 : decode cL_law (pc + 23) = .ok (.ifCond .eq 5, 3)) (d13 : decode cL_law (pc + 28) = .ok (.goto off, 3)) (ht : ((pc + 28 : Nat) : Int) + off = (tgt : Int)) (ha : a ≤ 603072) (hb : b ≤ 7157866)
    (hs : lv_pick lo [0, 1, 2, 3, 4, 5] = lo') (k : AW X G 9 126 tgt lo' [] S a b) : AW X G 9 126 pc lo [] S a b := by
  have fin : AW X G 9 126 (pc + 28) lo [] S a b := r_goto h d13 ht (r_sub [0, 1, 2, 3, 4, 5] hs k)
  refine r_aload_n (pc' := pc + 1) h d0 rfl h2 ?_
  refine r_callVL (pc' := pc + 4) (st := []) (M := mX5_thrown) (rm' := (0, 0, 0, 0)) (As := []) h d1 rfl lL_170 vX5_thrown rfl hQ.l0 hQ.o rfl rfl (by decide) ⟨by decide, by decide, ha, hb⟩ (kX5_thrown hQ ?_)
  show AW X G 9 126 (pc + 4) _ _ S _ _
  refine r_iload (pc' := pc + 6) h d2 rfl h6 ?_
  refine r_icmp_eq (tgt := pc + 11) (pc' := pc + 9) h d3 (by omega) rfl (fun _ => ?_) (fun c => absurd e0 c)
  refine r_iload (pc' := pc + 13) h d4 rfl h6 ?_
  refine r_if_ne (tgt := pc + 28) (pc' := pc + 16) h d5 (by omega) rfl (fun _ => fin) (fun c => ?_)
  refine r_aload_n (pc' := pc + 17) h d6 rfl h3 ?_
  refine r_iconst (pc' := pc + 18) (v := 0) h d7 rfl (by decide) ?_
  refine r_lald (pc' := pc + 19) h d8 rfl (by decide) hf (show vp_in (nI 0) 1 from nI_in (by decide) (by decide)) ?_
  refine r_iload (pc' := pc + 21) h d9 rfl h7 ?_
  refine r_i2l (pc' := pc + 22) h d10 rfl ?_
  refine r_lcmp (pc' := pc + 23) h d11 rfl ?_
  have e2 : f (Int32.toNatClampNeg 0) = v.toInt64 := e1 c
  rw [e2, lg_self]
  exact r_if_eq (tgt := pc + 28) (pc' := pc + 26) h d12 (by omega) rfl (fun _ => fin) (fun c => absurd rfl c)
/-- true or false -/
theorem r_tailB (h : OK X G 126 cL_law RL 9 rmL) (hQ : isM G 126 S Q) {f : Nat → Int64} (hf : S 124 = .inl (gJ G, 1, .inr (.inl f))) {kk v : Int32} (h2 : lget 2 lo = some (.ref (ad G 119))) (h3 : lget 3 lo = some (.ref (ad G 124))) (h6 : lget 6 lo = some (.int kk)) (h7 : lget 7 lo = some (.int v)) (e0 : mI Q 0 = kk) (e1 : kk = 0 → f 0 = if v = 0 then 0 else 1)
    {off : Int} (d0 : decode cL_law pc = .ok (.aload_n 2, 1)) (d1 : decode cL_law (pc + 1) = .ok (.invokevirtual 170, 3)) (d2 : decode cL_law (pc + 4) = .ok (.iload 6, 2)) (d3 : decode cL_law (pc + 6) = .ok (.if_icmp .eq 5, 3)) (d4 : decode cL_law (pc + 11) = .ok (.iload 6, 2)) (d5 : decode cL_law (pc + 13) = .ok (.ifCond .ne 22, 3)) (d6 : decode cL_law (pc + 16) = .ok (.aload_n 3, 1)) (d7 : decode cL_law (pc + 17) = .ok (.iconst 0, 1)) (d8 : decode cL_law (pc + 18) = .ok (.laload, 1)) (d9 : decode cL_law (pc + 19) = .ok (.iload 7, 2)) (d10 : decode cL_law (pc + 21) = .ok (.ifCond .eq 7, 3)) (d11 : decode cL_law (pc + 24) = .ok (.lconst 1, 1)) (d11b : decode cL_law (pc + 25) = .ok (.goto 4, 3)) (d11c : decode cL_law (pc + 28) = .ok (.lconst 0, 1)) (d11d : decode cL_law (pc + 29) = .ok (.lcmp, 1)) (d12 : decode cL_law (pc + 30) = .ok (.ifCond .eq 5, 3)) (d13 : decode cL_law (pc + 35) = .ok (.goto off, 3)) (ht : ((pc + 35 : Nat) : Int) + off = (tgt : Int)) (ha : a ≤ 603072) (hb : b ≤ 7157866)
    (hs : lv_pick lo [0, 1, 2, 3, 4, 5] = lo') (k : AW X G 9 126 tgt lo' [] S a b) : AW X G 9 126 pc lo [] S a b := by
  have fin : AW X G 9 126 (pc + 35) lo [] S a b := r_goto h d13 ht (r_sub [0, 1, 2, 3, 4, 5] hs k)
  refine r_aload_n (pc' := pc + 1) h d0 rfl h2 ?_
  refine r_callVL (pc' := pc + 4) (st := []) (M := mX5_thrown) (rm' := (0, 0, 0, 0)) (As := []) h d1 rfl lL_170 vX5_thrown rfl hQ.l0 hQ.o rfl rfl (by decide) ⟨by decide, by decide, ha, hb⟩ (kX5_thrown hQ ?_)
  show AW X G 9 126 (pc + 4) _ _ S _ _
  refine r_iload (pc' := pc + 6) h d2 rfl h6 ?_
  refine r_icmp_eq (tgt := pc + 11) (pc' := pc + 9) h d3 (by omega) rfl (fun _ => ?_) (fun c => absurd e0 c)
  refine r_iload (pc' := pc + 13) h d4 rfl h6 ?_
  refine r_if_ne (tgt := pc + 35) (pc' := pc + 16) h d5 (by omega) rfl (fun _ => fin) (fun c => ?_)
  refine r_aload_n (pc' := pc + 17) h d6 rfl h3 ?_
  refine r_iconst (pc' := pc + 18) (v := 0) h d7 rfl (by decide) ?_
  refine r_lald (pc' := pc + 19) h d8 rfl (by decide) hf (show vp_in (nI 0) 1 from nI_in (by decide) (by decide)) ?_
  refine r_iload (pc' := pc + 21) h d9 rfl h7 ?_
  have e2 : f (Int32.toNatClampNeg 0) = if v = 0 then 0 else 1 := e1 c
  have last : ∀ y : Int64, y = (if v = 0 then 0 else 1) → AW X G 9 126 (pc + 29) lo [.long y, .long (f (Int32.toNatClampNeg 0))] S a b := fun y hy => by
    refine r_lcmp (pc' := pc + 30) h d11d rfl ?_
    rw [e2, hy, lg_self]
    exact r_if_eq (tgt := pc + 35) (pc' := pc + 33) h d12 (by omega) rfl (fun _ => fin) (fun c => absurd rfl c)
  refine r_if_eq (tgt := pc + 28) (pc' := pc + 24) h d10 (by omega) rfl (fun c0 => ?_) (fun c0 => ?_)
  · exact r_lconst (pc' := pc + 29) (v := 0) h d11c rfl (by decide) (last 0 (if_pos c0).symm)
  · exact r_lconst (pc' := pc + 25) (v := 1) h d11 rfl (by decide) (r_goto h d11b (by omega) (last 1 (if_neg c0).symm))
end TAIL
