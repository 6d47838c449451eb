/-! THE LAW ITSELF: rules of its frame. -/
/-- a method with a table is called, statically -/
def MSH (M : MI) (hh : HHs) (n : Nat) : Prop := Cond.static M.1 ∈ gw ∧ Cond.initialized M.1.cls ∈ gw ∧ Cond.codeWith M.1 M.2.1 M.2.2.1 M.2.2.2 hh ∈ gw ∧ (M.1.cls ≠ "java/lang/invoke/MethodHandle" ∧ M.1.cls ≠ "java/lang/invoke/VarHandle") ∧ (parseMethodDescriptor M.1.desc).map (fun d => d.parameters.length) = some n
theorem wsH_in {M : MI} {hh : HHs} (hc : Cond.codeWith M.1 M.2.1 M.2.2.1 M.2.2.2 hh ∈ gw) : GoodIn gw (wsH M hh) := fun w hw => by
  rcases List.mem_cons.mp hw with rfl | hw
  · exact ⟨hc, gw_ok _ hc⟩
  · exact ⟨hw, gw_ok _ hw⟩
/-- behind a call of the law's: no throw comes here -/
def KL (X : CX) (G : GX) (nL N pc' : Nat) (lo : List (Nat × Value)) (st : List Value) (a b : Nat) : RK := fun o S' => match o with
  | .inl none => AW X G nL N pc' lo st S' a b
  | .inl (some v) => AW X G nL N pc' lo (v :: st) S' a b
  | .inr _ => False
theorem K_int {X : CX} {G : GX} {nL N pc' : Nat} {lo : List (Nat × Value)} {st : List Value} {a b : Nat} {S' : Nat → va_E} {v : Value} (k : AW X G nL N pc' lo (v :: st) S' a b) : KL X G nL N pc' lo st a b (.inl (some v)) S' := k
section LAWR
variable {X : CX} {G : GX} {cc : ByteArray} {own : String} {nL N pc pc' : Nat} {lo : List (Nat × Value)} {st stk : List Value} {S : Nat → va_E} {a b : Nat} {rm : Nat × Nat × Nat × Nat}
theorem back_toL (h : OK X G N cc own nL rm) {rm' : Nat × Nat × Nat × Nat} {H : Heap} {locs : List Loc} {ls : Array Slot} {av : List Value} {T : State}
    (hS : va_S (AA G) X.2.2.2.2.1.heap H locs) (hl2 : lv_has ls nL lo) (hT : T.heap = H)
    (XX : Stand X.1 X.2.1 X.2.2.1 X.2.2.2.1 X.2.2.2.2.1 X.2.2.2.2.2.1 X.2.2.2.2.2.2.1 X.2.2.2.2.2.2.2.1 X.2.2.2.2.2.2.2.2.1 X.2.2.2.2.2.2.2.2.2.1 T locs a b)
    (run : vx_Run X.1 X.2.1 X.2.2.1 X.2.2.2.1 X.2.2.2.2.1 X.2.2.2.2.2.1 X.2.2.2.2.2.2.1 X.2.2.2.2.2.2.2.1 X.2.2.2.2.2.2.2.2.1 X.2.2.2.2.2.2.2.2.2.1 H locs a b rm'.2.2.1 rm'.2.2.2 (F0 X.2.2.2.2.2.1 pc ls stk) st (QcK G N (KL X G nL N (pc + 3) lo st (a + rm'.2.2.1) (b + rm'.2.2.2)) av.toArray) (XcK G N (KL X G nL N (pc + 3) lo st (a + rm'.2.2.1) (b + rm'.2.2.2))) (AA G)) :
    ∃ t, Steps X.1.tables X.2.2.1 X.2.2.2.2.2.2.2.1 (T.setTop (F0 X.2.2.2.2.2.1 pc ls stk)) t ∧ X.2.2.2.2.2.2.2.2.2.2 t := by
  rcases run T hT XX with ⟨v, st₀, t, T', L, h0, X', hL, e1, e2, ⟨v', S', hv, hP', hK', hF⟩, stp⟩ | ⟨q, st₀, t, T', L, E, ce, h0, X', hL, e1, e2, ⟨S', hP', hK', hF⟩, hce, hcv, hcl, stp⟩
  · cases hv
    obtain ⟨k1, k2, k3⟩ := vx_keep (A0 := AA G) h0 e1 hS (fun q _ hq => hq) (fun q hq => hq) hL hF
    cases v with
    | none =>
      have hK2 : AW X G nL N (pc + 3) lo _ S' (a + rm'.2.2.1) (b + rm'.2.2.2) := hK'
      obtain ⟨t2, a1, b1⟩ := hK2 T'.heap (locs ++ L) ls (by rw [e1]; exact hP') k3 hl2 T' rfl X'
      exact ⟨t2, stp t2 a1, b1⟩
    | some v =>
      have hK2 : AW X G nL N (pc + 3) lo (v :: _) S' (a + rm'.2.2.1) (b + rm'.2.2.2) := hK'
      obtain ⟨t2, a1, b1⟩ := hK2 T'.heap (locs ++ L) ls (by rw [e1]; exact hP') k3 hl2 T' rfl X'
      exact ⟨t2, stp t2 a1, b1⟩
  · exact absurd (show False from hK') (fun z => z)
theorem r_callVL (h : OK X G N cc own nL rm) {M : MI} {rm' : Nat × Nat × Nat × Nat} {index n k ci Nf : Nat} {C : String} {Tf : u_T} {fs As : List Value} (hd : decode cc pc = .ok (.invokevirtual index, 3)) (hp : pc + 3 = pc')
    (hl : Cond.methodLink own index M.1 ∈ gw) (hM : MV M n C) (hcl : cls[ci]? = some (C, Tf, Nf)) (hk : k < N) (hc : S k = .inr (ci, fs)) (hn : As.length = n) (hs : stk = As.reverse ++ .ref (ad G k) :: st) (hW : (st.map fun v => v.category).sum ≤ 8) (hr : RR rm rm' M.2.2.1 a b)
    (hcall : RetK X.2.1 G N M rm' (.ref (ad G k) :: As) S (KL X G nL N pc' lo st (a + rm'.2.2.1) (b + rm'.2.2.2))) : AW X G nL N pc lo stk S a b := by
  subst hp
  subst hs
  intro H locs ls hP hS hl2
  have hts := h.2.2.2.2.1
  intro T hT XX
  refine back_toL (rm' := rm') (st := st) (av := .ref (ad G k) :: As) h hS hl2 hT XX ?_
  exact vx_runV (Ts := gw) (cc := cc) (nL := nL) (own := own) (C := C) (n := n) (bytes := M.2.1) (maxL := M.2.2.1) (ret := M.2.2.2) (ws := wsM M) (rm := rmR rm') (Pc := va_Pc (.ref (ad G k) :: As) (PW G N S)) ⟨h.1, h.2.1, h.2.2.1, h.2.2.2.1, hts⟩ (hcall h.2.2.2.2.2.2.2.2.1)
    ⟨callB_of n hts (wsM_in hM.2.2.2.1) rfl rfl rfl (hts _ hM.2.2.1) (hts _ hl) ⟨hM.2.2.2.2.1.1, hM.2.2.2.2.1.2, hM.2.2.2.2.2⟩ ⟨Nat.le_trans hr.1 h.2.2.2.2.2.2.2.2.2.2.2.1, Nat.le_trans hr.2.1 h.2.2.2.2.2.2.2.2.2.2.2.2.1⟩, hts _ hM.1, hts _ hM.2.1⟩
    ⟨PW.blind, va_recv h.2.2.2.2.2.1 hP hcl (by rw [wl_get hk, hc]), pw_pre h hP hS⟩ rfl hn hl2.1 rfl (lv_room hW) hd ⟨Nat.le_trans hr.2.2.1 h.2.2.2.2.2.2.2.2.2.2.2.2.2.1, Nat.le_trans hr.2.2.2 h.2.2.2.2.2.2.2.2.2.2.2.2.2.2⟩
theorem r_callSL (h : OK X G N cc own nL rm) (hN : NC X.2.2.2.2.1) {M : MI} {hh : HHs} {rm' : Nat × Nat × Nat × Nat} {index n : Nat} {As : List Value} (hd : decode cc pc = .ok (.invokestatic index, 3)) (hp : pc + 3 = pc')
    (hl : Cond.methodLink own index M.1 ∈ gw) (hM : MSH M hh n) (hn : As.length = n) (hs : stk = As.reverse ++ st) (hW : (st.map fun v => v.category).sum ≤ 8) (hr : RR rm rm' M.2.2.1 a b)
    (hcall : RetH X.2.1 G N M hh rm' As S (KL X G nL N pc' lo st (a + rm'.2.2.1) (b + rm'.2.2.2))) : AW X G nL N pc lo stk S a b := by
  subst hp
  subst hs
  intro H locs ls hP hS hl2
  have hts := h.2.2.2.2.1
  intro T hT XX
  refine back_toL (rm' := rm') (st := st) (av := As) h hS hl2 hT XX ?_
  refine vx_runSX (hh := hh) (Ts := gw) (cc := cc) (nL := nL) (own := own) (n := n) (bytes := M.2.1) (maxL := M.2.2.1) (ret := M.2.2.2) (ws := wsH M hh) (rm := rmR rm') (Pc := va_Pc As (PH G N S)) ⟨h.1, h.2.1, h.2.2.1, h.2.2.2.1, hts⟩ (hcall h.2.2.2.2.2.2.2.2.1)
    ⟨⟨rfl, rfl, Nat.le_trans hr.1 h.2.2.2.2.2.2.2.2.2.2.2.1, Nat.le_trans hr.2.1 h.2.2.2.2.2.2.2.2.2.2.2.2.1, pay_in hts (wsH_in hM.2.2.1), List.mem_cons_self⟩, hts _ hM.2.2.1, hts _ hM.2.1, hM.2.2.2.1, fun sig hsig => ?_, hts _ hl, hts _ hM.1⟩
    ⟨PH.blind, fun U hU hW => ⟨(pw_pre (av := As) h hP hS U hU hW).1, (pw_pre (av := As) h hP hS U hU hW).2, hN.moved hW.alike⟩⟩ rfl hn hl2.1 rfl (lv_room hW) hd ⟨Nat.le_trans hr.2.2.1 h.2.2.2.2.2.2.2.2.2.2.2.2.2.1, Nat.le_trans hr.2.2.2 h.2.2.2.2.2.2.2.2.2.2.2.2.2.2⟩
  have h2 := hM.2.2.2.2
  rw [hsig] at h2
  exact (Option.some.inj h2).symm
/-- the script -/
def XS (X : CX) (G : GX) (q L : Nat) (xs : Nat → Int32) : Prop := va_X q L xs X.2.2.2.2.1 X.2.2.2.2.1.heap ∧ q < X.2.2.2.2.1.heap.size ∧ ¬ AA G q
theorem r_sld (h : OK X G N cc own nL rm) {q L : Nat} {xs : Nat → Int32} (hX : XS X G q L xs) {i : Int32} (hin : vp_in i L) (hd : decode cc pc = .ok (.iaload, 1)) (hp : pc + 1 = pc') (kk : AW X G nL N pc' lo (.int (xs i.toNatClampNeg) :: st) S a b) : AW X G nL N pc lo (.int i :: .ref q :: st) S a b := by
  subst hp
  intro H locs ls hP hS hl
  exact va_sld h.1 h.2.1 hX.1 hX.2.1 hX.2.2 hS hin hd (kk H locs ls hP hS hl)
theorem r_slen (h : OK X G N cc own nL rm) {q L : Nat} {xs : Nat → Int32} (hX : XS X G q L xs) (hd : decode cc pc = .ok (.arraylength, 1)) (hp : pc + 1 = pc') (kk : AW X G nL N pc' lo (.int (nI L) :: st) S a b) : AW X G nL N pc lo (.ref q :: st) S a b := by
  subst hp
  intro H locs ls hP hS hl
  exact va_slen h.1 h.2.1 hX.1 hX.2.1 hX.2.2 hS hd (kk H locs ls hP hS hl)
/-- an argument out of the script -/
theorem r_sarg (h : OK X G N cc own nL rm) {q L i k : Nat} {xs : Nat → Int32} (hX : XS X G q L xs) {j : Int} (d0 : decode cc pc = .ok (.aload_n 0, 1)) (d1 : decode cc (pc + 1) = .ok (.iload 5, 2)) (d2 : decode cc (pc + 3) = .ok (.iconst j, 1)) (d3 : decode cc (pc + 4) = .ok (.iadd, 1)) (d4 : decode cc (pc + 5) = .ok (.iaload, 1)) (hp : pc + 6 = pc')
    (h0 : lget 0 lo = some (.ref q)) (h5 : lget 5 lo = some (.int (nI i))) (hj : Int32.ofInt j = nI k) (hk : i + k < L) (hL : L ≤ 2048) (kk : AW X G nL N pc' lo (.int (xs (i + k)) :: st) S a b) : AW X G nL N pc lo st S a b := by
  refine r_aload_n (pc' := pc + 1) h d0 rfl h0 ?_
  refine r_iload (pc' := pc + 3) h d1 rfl h5 ?_
  refine r_iconst (pc' := pc + 4) h d2 rfl hj ?_
  refine r_iadd (pc' := pc + 5) h d3 rfl ?_
  rw [nI_add i k]
  have hn : (nI (i + k)).toNatClampNeg = i + k := nI_clamp (by omega)
  refine r_sld (pc' := pc') h hX (nI_in hk (by omega)) d4 hp ?_
  rw [hn]
  exact kk
end LAWR
