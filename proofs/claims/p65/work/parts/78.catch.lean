/-! METHODS THAT CATCH: the law's wrappers. -/
def PH (G : GX) (N : Nat) (S : Nat → va_E) (U : State) : Prop := PW G N S U ∧ NC U
theorem PH.blind {G : GX} {N : Nat} {S : Nat → va_E} {av : List Value} : FrameBlind (va_Pc av (PH G N S)) := by
  intro a U g mk h
  obtain ⟨e, hw, ha⟩ := h
  obtain ⟨-, w⟩ := PW.blind (av := av) a U g mk ⟨e, hw⟩
  exact ⟨e, w, NC.moved (u := U) (Vm.Alike.refl U.vm) ha⟩
abbrev HHs : Type := List (Nat × Nat × Nat × Nat)
def wsH (M : MI) (hh : HHs) : List Cond := .codeWith M.1 M.2.1 M.2.2.1 M.2.2.2 hh :: gw
def RetH (l : Launch) (G : GX) (N : Nat) (M : MI) (hh : HHs) (rm : Nat × Nat × Nat × Nat) (av : List Value) (S : Nat → va_E) (K : RK) : Prop :=
  l.stackTraces = false → vx_Met l M.1 (wsH M hh) (rmR rm) (va_Pc av (PH G N S)) (QcK G N K) (XcK G N K) rm.2.2.1 rm.2.2.2 (AA G)
def OKmH (X : CX) (G : GX) (N : Nat) (K : RK) (ret : Option FieldType) (hh : HHs) (rm : Nat × Nat × Nat × Nat) : Prop :=
  X.2.2.2.2.2.2.2.2.2.2 = vx_MQ X.2.2.2.2.2.2.2.1 (QcK G N K) (XcK G N K) X.2.2.2.2.2.2.1 X.2.2.2.2.1 rm.2.2.1 rm.2.2.2 (AA G) ∧ X.2.2.2.2.2.2.2.2.1.sig.returnType = ret ∧ X.2.2.2.2.2.2.2.2.2.1.exceptionTable.toList = tableOf hh ∧ NC X.2.2.2.2.1
theorem ret_enterH {l : Launch} {G : GX} {N : Nat} {M : MI} {hh : HHs} {rm : Nat × Nat × Nat × Nat} {av : List Value} {S : Nat → va_E} {K : RK} (hy : plainName M.1.cls = true) (hlen : (lg_sl av).length ≤ M.2.2.1)
    (body : ∀ X : CX, X.2.1 = l → OK X G N M.2.1 M.1.cls M.2.2.1 rm → OKmH X G N K M.2.2.2 hh rm → AW X G M.2.2.1 N 0 (lv_args 0 av) [] S 0 0) : RetH l G N M hh rm av S K := by
  intro hst
  refine vx_ofWH (cc := M.2.1) (maxL := M.2.2.1) (ret := M.2.2.2) (hh := hh) hy rfl ?_
  intro p e s m args below meth c s₁ B hml hv
  obtain ⟨rfl, ⟨⟨hP, hK, hB, hF⟩, hD⟩, hN⟩ := hv
  have hts : ∀ w ∈ wsH M hh, w.before av.toArray s = true := atoms_spec (ws := wsH M hh) B.pre
  have hown : s.vm.findClass M.1.cls = some m.cls := findClass_of_methodNamed B.named
  have ht := vx_table (x := M.1) B (hts _ List.mem_cons_self)
  rw [lg_entry_eq]
  exact body (p, l, e, rmR rm, s, m, av.toArray, below, meth, c, vx_MQ below (QcK G N K) (XcK G N K) av.toArray s rm.2.2.1 rm.2.2.2 (AA G)) rfl
    ⟨B.exec, B.bytes, hml, hown, fun w hw => hts w (List.mem_cons_of_mem _ hw), hK, hB, B.notSynchronized, hst, hF, hD, Nat.le_refl _, Nat.le_refl _, Nat.le_refl _, Nat.le_refl _⟩
    ⟨rfl, B.returns, ht, hN⟩ s.heap [] _ hP va_S.rf (lv_entry av hlen)
/-- the row of the table that takes it -/
def CT (X : CX) (own : String) (pc : Nat) (E : String) (kk : Nat → Prop) : Prop :=
  ∃ (pre : List ExceptionTableEntry) (x : ExceptionTableEntry) (suf : List ExceptionTableEntry) (name : String), X.2.2.2.2.2.2.2.2.2.1.exceptionTable.toList = pre ++ x :: suf ∧ (∀ z ∈ pre, covers z pc = false ∨ (z.catchType ≠ 0 ∧ ∃ nm : String, Cond.classLink own z.catchType nm ∈ gw ∧ (E, nm) ∈ ncs)) ∧
    covers x pc = true ∧ x.catchType ≠ 0 ∧ Cond.classLink own x.catchType name ∈ gw ∧ Cond.castable E name ∈ nw ∧ kk x.handlerPc
/-- how a wrapper goes on behind its call -/
def KH (X : CX) (G : GX) (nL N pc : Nat) (own : String) (lo : List (Nat × Value)) (st : List Value) (a b : Nat) : RK := fun o S' => match o with
  | .inl none => AW X G nL N (pc + 3) lo st S' a b
  | .inl (some v) => AW X G nL N (pc + 3) lo (v :: st) S' a b
  | .inr E => CT X own pc E (fun hp => ∀ q : Nat, AW X G nL N hp lo [.ref q] S' a b)
section CAT
variable {X : CX} {G : GX} {cc : ByteArray} {own : String} {nL N pc pc' : Nat} {lo : List (Nat × Value)} {st stk : List Value} {S : Nat → va_E} {a b : Nat} {rm : Nat × Nat × Nat × Nat} {K : RK} {ret : Option FieldType} {hh : HHs}
theorem r_ireturnH (h : OK X G N cc own nL rm) (hm : OKmH X G N K (some .int) hh rm) {x : Int32} (hd : decode cc pc = .ok (.ireturn, 1)) (ha : a ≤ rm.2.2.1) (hb : b ≤ rm.2.2.2) (hk : K (.inl (some (.int x))) S) : AW X G nL N pc lo [.int x] S a b := by
  intro H locs ls hP hS hl
  unfold xW
  rw [hm.1]
  refine W.widen ha hb (vx_ret (W.iret h.1 h.2.1 hm.2.1 (fun t ht hW => ⟨_, S, rfl, by rw [ht]; exact hP, hk, hS.F ht⟩) hS.2.2 hd h.2.2.2.2.2.2.2.1))
theorem back_toH (h : OK X G N cc own nL rm) (hN : NC X.2.2.2.2.1) {M : MI} {rm' : Nat × Nat × Nat × Nat} {H : Heap} {locs : List Loc} {ls : Array Slot} {av : List Value} {T : State}
    (hS : va_S (AA G) X.2.2.2.2.1.heap H locs) (hl2 : lv_has ls nL lo) (hT : T.heap = H)
    (XX : Stand X.1 X.2.1 X.2.2.1 X.2.2.2.1 X.2.2.2.2.1 X.2.2.2.2.2.1 X.2.2.2.2.2.2.1 X.2.2.2.2.2.2.2.1 X.2.2.2.2.2.2.2.2.1 X.2.2.2.2.2.2.2.2.2.1 T locs a b)
    (run : vx_Run X.1 X.2.1 X.2.2.1 X.2.2.2.1 X.2.2.2.2.1 X.2.2.2.2.2.1 X.2.2.2.2.2.2.1 X.2.2.2.2.2.2.2.1 X.2.2.2.2.2.2.2.2.1 X.2.2.2.2.2.2.2.2.2.1 H locs a b rm'.2.2.1 rm'.2.2.2 (F0 X.2.2.2.2.2.1 pc ls stk) st (QcK G N (KH X G nL N pc own lo st (a + rm'.2.2.1) (b + rm'.2.2.2)) av.toArray) (XcK G N (KH X G nL N pc own lo st (a + rm'.2.2.1) (b + rm'.2.2.2))) (AA G)) :
    ∃ t, Steps X.1.tables X.2.2.1 X.2.2.2.2.2.2.2.1 (T.setTop (F0 X.2.2.2.2.2.1 pc ls stk)) t ∧ X.2.2.2.2.2.2.2.2.2.2 t := by
  rcases run T hT XX with ⟨v, st₀, t, T', L, h0, X', hL, e1, e2, ⟨v', S', hv, hP', hK', hF⟩, stp⟩ | ⟨q, st₀, t, T', L, E, ce, h0, X', hL, e1, e2, ⟨S', hP', hK', hF⟩, hce, hcv, hcl, stp⟩
  · cases hv
    obtain ⟨k1, k2, k3⟩ := vx_keep (A0 := AA G) h0 e1 hS (fun q _ hq => hq) (fun q hq => hq) hL hF
    cases v with
    | none =>
      have hK2 : AW X G nL N (pc + 3) lo _ S' (a + rm'.2.2.1) (b + rm'.2.2.2) := hK'
      obtain ⟨t2, a1, b1⟩ := hK2 T'.heap (locs ++ L) ls (by rw [e1]; exact hP') k3 hl2 T' rfl X'
      exact ⟨t2, stp t2 a1, b1⟩
    | some v =>
      have hK2 : AW X G nL N (pc + 3) lo (v :: _) S' (a + rm'.2.2.1) (b + rm'.2.2.2) := hK'
      obtain ⟨t2, a1, b1⟩ := hK2 T'.heap (locs ++ L) ls (by rw [e1]; exact hP') k3 hl2 T' rfl X'
      exact ⟨t2, stp t2 a1, b1⟩
  · obtain ⟨k1, k2, k3⟩ := vx_keep (A0 := AA G) h0 e1 hS (fun q _ hq => hq) (fun q hq => hq) hL hF
    have hts := h.2.2.2.2.1
    obtain ⟨pre, x, suf, name, g1, g2, g3, g4, g5, g6, g7⟩ := (show CT X own pc E (fun hp => ∀ q : Nat, AW X G nL N hp lo [.ref q] S' (a + rm'.2.2.1) (b + rm'.2.2.2)) from hK')
    have out := vx_catch (p := X.1) (l := X.2.1) (e := X.2.2.1) (R := X.2.2.2.1) (m := X.2.2.2.2.2.1) (rest := st) (args := X.2.2.2.2.2.2.1) (below := X.2.2.2.2.2.2.2.1) (meth := X.2.2.2.2.2.2.2.2.1) (H := T'.heap) (locs := locs ++ L) (cells := a + rm'.2.2.1) (slots := b + rm'.2.2.2) (ls := ls) (pc := pc) (E := E) (ce := ce) (q := q) (Q := X.2.2.2.2.2.2.2.2.2.2) h.2.2.2.1 pre x suf g1
      (fun z hz => by
        rcases g2 z hz with y | ⟨y, nm, y1, y2⟩
        · exact Or.inl y
        · exact Or.inr ⟨y, nm, hts _ y1, hN _ y2⟩) g3 g4 (hts _ g5) (va_Nw.use rfl (h.2.2.2.2.2.2.2.2.2.1.2.2.2.2.2.2.1 _ g6)) (by rw [e1]; exact hce) hcv hcl (g7 q T'.heap (locs ++ L) ls (by rw [e1]; exact hP') k3 hl2)
    obtain ⟨t2, a1, b1⟩ := out T' rfl X'
    exact ⟨t2, stp.trans a1, b1⟩
/-- a call whose throw is caught -/
theorem r_callVH (h : OK X G N cc own nL rm) (hm : OKmH X G N K ret hh rm) {M : MI} {rm' : Nat × Nat × Nat × Nat} {index n k ci Nf : Nat} {C : String} {Tf : u_T} {fs As : List Value} (hd : decode cc pc = .ok (.invokevirtual index, 3))
    (hl : Cond.methodLink own index M.1 ∈ gw) (hM : MV M n C) (hcl : cls[ci]? = some (C, Tf, Nf)) (hk : k < N) (hc : S k = .inr (ci, fs)) (hn : As.length = n) (hs : stk = As.reverse ++ .ref (ad G k) :: st) (hW : (st.map fun v => v.category).sum ≤ 8) (hr : RR rm rm' M.2.2.1 a b)
    (hcall : RetK X.2.1 G N M rm' (.ref (ad G k) :: As) S (KH X G nL N pc own lo st (a + rm'.2.2.1) (b + rm'.2.2.2))) : AW X G nL N pc lo stk S a b := by
  subst hs
  intro H locs ls hP hS hl2
  have hts := h.2.2.2.2.1
  intro T hT XX
  refine back_toH (M := M) (rm' := rm') (st := st) (av := .ref (ad G k) :: As) h hm.2.2.2 hS hl2 hT XX ?_
  exact vx_runV (Ts := gw) (cc := cc) (nL := nL) (own := own) (C := C) (n := n) (bytes := M.2.1) (maxL := M.2.2.1) (ret := M.2.2.2) (ws := wsM M) (rm := rmR rm') (Pc := va_Pc (.ref (ad G k) :: As) (PW G N S)) ⟨h.1, h.2.1, h.2.2.1, h.2.2.2.1, hts⟩ (hcall h.2.2.2.2.2.2.2.2.1)
    ⟨callB_of n hts (wsM_in hM.2.2.2.1) rfl rfl rfl (hts _ hM.2.2.1) (hts _ hl) ⟨hM.2.2.2.2.1.1, hM.2.2.2.2.1.2, hM.2.2.2.2.2⟩ ⟨Nat.le_trans hr.1 h.2.2.2.2.2.2.2.2.2.2.2.1, Nat.le_trans hr.2.1 h.2.2.2.2.2.2.2.2.2.2.2.2.1⟩, hts _ hM.1, hts _ hM.2.1⟩
    ⟨PW.blind, va_recv h.2.2.2.2.2.1 hP hcl (by rw [wl_get hk, hc]), pw_pre h hP hS⟩ rfl hn hl2.1 rfl (lv_room hW) hd ⟨Nat.le_trans hr.2.2.1 h.2.2.2.2.2.2.2.2.2.2.2.2.2.1, Nat.le_trans hr.2.2.2 h.2.2.2.2.2.2.2.2.2.2.2.2.2.2⟩
end CAT
