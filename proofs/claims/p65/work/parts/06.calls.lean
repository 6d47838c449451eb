/-! CONTRACTS AND CALLS over the whole world. -/
/-- how a method ends: with an answer, or with an exception of a name -/
abbrev RO : Type := Option Value ⊕ String
abbrev RK : Type := RO → (Nat → va_E) → Prop
def QcK (G : GX) (N : Nat) (K : RK) : Array Value → State → Outcome → State → Prop := fun _ st o t =>
  ∃ (v : Option Value) (S' : Nat → va_E), o = .returned v ∧ va_P (gD G) cls (wl G N S') t.heap ∧ K (.inl v) S' ∧ va_F (AA G) st t
def XcK (G : GX) (N : Nat) (K : RK) : String → State → State → Prop := fun E st t =>
  ∃ S' : Nat → va_E, va_P (gD G) cls (wl G N S') t.heap ∧ K (.inr E) S' ∧ va_F (AA G) st t
/-- a method: its name, code, locals, result -/
abbrev MI : Type := MethodName × ByteArray × Nat × Option FieldType
def wsM (M : MI) : List Cond := .code M.1 M.2.1 M.2.2.1 M.2.2.2 :: gw
def rmR (rm : Nat × Nat × Nat × Nat) : Room := { frames := rm.1, locals := rm.2.1, cells := rm.2.2.1, slots := rm.2.2.2 }
/-- what a method's caller must hold -/
def PW (G : GX) (N : Nat) (S : Nat → va_E) (U : State) : Prop := WD G N S U ∧ DD G N
/-- METHOD M, from these arguments and this world, ends so that K holds of its end -/
def RetK (l : Launch) (G : GX) (N : Nat) (M : MI) (rm : Nat × Nat × Nat × Nat) (av : List Value) (S : Nat → va_E) (K : RK) : Prop :=
  l.stackTraces = false → vx_Met l M.1 (wsM M) (rmR rm) (va_Pc av (PW G N S)) (QcK G N K) (XcK G N K) rm.2.2.1 rm.2.2.2 (AA G)
/-- a method's body's own end -/
def OKm (X : CX) (G : GX) (N : Nat) (K : RK) (ret : Option FieldType) (rm : Nat × Nat × Nat × Nat) : Prop :=
  X.2.2.2.2.2.2.2.2.2.2 = vx_MQ X.2.2.2.2.2.2.2.1 (QcK G N K) (XcK G N K) X.2.2.2.2.2.2.1 X.2.2.2.2.1 rm.2.2.1 rm.2.2.2 (AA G) ∧ X.2.2.2.2.2.2.2.2.1.sig.returnType = ret ∧ ∀ x ∈ X.2.2.2.2.2.2.2.2.2.1.exceptionTable.toList, False
theorem gw_ok : ∀ w ∈ gw, (w.onTables && w.keeps) = true ∨ ∃ ty, w = .arrayClass ty := fun _ h => good_of_word (List.mem_filter.mp h).2
theorem PW.blind {G : GX} {N : Nat} {S : Nat → va_E} {av : List Value} : FrameBlind (va_Pc av (PW G N S)) := by
  intro a U g mk h
  obtain ⟨rfl, ⟨h1, h2, h3, h4⟩, h5⟩ := h
  exact ⟨rfl, ⟨h1, va_K.moved (u := U) (Vm.Alike.refl U.vm) h2, h3, SF.same (s := U) rfl h4⟩, h5⟩
/-- a contract's body -/
theorem ret_enter {l : Launch} {G : GX} {N : Nat} {M : MI} {rm : Nat × Nat × Nat × Nat} {av : List Value} {S : Nat → va_E} {K : RK} (hy : plainName M.1.cls = true) (hlen : (lg_sl av).length ≤ M.2.2.1)
    (body : ∀ X : CX, X.2.1 = l → OK X G N M.2.1 M.1.cls M.2.2.1 rm → OKm X G N K M.2.2.2 rm → AW X G M.2.2.1 N 0 (lv_args 0 av) [] S 0 0) : RetK l G N M rm av S K := by
  intro hst
  refine vx_ofW (cc := M.2.1) (maxL := M.2.2.1) (ret := M.2.2.2) hy rfl ?_
  intro p e s m args below meth c s₁ B hml ht hv
  obtain ⟨rfl, ⟨hP, hK, hB, hF⟩, hD⟩ := hv
  have hts : ∀ w ∈ wsM M, w.before av.toArray s = true := atoms_spec (ws := wsM M) B.pre
  have hown : s.vm.findClass M.1.cls = some m.cls := findClass_of_methodNamed B.named
  rw [lg_entry_eq]
  exact body (p, l, e, rmR rm, s, m, av.toArray, below, meth, c, vx_MQ below (QcK G N K) (XcK G N K) av.toArray s rm.2.2.1 rm.2.2.2 (AA G)) rfl
    ⟨B.exec, B.bytes, hml, hown, fun w hw => hts w (List.mem_cons_of_mem _ hw), hK, hB, B.notSynchronized, hst, hF, hD, Nat.le_refl _, Nat.le_refl _, Nat.le_refl _, Nat.le_refl _⟩
    ⟨rfl, B.returns, ht⟩ s.heap [] _ hP va_S.rf (lv_entry av hlen)
section CALLS
variable {X : CX} {G : GX} {cc : ByteArray} {own : String} {nL N pc pc' tgt : Nat} {lo lo' : List (Nat × Value)} {st stk : List Value} {S : Nat → va_E} {a b : Nat} {rm : Nat × Nat × Nat × Nat} {K : RK} {ret : Option FieldType}
/-- ends -/
theorem r_ireturn (h : OK X G N cc own nL rm) (hm : OKm X G N K (some .int) rm) {x : Int32} (hd : decode cc pc = .ok (.ireturn, 1)) (ha : a ≤ rm.2.2.1) (hb : b ≤ rm.2.2.2) (hk : K (.inl (some (.int x))) S) : AW X G nL N pc lo [.int x] S a b := by
  intro H locs ls hP hS hl
  unfold xW
  rw [hm.1]
  refine W.widen ha hb (vx_ret (W.iret h.1 h.2.1 hm.2.1 (fun t ht hW => ⟨_, S, rfl, by rw [ht]; exact hP, hk, hS.F ht⟩) hS.2.2 hd h.2.2.2.2.2.2.2.1))
theorem r_zreturn (h : OK X G N cc own nL rm) {ty : FieldType} (hm : OKm X G N K (some ty) rm) {x : Int32} (hd : decode cc pc = .ok (.ireturn, 1)) (ha : a ≤ rm.2.2.1) (hb : b ≤ rm.2.2.2) (hn : narrow ty (.int x) = .int x) (hk : K (.inl (some (.int x))) S) : AW X G nL N pc lo [.int x] S a b := by
  intro H locs ls hP hS hl
  unfold xW
  rw [hm.1]
  refine W.widen ha hb (vx_ret (W.zret h.1 h.2.1 hm.2.1 hn (fun t ht hW => ⟨_, S, rfl, by rw [ht]; exact hP, hk, hS.F ht⟩) hS.2.2 hd h.2.2.2.2.2.2.2.1))
theorem r_lreturn (h : OK X G N cc own nL rm) (hm : OKm X G N K (some .long) rm) {x : Int64} (hd : decode cc pc = .ok (.lreturn, 1)) (ha : a ≤ rm.2.2.1) (hb : b ≤ rm.2.2.2) (hk : K (.inl (some (.long x))) S) : AW X G nL N pc lo [.long x] S a b := by
  intro H locs ls hP hS hl
  unfold xW
  rw [hm.1]
  refine W.widen ha hb (vx_ret (W.lret h.1 h.2.1 hm.2.1 (fun t ht hW => ⟨_, S, rfl, by rw [ht]; exact hP, hk, hS.F ht⟩) hS.2.2 hd h.2.2.2.2.2.2.2.1))
theorem r_dreturn (h : OK X G N cc own nL rm) (hm : OKm X G N K (some .double) rm) {x : UInt64} (hd : decode cc pc = .ok (.dreturn, 1)) (ha : a ≤ rm.2.2.1) (hb : b ≤ rm.2.2.2) (hk : K (.inl (some (.double x))) S) : AW X G nL N pc lo [.double x] S a b := by
  intro H locs ls hP hS hl
  unfold xW
  rw [hm.1]
  refine W.widen ha hb (vx_ret (W.dret h.1 h.2.1 hm.2.1 (fun t ht hW => ⟨_, S, rfl, by rw [ht]; exact hP, hk, hS.F ht⟩) hS.2.2 hd h.2.2.2.2.2.2.2.1))
theorem r_freturn (h : OK X G N cc own nL rm) (hm : OKm X G N K (some .float) rm) {x : UInt32} (hd : decode cc pc = .ok (.freturn, 1)) (ha : a ≤ rm.2.2.1) (hb : b ≤ rm.2.2.2) (hk : K (.inl (some (.float x))) S) : AW X G nL N pc lo [.float x] S a b := by
  intro H locs ls hP hS hl
  unfold xW
  rw [hm.1]
  refine W.widen ha hb (vx_ret (W.fret h.1 h.2.1 hm.2.1 (fun t ht hW => ⟨_, S, rfl, by rw [ht]; exact hP, hk, hS.F ht⟩) hS.2.2 hd h.2.2.2.2.2.2.2.1))
theorem r_areturn (h : OK X G N cc own nL rm) {n : String} (hm : OKm X G N K (some (.object n)) rm) {v : Value} (hd : decode cc pc = .ok (.areturn, 1)) (ha : a ≤ rm.2.2.1) (hb : b ≤ rm.2.2.2) (hv : v = .null ∨ ∃ a, v = .ref a) (hk : K (.inl (some v)) S) : AW X G nL N pc lo [v] S a b := by
  intro H locs ls hP hS hl
  unfold xW
  rw [hm.1]
  refine W.widen ha hb (vx_ret (W.aret h.1 h.2.1 hm.2.1 (Or.inl ⟨n, rfl⟩) hv (fun t ht hW => ⟨_, S, rfl, by rw [ht]; exact hP, hk, hS.F ht⟩) hS.2.2 hd h.2.2.2.2.2.2.2.1))
theorem r_return (h : OK X G N cc own nL rm) (hm : OKm X G N K none rm) (hd : decode cc pc = .ok (.return_, 1)) (ha : a ≤ rm.2.2.1) (hb : b ≤ rm.2.2.2) (hk : K (.inl none) S) : AW X G nL N pc lo [] S a b := by
  intro H locs ls hP hS hl
  unfold xW
  rw [hm.1]
  refine W.widen ha hb (vx_ret (W.vret h.1 h.2.1 hm.2.1 (fun t ht hW => ⟨_, S, rfl, by rw [ht]; exact hP, hk, hS.F ht⟩) hS.2.2 hd h.2.2.2.2.2.2.2.1))
/-- how the caller goes on behind a call: with the answer, or out with the exception -/
def KC (X : CX) (G : GX) (nL N pc' : Nat) (lo : List (Nat × Value)) (st : List Value) (a b : Nat) (K : RK) : RK := fun o S' => match o with
  | .inl none => AW X G nL N pc' lo st S' a b
  | .inl (some v) => AW X G nL N pc' lo (v :: st) S' a b
  | .inr E => K (.inr E) S'
/-- a method's own facts: an instance method -/
def MV (M : MI) (n : Nat) (C : String) : Prop := Cond.instanceMethod M.1 ∈ gw ∧ Cond.selects C M.1 M.1 ∈ gw ∧ Cond.initialized M.1.cls ∈ gw ∧ Cond.code M.1 M.2.1 M.2.2.1 M.2.2.2 ∈ gw ∧ (M.1.cls ≠ "java/lang/invoke/MethodHandle" ∧ M.1.cls ≠ "java/lang/invoke/VarHandle") ∧ (parseMethodDescriptor M.1.desc).map (fun d => d.parameters.length) = some n
/-- a static one -/
def MS (M : MI) (n : Nat) : Prop := Cond.static M.1 ∈ gw ∧ Cond.initialized M.1.cls ∈ gw ∧ Cond.code M.1 M.2.1 M.2.2.1 M.2.2.2 ∈ gw ∧ (M.1.cls ≠ "java/lang/invoke/MethodHandle" ∧ M.1.cls ≠ "java/lang/invoke/VarHandle") ∧ (parseMethodDescriptor M.1.desc).map (fun d => d.parameters.length) = some n
/-- a callee's room in its caller's -/
def RR (rm rm' : Nat × Nat × Nat × Nat) (ml a b : Nat) : Prop := rm'.1 + 1 ≤ rm.1 ∧ 8 + (ml + 11) + rm'.2.1 ≤ rm.2.1 ∧ a + rm'.2.2.1 ≤ rm.2.2.1 ∧ b + rm'.2.2.2 ≤ rm.2.2.2
theorem wsM_in {M : MI} (hc : Cond.code M.1 M.2.1 M.2.2.1 M.2.2.2 ∈ gw) : GoodIn gw (wsM M) := fun w hw => by
  rcases List.mem_cons.mp hw with rfl | hw
  · exact ⟨hc, gw_ok _ hc⟩
  · exact ⟨hw, gw_ok _ hw⟩
theorem pw_pre (h : OK X G N cc own nL rm) {H : Heap} {locs : List Loc} {av : List Value} (hP : va_P (gD G) cls (wl G N S) H) (hS : va_S (AA G) X.2.2.2.2.1.heap H locs) : ∀ U : State, U.heap = H → X.2.2.2.2.1.WarmedH U.vm → va_Pc av (PW G N S) av.toArray U := by
  intro U hU hW
  refine ⟨rfl, ⟨by rw [hU]; exact hP, va_K.moved hW.alike h.2.2.2.2.2.1, by rw [hU]; exact Nat.le_trans h.2.2.2.2.2.2.1 hS.1, ?_⟩, h.2.2.2.2.2.2.2.2.2.2.1⟩
  rw [hU]
  exact SF.kept (SF.warm hW h.2.2.2.2.2.2.2.2.2.1) hS.2.1
/-- behind a call of any kind -/
theorem back_to (h : OK X G N cc own nL rm) (hm : OKm X G N K ret rm) {M : MI} {rm' : Nat × Nat × Nat × Nat} {H : Heap} {locs : List Loc} {ls : Array Slot} {av : List Value} {T : State}
    (hS : va_S (AA G) X.2.2.2.2.1.heap H locs) (hl2 : lv_has ls nL lo) (hr : RR rm rm' M.2.2.1 a b) (hT : T.heap = H)
    (XX : Stand X.1 X.2.1 X.2.2.1 X.2.2.2.1 X.2.2.2.2.1 X.2.2.2.2.2.1 X.2.2.2.2.2.2.1 X.2.2.2.2.2.2.2.1 X.2.2.2.2.2.2.2.2.1 X.2.2.2.2.2.2.2.2.2.1 T locs a b)
    (run : vx_Run X.1 X.2.1 X.2.2.1 X.2.2.2.1 X.2.2.2.2.1 X.2.2.2.2.2.1 X.2.2.2.2.2.2.1 X.2.2.2.2.2.2.2.1 X.2.2.2.2.2.2.2.2.1 X.2.2.2.2.2.2.2.2.2.1 H locs a b rm'.2.2.1 rm'.2.2.2 (F0 X.2.2.2.2.2.1 pc ls stk) st (QcK G N (KC X G nL N (pc + 3) lo st (a + rm'.2.2.1) (b + rm'.2.2.2) K) av.toArray) (XcK G N (KC X G nL N (pc + 3) lo st (a + rm'.2.2.1) (b + rm'.2.2.2) K)) (AA G)) :
    ∃ t, Steps X.1.tables X.2.2.1 X.2.2.2.2.2.2.2.1 (T.setTop (F0 X.2.2.2.2.2.1 pc ls stk)) t ∧ X.2.2.2.2.2.2.2.2.2.2 t := by
  rcases run T hT XX with ⟨v, st₀, t, T', L, h0, X', hL, e1, e2, ⟨v', S', hv, hP', hK', hF⟩, stp⟩ | ⟨q, st₀, t, T', L, E, ce, h0, X', hL, e1, e2, ⟨S', hP', hK', hF⟩, hce, hcv, hcl, stp⟩
  · cases hv
    obtain ⟨k1, k2, k3⟩ := vx_keep (A0 := AA G) h0 e1 hS (fun q _ hq => hq) (fun q hq => hq) hL hF
    cases v with
    | none =>
      have hK2 : AW X G nL N (pc + 3) lo _ S' (a + rm'.2.2.1) (b + rm'.2.2.2) := hK'
      obtain ⟨t2, a1, b1⟩ := hK2 T'.heap (locs ++ L) ls (by rw [e1]; exact hP') k3 hl2 T' rfl X'
      exact ⟨t2, stp t2 a1, b1⟩
    | some v =>
      have hK2 : AW X G nL N (pc + 3) lo (v :: _) S' (a + rm'.2.2.1) (b + rm'.2.2.2) := hK'
      obtain ⟨t2, a1, b1⟩ := hK2 T'.heap (locs ++ L) ls (by rw [e1]; exact hP') k3 hl2 T' rfl X'
      exact ⟨t2, stp t2 a1, b1⟩
  · obtain ⟨k1, k2, k3⟩ := vx_keep (A0 := AA G) h0 e1 hS (fun q _ hq => hq) (fun q hq => hq) hL hF
    have hK2 : K (.inr E) S' := hK'
    rw [hm.1]
    have out := vx_out (Qc := QcK G N K) (XC := XcK G N K) (free := AA G) (p := X.1) (l := X.2.1) (e := X.2.2.1) (R := X.2.2.2.1) (m := X.2.2.2.2.2.1) (rest := st) (args := X.2.2.2.2.2.2.1) (below := X.2.2.2.2.2.2.2.1) (H := T'.heap) (locs := locs ++ L) (cells := a + rm'.2.2.1) (slots := b + rm'.2.2.2) (ls := ls) (pc := pc) (E := E) (ce := ce) (q := q) (mc := rm.2.2.1) (ms := rm.2.2.2) (fun x hx => (hm.2.2 x hx).elim) h.2.2.2.2.2.2.2.1 (by rw [e1]; exact hce) hcv hcl (fun t3 ht3 _ => ⟨S', by rw [ht3, e1]; exact hP', hK2, k3.F ht3⟩) k3.2.2 hr.2.2.1 hr.2.2.2
    obtain ⟨t2, a1, b1⟩ := out T' rfl X'
    exact ⟨t2, stp.trans a1, b1⟩
/-- a call by the receiver's kind -/
theorem r_callV (h : OK X G N cc own nL rm) (hm : OKm X G N K ret rm) {M : MI} {rm' : Nat × Nat × Nat × Nat} {index n k ci Nf : Nat} {C : String} {Tf : u_T} {fs As : List Value} (hd : decode cc pc = .ok (.invokevirtual index, 3)) (hp : pc + 3 = pc')
    (hl : Cond.methodLink own index M.1 ∈ gw) (hM : MV M n C) (hcl : cls[ci]? = some (C, Tf, Nf)) (hk : k < N) (hc : S k = .inr (ci, fs)) (hn : As.length = n) (hs : stk = As.reverse ++ .ref (ad G k) :: st) (hW : (st.map fun v => v.category).sum ≤ 8) (hr : RR rm rm' M.2.2.1 a b)
    (hcall : RetK X.2.1 G N M rm' (.ref (ad G k) :: As) S (KC X G nL N pc' lo st (a + rm'.2.2.1) (b + rm'.2.2.2) K)) : AW X G nL N pc lo stk S a b := by
  subst hp
  subst hs
  intro H locs ls hP hS hl2
  have hts := h.2.2.2.2.1
  intro T hT XX
  refine back_to (st := st) (av := .ref (ad G k) :: As) h hm hS hl2 hr hT XX ?_
  refine vx_runV (Ts := gw) (cc := cc) (nL := nL) (own := own) (C := C) (n := n) (bytes := M.2.1) (maxL := M.2.2.1) (ret := M.2.2.2) (ws := wsM M) (rm := rmR rm') (Pc := va_Pc (.ref (ad G k) :: As) (PW G N S)) ⟨h.1, h.2.1, h.2.2.1, h.2.2.2.1, hts⟩ (hcall h.2.2.2.2.2.2.2.2.1)
    ⟨callB_of n hts (wsM_in hM.2.2.2.1) rfl rfl rfl (hts _ hM.2.2.1) (hts _ hl) ⟨hM.2.2.2.2.1.1, hM.2.2.2.2.1.2, hM.2.2.2.2.2⟩ ⟨Nat.le_trans hr.1 h.2.2.2.2.2.2.2.2.2.2.2.1, Nat.le_trans hr.2.1 h.2.2.2.2.2.2.2.2.2.2.2.2.1⟩, hts _ hM.1, hts _ hM.2.1⟩
    ⟨PW.blind, va_recv h.2.2.2.2.2.1 hP hcl (by rw [wl_get hk, hc]), pw_pre h hP hS⟩ rfl hn hl2.1 rfl (lv_room hW) hd ⟨Nat.le_trans hr.2.2.1 h.2.2.2.2.2.2.2.2.2.2.2.2.2.1, Nat.le_trans hr.2.2.2 h.2.2.2.2.2.2.2.2.2.2.2.2.2.2⟩
/-- a static call -/
theorem r_callS (h : OK X G N cc own nL rm) (hm : OKm X G N K ret rm) {M : MI} {rm' : Nat × Nat × Nat × Nat} {index n : Nat} {As : List Value} (hd : decode cc pc = .ok (.invokestatic index, 3)) (hp : pc + 3 = pc')
    (hl : Cond.methodLink own index M.1 ∈ gw) (hM : MS M n) (hn : As.length = n) (hs : stk = As.reverse ++ st) (hW : (st.map fun v => v.category).sum ≤ 8) (hr : RR rm rm' M.2.2.1 a b)
    (hcall : RetK X.2.1 G N M rm' As S (KC X G nL N pc' lo st (a + rm'.2.2.1) (b + rm'.2.2.2) K)) : AW X G nL N pc lo stk S a b := by
  subst hp
  subst hs
  intro H locs ls hP hS hl2
  have hts := h.2.2.2.2.1
  intro T hT XX
  refine back_to (st := st) (av := As) h hm hS hl2 hr hT XX ?_
  refine vx_runS (Ts := gw) (cc := cc) (nL := nL) (own := own) (n := n) (bytes := M.2.1) (maxL := M.2.2.1) (ret := M.2.2.2) (ws := wsM M) (rm := rmR rm') (Pc := va_Pc As (PW G N S)) ⟨h.1, h.2.1, h.2.2.1, h.2.2.2.1, hts⟩ (hcall h.2.2.2.2.2.2.2.2.1)
    ⟨callB_of n hts (wsM_in hM.2.2.1) rfl rfl rfl (hts _ hM.2.1) (hts _ hl) ⟨hM.2.2.2.1.1, hM.2.2.2.1.2, hM.2.2.2.2⟩ ⟨Nat.le_trans hr.1 h.2.2.2.2.2.2.2.2.2.2.2.1, Nat.le_trans hr.2.1 h.2.2.2.2.2.2.2.2.2.2.2.2.1⟩, hts _ hM.1⟩
    ⟨PW.blind, pw_pre h hP hS⟩ rfl hn hl2.1 rfl (lv_room hW) hd ⟨Nat.le_trans hr.2.2.1 h.2.2.2.2.2.2.2.2.2.2.2.2.2.1, Nat.le_trans hr.2.2.2 h.2.2.2.2.2.2.2.2.2.2.2.2.2.2⟩
/-- a static call of a nest mate's private method -/
theorem r_callSN (h : OK X G N cc own nL rm) (hm : OKm X G N K ret rm) {M : MI} {rm' : Nat × Nat × Nat × Nat} {index n : Nat} {host : String} {As : List Value} (hd : decode cc pc = .ok (.invokestatic index, 3)) (hp : pc + 3 = pc')
    (hl : Cond.methodLinkNest own index M.1 host ∈ nw) (hM : MS M n) (hn : As.length = n) (hs : stk = As.reverse ++ st) (hW : (st.map fun v => v.category).sum ≤ 8) (hr : RR rm rm' M.2.2.1 a b)
    (hcall : RetK X.2.1 G N M rm' As S (KC X G nL N pc' lo st (a + rm'.2.2.1) (b + rm'.2.2.2) K)) : AW X G nL N pc lo stk S a b := by
  subst hp
  subst hs
  intro H locs ls hP hS hl3
  have hts := h.2.2.2.2.1
  intro T hT XX
  refine back_to (st := st) (av := As) h hm hS hl3 hr hT XX ?_
  refine vx_runSN (Ts := gw) (cc := cc) (nL := nL) (own := own) (host := host) (n := n) (bytes := M.2.1) (maxL := M.2.2.1) (ret := M.2.2.2) (ws := wsM M) (rm := rmR rm') (Pc := va_Pc As (PW G N S)) ⟨h.1, h.2.1, h.2.2.1, h.2.2.2.1, hts⟩ (hcall h.2.2.2.2.2.2.2.2.1)
    ⟨⟨⟨rfl, rfl, Nat.le_trans hr.1 h.2.2.2.2.2.2.2.2.2.2.2.1, Nat.le_trans hr.2.1 h.2.2.2.2.2.2.2.2.2.2.2.2.1, pay_in hts (wsM_in hM.2.2.1), List.mem_cons_self⟩, hts _ hM.2.2.1, hts _ hM.2.1, hM.2.2.2.1, fun sig hsig => ?_, va_Nw.use rfl (h.2.2.2.2.2.2.2.2.2.1.2.2.2.2.2.2.1 _ hl)⟩, hts _ hM.1, trivial⟩
    ⟨PW.blind, pw_pre h hP hS⟩ rfl hn hl3.1 rfl (lv_room hW) hd ⟨Nat.le_trans hr.2.2.1 h.2.2.2.2.2.2.2.2.2.2.2.2.2.1, Nat.le_trans hr.2.2.2 h.2.2.2.2.2.2.2.2.2.2.2.2.2.2⟩
  have h2 := hM.2.2.2.2
  rw [hsig] at h2
  exact (Option.some.inj h2).symm
end CALLS
