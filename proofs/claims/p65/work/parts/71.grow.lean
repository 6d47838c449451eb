/-! THE WORLD GROWS: constructors. -/
/-- how a constructor ends -/
def QcC (G : GX) (N' : Nat) (K : GX → (Nat → va_E) → Prop) : Array Value → State → Outcome → State → Prop := fun _ st o t =>
  ∃ (G' : GX) (S' : Nat → va_E), o = .returned none ∧ gD G' = gD G ∧ gB G' = gB G ∧ va_P (gD G) cls (wl G' N' S') t.heap ∧ K G' S' ∧ va_F (AA G) st t
/-- what a constructor's caller must hold -/
def PA (G : GX) (N : Nat) (S : Nat → va_E) (U : State) : Prop := PW G N S U ∧ va_AO RX1 U
theorem PA.blind {G : GX} {N : Nat} {S : Nat → va_E} {av : List Value} : FrameBlind (va_Pc av (PA G N S)) := by
  intro a U g mk h
  obtain ⟨e, hw, ha⟩ := h
  obtain ⟨-, w⟩ := PW.blind (av := av) a U g mk ⟨e, hw⟩
  exact ⟨e, w, va_AO.moved (u := U) (Vm.Alike.refl U.vm) ha⟩
def XcN : String → State → State → Prop := fun _ _ _ => False
def RetC (l : Launch) (G : GX) (N N' : Nat) (M : MI) (rm : Nat × Nat × Nat × Nat) (av : List Value) (S : Nat → va_E) (K : GX → (Nat → va_E) → Prop) : Prop :=
  l.stackTraces = false → vx_Met l M.1 (wsM M) (rmR rm) (va_Pc av (PA G N S)) (QcC G N' K) XcN rm.2.2.1 rm.2.2.2 (AA G)
def OKmC (X : CX) (G0 : GX) (N' : Nat) (K : GX → (Nat → va_E) → Prop) (rm : Nat × Nat × Nat × Nat) : Prop :=
  X.2.2.2.2.2.2.2.2.2.2 = vx_MQ X.2.2.2.2.2.2.2.1 (QcC G0 N' K) XcN X.2.2.2.2.2.2.1 X.2.2.2.2.1 rm.2.2.1 rm.2.2.2 (AA G0) ∧ X.2.2.2.2.2.2.2.2.1.sig.returnType = none ∧ (∀ x ∈ X.2.2.2.2.2.2.2.2.2.1.exceptionTable.toList, False) ∧ X.2.2.2.2.2.2.2.2.1.name = "<init>"
theorem ret_enterC {l : Launch} {G : GX} {N N' : Nat} {M : MI} {rm : Nat × Nat × Nat × Nat} {av : List Value} {S : Nat → va_E} {K : GX → (Nat → va_E) → Prop} (hy : plainName M.1.cls = true) (hlen : (lg_sl av).length ≤ M.2.2.1) (hr : M.2.2.2 = none) (hi : M.1.name = "<init>")
    (body : ∀ X : CX, X.2.1 = l → OK X G N M.2.1 M.1.cls M.2.2.1 rm → OKmC X G N' K rm → va_AO RX1 X.2.2.2.2.1 → AW X G M.2.2.1 N 0 (lv_args 0 av) [] S 0 0) : RetC l G N N' M rm av S K := by
  intro hst
  refine vx_ofW (cc := M.2.1) (maxL := M.2.2.1) (ret := M.2.2.2) hy rfl ?_
  intro p e s m args below meth c s₁ B hml ht hv
  obtain ⟨rfl, ⟨⟨hP, hK, hB, hF⟩, hD⟩, hA⟩ := hv
  have hts : ∀ w ∈ wsM M, w.before av.toArray s = true := atoms_spec (ws := wsM M) B.pre
  have hown : s.vm.findClass M.1.cls = some m.cls := findClass_of_methodNamed B.named
  have hin : meth.name = "<init>" := (name_of_methodNamed B.named B.method).1.trans hi
  rw [lg_entry_eq]
  exact body (p, l, e, rmR rm, s, m, av.toArray, below, meth, c, vx_MQ below (QcC G N' K) XcN av.toArray s rm.2.2.1 rm.2.2.2 (AA G)) rfl
    ⟨B.exec, B.bytes, hml, hown, fun w hw => hts w (List.mem_cons_of_mem _ hw), hK, hB, B.notSynchronized, hst, hF, hD, Nat.le_refl _, Nat.le_refl _, Nat.le_refl _, Nat.le_refl _⟩
    ⟨rfl, B.returns.trans hr, ht, hin⟩ hA s.heap [] _ hP va_S.rf (lv_entry av hlen)
section GROW
variable {X : CX} {G G0 : GX} {cc : ByteArray} {own : String} {nL N N' pc pc' : Nat} {lo : List (Nat × Value)} {st : List Value} {S : Nat → va_E} {a b : Nat} {rm : Nat × Nat × Nat × Nat} {K : GX → (Nat → va_E) → Prop}
theorem r_returnC (h : OK X G N' cc own nL rm) (hm : OKmC X G0 N' K rm) (hE : gD G = gD G0 ∧ gB G = gB G0) (hd : decode cc pc = .ok (.return_, 1)) (ha : a ≤ rm.2.2.1) (hb : b ≤ rm.2.2.2) (hk : K G S) : AW X G nL N' pc lo [] S a b := by
  intro H locs ls hP hS hl
  have eA : AA G0 = AA G := by unfold AA; rw [hE.2]
  unfold xW
  rw [hm.1, eA]
  refine W.widen ha hb (vx_ret (W.vret h.1 h.2.1 hm.2.1 (fun t ht hW => ⟨G, S, rfl, hE.1, hE.2, by rw [ht, ← hE.1]; exact hP, hk, by rw [eA]; exact hS.F ht⟩) hS.2.2 hd h.2.2.2.2.2.2.2.1))
/-- a constructor's facts -/
def MC (y : MethodName) (bytes : ByteArray) (ml : Nat) : Prop := (Cond.instanceMethod y ∈ gw ∧ Cond.initialized y.cls ∈ gw ∧ Cond.code y bytes ml none ∈ gw) ∧ (y.cls ≠ "java/lang/invoke/MethodHandle" ∧ y.cls ≠ "java/lang/invoke/VarHandle") ∧ (parseMethodDescriptor y.desc).map (fun d => d.parameters.length) = some 0 ∧ y.name = "<init>"
theorem back_toC (h : OK X G N cc own nL rm) {M : MI} {rm' : Nat × Nat × Nat × Nat} {H : Heap} {locs : List Loc} {ls : Array Slot} {stk av : List Value} {T : State}
    (hS : va_S (AA G) X.2.2.2.2.1.heap H locs) (hl2 : lv_has ls nL lo) (hT : T.heap = H)
    (XX : Stand X.1 X.2.1 X.2.2.1 X.2.2.2.1 X.2.2.2.2.1 X.2.2.2.2.2.1 X.2.2.2.2.2.2.1 X.2.2.2.2.2.2.2.1 X.2.2.2.2.2.2.2.2.1 X.2.2.2.2.2.2.2.2.2.1 T locs a b)
    (run : vx_Run X.1 X.2.1 X.2.2.1 X.2.2.2.1 X.2.2.2.2.1 X.2.2.2.2.2.1 X.2.2.2.2.2.2.1 X.2.2.2.2.2.2.2.1 X.2.2.2.2.2.2.2.2.1 X.2.2.2.2.2.2.2.2.2.1 H locs a b rm'.2.2.1 rm'.2.2.2 (F0 X.2.2.2.2.2.1 pc ls stk) st (QcC G N' (fun G' S' => AW X G' nL N' (pc + 3) lo st S' (a + rm'.2.2.1) (b + rm'.2.2.2)) av.toArray) XcN (AA G)) :
    ∃ t, Steps X.1.tables X.2.2.1 X.2.2.2.2.2.2.2.1 (T.setTop (F0 X.2.2.2.2.2.1 pc ls stk)) t ∧ X.2.2.2.2.2.2.2.2.2.2 t := by
  rcases run T hT XX with ⟨v, st₀, t, T', L, h0, X', hL, e1, e2, ⟨G', S', hv, hg, hgB, hP', hK', hF⟩, stp⟩ | ⟨q, st₀, t, T', L, E, ce, h0, X', hL, e1, e2, hx, -⟩
  · cases hv
    obtain ⟨k1, k2, k3⟩ := vx_keep (A0 := AA G) h0 e1 hS (fun q _ hq => hq) (fun q hq => hq) hL hF
    have hK2 : AW X G' nL N' (pc + 3) lo st S' (a + rm'.2.2.1) (b + rm'.2.2.2) := hK'
    have eA : AA G' = AA G := by unfold AA; rw [hgB]
    obtain ⟨t2, a1, b1⟩ := hK2 T'.heap (locs ++ L) ls (by rw [e1, hg]; exact hP') (by rw [eA]; exact k3) hl2 T' rfl X'
    exact ⟨t2, stp t2 a1, b1⟩
  · exact absurd hx (fun z => z)
/-- a constructor is called -/
theorem r_callC (h : OK X G N cc own nL rm) (hA : va_AO RX1 X.2.2.2.2.1) {y : MethodName} {bytes : ByteArray} {ml index k : Nat} {rm' : Nat × Nat × Nat × Nat} (hd : decode cc pc = .ok (.invokespecial index, 3)) (hp : pc + 3 = pc') (hl : Cond.methodLink own index y ∈ gw) (hM : MC y bytes ml) (hW : (st.map fun v => v.category).sum ≤ 8) (hr : RR rm rm' ml a b)
    (hcall : RetC X.2.1 G N N' (y, bytes, ml, none) rm' [.ref (ad G k)] S (fun G' S' => AW X G' nL N' pc' lo st S' (a + rm'.2.2.1) (b + rm'.2.2.2))) : AW X G nL N pc lo (.ref (ad G k) :: st) S a b := by
  subst hp
  intro H locs ls hP hS hl2
  have hts := h.2.2.2.2.1
  intro T hT XX
  refine back_toC (N' := N') (st := st) (M := (y, bytes, ml, none)) (rm' := rm') (av := [.ref (ad G k)]) h hS hl2 hT XX ?_
  exact vx_runI (Ts := gw) (cc := cc) (nL := nL) (own := own) (n := 0) (bytes := bytes) (maxL := ml) (ws := wsM (y, bytes, ml, none)) (rm := rmR rm') (As := []) (b := ad G k) (Pc := va_Pc [.ref (ad G k)] (PA G N S)) ⟨h.1, h.2.1, h.2.2.1, h.2.2.2.1, hts⟩ (hcall h.2.2.2.2.2.2.2.2.1)
    ⟨callB_of 0 hts (wsM_in (M := (y, bytes, ml, none)) hM.1.2.2) rfl rfl rfl (hts _ hM.1.2.1) (hts _ hl) ⟨hM.2.1.1, hM.2.1.2, hM.2.2.1⟩ ⟨Nat.le_trans hr.1 h.2.2.2.2.2.2.2.2.2.2.2.1, Nat.le_trans hr.2.1 h.2.2.2.2.2.2.2.2.2.2.2.2.1⟩, hM.2.2.2, hts _ hM.1.1⟩
    ⟨PA.blind, fun U hU hW => ⟨(pw_pre (av := [.ref (ad G k)]) h hP hS U hU hW).1, (pw_pre (av := [.ref (ad G k)]) h hP hS U hU hW).2, hA.moved hW.alike⟩⟩ rfl rfl hl2.1 rfl (lv_room hW) hd ⟨Nat.le_trans hr.2.2.1 h.2.2.2.2.2.2.2.2.2.2.2.2.2.1, Nat.le_trans hr.2.2.2 h.2.2.2.2.2.2.2.2.2.2.2.2.2.2⟩
/-- a nest mate's -/
theorem r_callCN (h : OK X G N cc own nL rm) (hA : va_AO RX1 X.2.2.2.2.1) {y : MethodName} {bytes : ByteArray} {ml index k : Nat} {host : String} {rm' : Nat × Nat × Nat × Nat} (hd : decode cc pc = .ok (.invokespecial index, 3)) (hp : pc + 3 = pc') (hl : Cond.methodLinkNest own index y host ∈ nw) (hM : MC y bytes ml) (hW : (st.map fun v => v.category).sum ≤ 8) (hr : RR rm rm' ml a b)
    (hcall : RetC X.2.1 G N N' (y, bytes, ml, none) rm' [.ref (ad G k)] S (fun G' S' => AW X G' nL N' pc' lo st S' (a + rm'.2.2.1) (b + rm'.2.2.2))) : AW X G nL N pc lo (.ref (ad G k) :: st) S a b := by
  subst hp
  intro H locs ls hP hS hl2
  have hts := h.2.2.2.2.1
  intro T hT XX
  refine back_toC (N' := N') (st := st) (M := (y, bytes, ml, none)) (rm' := rm') (av := [.ref (ad G k)]) h hS hl2 hT XX ?_
  refine vx_runIN (Ts := gw) (cc := cc) (nL := nL) (own := own) (host := host) (n := 0) (bytes := bytes) (maxL := ml) (ws := wsM (y, bytes, ml, none)) (rm := rmR rm') (As := []) (b := ad G k) (Pc := va_Pc [.ref (ad G k)] (PA G N S)) ⟨h.1, h.2.1, h.2.2.1, h.2.2.2.1, hts⟩ (hcall h.2.2.2.2.2.2.2.2.1)
    ⟨⟨⟨rfl, rfl, Nat.le_trans hr.1 h.2.2.2.2.2.2.2.2.2.2.2.1, Nat.le_trans hr.2.1 h.2.2.2.2.2.2.2.2.2.2.2.2.1, pay_in hts (wsM_in (M := (y, bytes, ml, none)) hM.1.2.2), List.mem_cons_self⟩, hts _ hM.1.2.2, hts _ hM.1.2.1, hM.2.1, fun sig hsig => ?_, va_Nw.use rfl (h.2.2.2.2.2.2.2.2.2.1.2.2.2.2.2.2.1 _ hl)⟩, hM.2.2.2, hts _ hM.1.1⟩
    ⟨PA.blind, fun U hU hW => ⟨(pw_pre (av := [.ref (ad G k)]) h hP hS U hU hW).1, (pw_pre (av := [.ref (ad G k)]) h hP hS U hU hW).2, hA.moved hW.alike⟩⟩ rfl rfl hl2.1 rfl (lv_room hW) hd ⟨Nat.le_trans hr.2.2.1 h.2.2.2.2.2.2.2.2.2.2.2.2.2.1, Nat.le_trans hr.2.2.2 h.2.2.2.2.2.2.2.2.2.2.2.2.2.2⟩
  have h2 := hM.2.2.1
  rw [hsig] at h2
  exact (Option.some.inj h2).symm
/-- a new array of references -/
theorem r_newq (h : OK X G N cc own nL rm) {C : String} {cA : ClassId} {index k : Nat} {n : Int32} {m : Nat} (hd : decode cc pc = .ok (.anewarray index, 3)) (hp : pc + 3 = pc') (ht : (tys G)[k]? = some (cA, .object C)) (hl : Cond.classLink own index C ∈ gw) (hov : va_AO C X.2.2.2.2.1)
    (hn : ¬ n < 0) (hN : n.toNatClampNeg = m) (hby : m * 4 ≤ 536870912) (ha : a + 1 ≤ rm.2.2.1) (hb : b + m ≤ rm.2.2.2)
    (kk : ∀ q, DD (gN G N q) (N + 1) → AW X (gN G N q) nL (N + 1) pc' lo (.ref q :: st) (va_up S N (.inl (cA, m, .inr (.inr (.inr (.inr (fun _ => none))))))) (a + 1) (b + m)) : AW X G nL N pc lo (.int n :: st) S a b := by
  subst hp
  intro H locs ls hP hS hl2
  refine va_newq h.1 h.2.1 h.2.2.2.1 (h.2.2.2.2.1 _ hl) hov h.2.2.2.2.2.1 hP h.2.2.2.2.2.2.2.2.2.2.1.D hS (fun q hq => Nat.le_trans h.2.2.2.2.2.2.1 hq) hn hN hby (Nat.le_trans ha h.2.2.2.2.2.2.2.2.2.2.2.2.2.1) (Nat.le_trans hb h.2.2.2.2.2.2.2.2.2.2.2.2.2.2) hd (fun q cB H1 hK1 hP1 hD1 hS1 => ?_)
  have e := K_same hK1 ht
  subst e
  rw [wl_push] at hP1 hD1
  exact kk q (DD.of hD1) H1 locs ls hP1 hS1 hl2
end GROW
