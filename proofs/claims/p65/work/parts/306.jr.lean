/-! RULES for the JDK's own methods: bytes, copies, digits; contracts of methods that make cells and hand them back. -/
/-- behind a call from which no throw comes -/
def KL (X : CX) (G : GX) (nL N pc' : Nat) (lo : List (Nat × Value)) (st : List Value) (a b : Nat) : RK := fun o S' => match o with
  | .inl none => AW X G nL N pc' lo st S' a b
  | .inl (some v) => AW X G nL N pc' lo (v :: st) S' a b
  | .inr _ => False
theorem K_int {X : CX} {G : GX} {nL N pc' : Nat} {lo : List (Nat × Value)} {st : List Value} {a b : Nat} {S' : Nat → va_E} {v : Value} (k : AW X G nL N pc' lo (v :: st) S' a b) : KL X G nL N pc' lo st a b (.inl (some v)) S' := k
theorem K_nil {X : CX} {G : GX} {nL N pc' : Nat} {lo : List (Nat × Value)} {st : List Value} {a b : Nat} {S' : Nat → va_E} (k : AW X G nL N pc' lo st S' a b) : KL X G nL N pc' lo st a b (.inl none) S' := k
/-! the world grows -/
/-- the same run, places kept below N -/
def Ext (G G' : GX) (N : Nat) : Prop := gD G' = gD G ∧ gB G' = gB G ∧ G'.2.2.1 = G.2.2.1 ∧ gK G' = gK G ∧ gV G' = gV G ∧ ∀ k, k < N → ad G' k = ad G k
theorem Ext.rf (G : GX) (N : Nat) : Ext G G N := ⟨rfl, rfl, rfl, rfl, rfl, fun _ _ => rfl⟩
theorem Ext.tr' {A C E : GX} {N N' : Nat} (h : Ext A C N) (k : Ext C E N') (hn : N ≤ N') : Ext A E N := ⟨k.1.trans h.1, k.2.1.trans h.2.1, k.2.2.1.trans h.2.2.1, k.2.2.2.1.trans h.2.2.2.1, k.2.2.2.2.1.trans h.2.2.2.2.1, fun i hi => (k.2.2.2.2.2 i (by omega)).trans (h.2.2.2.2.2 i hi)⟩
theorem Ext.le {A C : GX} {N N' : Nat} (h : Ext A C N) (hn : N' ≤ N) : Ext A C N' := ⟨h.1, h.2.1, h.2.2.1, h.2.2.2.1, h.2.2.2.2.1, fun i hi => h.2.2.2.2.2 i (by omega)⟩
theorem ad_new (G : GX) (N q : Nat) : ad (gN G N q) N = q := if_pos rfl
theorem ad_old (G : GX) {N q k : Nat} (h : k < N) : ad (gN G N q) k = ad G k := if_neg (by omega)
theorem Ext_gN (G : GX) (N q : Nat) : Ext G (gN G N q) N := ⟨rfl, rfl, rfl, rfl, rfl, fun _ h => ad_old G h⟩
theorem Ext.ad {G G' : GX} {N k : Nat} (h : Ext G G' N) (hk : k < N) : ad G' k = ad G k := h.2.2.2.2.2 k hk
theorem ext_gJ {G G' : GX} {N : Nat} (h : Ext G G' N) : gJ G' = gJ G := by
  unfold gJ
  rw [h.2.2.1]
theorem Ext.eq {G G' : GX} {N : Nat} (h : Ext G G' N) : G' = (G.1, G.2.1, G.2.2.1, G.2.2.2.1, G.2.2.2.2.1, G'.2.2.2.2.2) := by
  obtain ⟨g1, g2, g3, g4, g5, g6⟩ := G'
  obtain ⟨h1, h2, h3, h4, h5, -⟩ := h
  have e1 : g1 = G.1 := h1
  have e2 : g2 = G.2.1 := h2
  have e3 : g3 = G.2.2.1 := h3
  have e4 : g4 = G.2.2.2.1 := h4
  have e5 : g5 = G.2.2.2.2.1 := h5
  rw [e1, e2, e3, e4, e5]
theorem OK.grow {X : CX} {G G' : GX} {N N' : Nat} {cc : ByteArray} {own : String} {nL : Nat} {rm : Nat × Nat × Nat × Nat} (h : OK X G N cc own nL rm) (hE : Ext G G' N) (hD : DD G' N') : OK X G' N' cc own nL rm := by
  have e := hE.eq
  generalize G'.2.2.2.2.2 = f at e
  subst e
  exact ⟨h.1, h.2.1, h.2.2.1, h.2.2.2.1, h.2.2.2.2.1, h.2.2.2.2.2.1, h.2.2.2.2.2.2.1, h.2.2.2.2.2.2.2.1, h.2.2.2.2.2.2.2.2.1, h.2.2.2.2.2.2.2.2.2.1, hD, h.2.2.2.2.2.2.2.2.2.2.2⟩
/-- how a method ends that made cells and hands them back -/
def QcX (G : GX) (N' : Nat) (K : Option Value → GX → (Nat → va_E) → Prop) : Array Value → State → Outcome → State → Prop := fun _ st o t =>
  ∃ (G' : GX) (S' : Nat → va_E) (v : Option Value), o = .returned v ∧ gD G' = gD G ∧ gB G' = gB G ∧ va_P (gD G) cls (wl G' N' S') t.heap ∧ K v G' S' ∧ va_F (AA G) st t
def XcX : String → State → State → Prop := fun _ _ _ => False
def RetX (l : Launch) (G : GX) (N N' : Nat) (M : MI) (rm : Nat × Nat × Nat × Nat) (av : List Value) (S : Nat → va_E) (K : Option Value → GX → (Nat → va_E) → Prop) : Prop :=
  l.stackTraces = false → vx_Met l M.1 (wsM M) (rmR rm) (va_Pc av (PW G N S)) (QcX G N' K) XcX rm.2.2.1 rm.2.2.2 (AA G)
def OKmX (X : CX) (G0 : GX) (N' : Nat) (K : Option Value → GX → (Nat → va_E) → Prop) (ret : Option FieldType) (nm : String) (rm : Nat × Nat × Nat × Nat) : Prop :=
  X.2.2.2.2.2.2.2.2.2.2 = vx_MQ X.2.2.2.2.2.2.2.1 (QcX G0 N' K) XcX X.2.2.2.2.2.2.1 X.2.2.2.2.1 rm.2.2.1 rm.2.2.2 (AA G0) ∧ X.2.2.2.2.2.2.2.2.1.sig.returnType = ret ∧ (∀ x ∈ X.2.2.2.2.2.2.2.2.2.1.exceptionTable.toList, False) ∧ X.2.2.2.2.2.2.2.2.1.name = nm
theorem ret_enterX {l : Launch} {G : GX} {N N' : Nat} {M : MI} {rm : Nat × Nat × Nat × Nat} {av : List Value} {S : Nat → va_E} {K : Option Value → GX → (Nat → va_E) → Prop} (hy : plainName M.1.cls = true) (hlen : (lg_sl av).length ≤ M.2.2.1)
    (body : ∀ X : CX, X.2.1 = l → OK X G N M.2.1 M.1.cls M.2.2.1 rm → OKmX X G N' K M.2.2.2 M.1.name rm → AW X G M.2.2.1 N 0 (lv_args 0 av) [] S 0 0) : RetX l G N N' M rm av S K := by
  intro hst
  refine vx_ofW (cc := M.2.1) (maxL := M.2.2.1) (ret := M.2.2.2) hy rfl ?_
  intro p e s m args below meth c s₁ B hml ht hv
  obtain ⟨rfl, ⟨hP, hK, hB, hF⟩, hD⟩ := hv
  have hts : ∀ w ∈ wsM M, w.before av.toArray s = true := atoms_spec (ws := wsM M) B.pre
  have hown : s.vm.findClass M.1.cls = some m.cls := findClass_of_methodNamed B.named
  have hin : meth.name = M.1.name := (name_of_methodNamed B.named B.method).1
  rw [lg_entry_eq]
  exact body (p, l, e, rmR rm, s, m, av.toArray, below, meth, c, vx_MQ below (QcX G N' K) XcX av.toArray s rm.2.2.1 rm.2.2.2 (AA G)) rfl
    ⟨B.exec, B.bytes, hml, hown, fun w hw => hts w (List.mem_cons_of_mem _ hw), hK, hB, B.notSynchronized, hst, hF, hD, Nat.le_refl _, Nat.le_refl _, Nat.le_refl _, Nat.le_refl _⟩
    ⟨rfl, B.returns, ht, hin⟩ s.heap [] _ hP va_S.rf (lv_entry av hlen)
theorem ra_of {U : State} {cA : ClassId} {ty : FieldType} (h : va_RA U cA ty) : U.vm.findClass ("[" ++ ty.toString) = some cA := by
  cases ty with
  | object C =>
    obtain ⟨kA, comp, -, -, -, h4⟩ := h
    exact h4
  | _ => exact h
theorem K_same {D : va_G} {cl : List vw_C} {tys : List (ClassId × FieldType)} {U : State} {ty : FieldType} {cA cB : ClassId} {k : Nat} (h : va_K D cl (tys ++ [(cB, ty)]) U) (hk : tys[k]? = some (cA, ty)) : cB = cA := by
  have hl : k < tys.length := (List.getElem?_eq_some_iff.mp hk).1
  have e1 := ra_of (h.2 k (cA, ty) (by rw [List.getElem?_append_left hl]; exact hk)).2
  have e2 := ra_of (h.2 tys.length (cB, ty) (by rw [List.getElem?_append_right (Nat.le_refl _), Nat.sub_self]; rfl)).2
  exact Option.some.inj (e2.symm.trans e1)
theorem cpN : Cond.native arraycopyName ∈ gw := gw_in (tb_5 120 (by decide +kernel)) (by decide +kernel)
theorem cpS : Cond.static arraycopyName ∈ gw := gw_in (tb_5 119 (by decide +kernel)) (by decide +kernel)
theorem cpI : Cond.initialized "java/lang/System" ∈ gw := gw_in (tb_1 23 (by decide +kernel)) (by decide +kernel)
theorem iObj : Cond.instanceMethod objectInit ∈ gw := gw_in (tb_1 33 (by decide +kernel)) (by decide +kernel)
theorem cObj : Cond.code objectInit ⟨#[0xb1]⟩ 1 none ∈ gw := gw_in (tb_1 34 (by decide +kernel)) (by decide +kernel)
theorem aInt : Cond.arrayClass .int ∈ gw := gw_in (tb_1 114 (by decide +kernel)) (by decide +kernel)
theorem aChar : Cond.arrayClass .char ∈ gw := gw_in (tb_1 154 (by decide +kernel)) (by decide +kernel)
theorem aByte : Cond.arrayClass .byte ∈ gw := gw_in (tb_2 47 (by decide +kernel)) (by decide +kernel)
section JR
variable {X : CX} {G G0 : GX} {cc : ByteArray} {own : String} {nL N N' pc pc' : Nat} {lo : List (Nat × Value)} {st stk : List Value} {S : Nat → va_E} {a b : Nat} {rm : Nat × Nat × Nat × Nat} {K : RK} {KX : Option Value → GX → (Nat → va_E) → Prop} {ret : Option FieldType} {nm : String}
theorem r_ishl (h : OK X G N cc own nL rm) {x y : Int32} (hd : decode cc pc = .ok (.ishl, 1)) (hp : pc + 1 = pc') (kk : AW X G nL N pc' lo (.int (x <<< (y &&& 31)) :: st) S a b) : AW X G nL N pc lo (.int y :: .int x :: st) S a b := by
  subst hp
  intro H locs ls hP hS hl
  exact lv_ishl h.1 h.2.1 hd (kk H locs ls hP hS hl)
theorem r_iushr (h : OK X G N cc own nL rm) {x y v : Int32} (hd : decode cc pc = .ok (.iushr, 1)) (hp : pc + 1 = pc') (hv : (x.toUInt32 >>> (y.toUInt32 &&& Int32.toUInt32 31)).toInt32 = v) (kk : AW X G nL N pc' lo (.int v :: st) S a b) : AW X G nL N pc lo (.int y :: .int x :: st) S a b := by
  subst hp
  intro H locs ls hP hS hl
  exact lv_iushr h.1 h.2.1 hd hv (kk H locs ls hP hS hl)
theorem r_bald (h : OK X G N cc own nL rm) {k n : Nat} {f : Nat → Int32} {i : Int32} (hd : decode cc pc = .ok (.baload, 1)) (hp : pc + 1 = pc') (hk : k < N) (hc : S k = .inl (gJ G, n, .inl f)) (hin : vp_in i n) (kk : AW X G nL N pc' lo (.int (f i.toNatClampNeg) :: st) S a b) : AW X G nL N pc lo (.int i :: .ref (ad G k) :: st) S a b := by
  subst hp
  intro H locs ls hP hS hl
  exact va_bald h.1 h.2.1 h.2.2.2.2.2.1 hP k 2 (by rw [wl_get hk, hc]) rfl hin hd (kk H locs ls hP hS hl)
theorem r_bast (h : OK X G N cc own nL rm) {k n : Nat} {f : Nat → Int32} {i x : Int32} (hd : decode cc pc = .ok (.bastore, 1)) (hp : pc + 1 = pc') (hk : k < N) (hc : S k = .inl (gJ G, n, .inl f)) (hin : vp_in i n) (kk : AW X G nL N pc' lo st (va_up S k (.inl (gJ G, n, .inl (upd f i.toNatClampNeg (vp_nar .byte x))))) a b) : AW X G nL N pc lo (.int x :: .int i :: .ref (ad G k) :: st) S a b := by
  subst hp
  intro H locs ls hP hS hl
  exact va_bast h.1 h.2.1 h.2.2.2.2.2.1 hP h.2.2.2.2.2.2.2.2.2.2.1.D hS k 2 (by rw [wl_get hk, hc]) rfl hin hd (fun H1 locs1 hP1 _ hS1 => kk H1 locs1 ls (by rw [wl_set] at hP1; exact hP1) hS1 hl)
/-- a table of digits is pushed; an element of it -/
theorem r_getD1 (h : OK X G N cc own nL rm) {index : Nat} (hd : decode cc pc = .ok (.getstatic index, 3)) (hp : pc + 3 = pc') (hl : Cond.fieldLink own index "java/lang/Integer" "DigitOnes" "[B" ∈ gw) (kk : ∀ t : Nat, va_T .byte t 100 (fun j => .int (dOne j)) (AA G) X.2.2.2.2.1 X.2.2.2.2.1.heap → AW X G nL N pc' lo (.ref t :: st) S a b) : AW X G nL N pc lo st S a b := by
  subst hp
  intro H locs ls hP hS hl2
  obtain ⟨t, h1, h2⟩ := h.2.2.2.2.2.2.2.2.2.1.2.2.2.2.2.2.2.1
  exact va_gets h.1 h.2.1 h1 hS h.2.2.2.1 (h.2.2.2.2.1 _ hl) (fun _ e => e) hd (kk t h2 H locs ls hP hS hl2)
theorem r_getDT (h : OK X G N cc own nL rm) {index : Nat} (hd : decode cc pc = .ok (.getstatic index, 3)) (hp : pc + 3 = pc') (hl : Cond.fieldLink own index "java/lang/Integer" "DigitTens" "[B" ∈ gw) (kk : ∀ t : Nat, va_T .byte t 100 (fun j => .int (dTen j)) (AA G) X.2.2.2.2.1 X.2.2.2.2.1.heap → AW X G nL N pc' lo (.ref t :: st) S a b) : AW X G nL N pc lo st S a b := by
  subst hp
  intro H locs ls hP hS hl2
  obtain ⟨t, h1, h2⟩ := h.2.2.2.2.2.2.2.2.2.1.2.2.2.2.2.2.2.2.1
  exact va_gets h.1 h.2.1 h1 hS h.2.2.2.1 (h.2.2.2.2.1 _ hl) (fun _ e => e) hd (kk t h2 H locs ls hP hS hl2)
theorem r_baldT (h : OK X G N cc own nL rm) {t : Nat} {f : Nat → Int32} {x : Int32} (hT : va_T .byte t 100 (fun j => .int (f j)) (AA G) X.2.2.2.2.1 X.2.2.2.2.1.heap) (hin : vp_in x 100) (hd : decode cc pc = .ok (.baload, 1)) (hp : pc + 1 = pc') (kk : AW X G nL N pc' lo (.int (f x.toNatClampNeg) :: st) S a b) : AW X G nL N pc lo (.int x :: .ref t :: st) S a b := by
  subst hp
  intro H locs ls hP hS hl2
  exact va_tb h.1 h.2.1 hT hS hin rfl hd (kk H locs ls hP hS hl2)
/-- System.arraycopy between two rows of bytes of the world -/
theorem r_copyW (h : OK X G N cc own nL rm) {index k0 k1 n0 n1 : Nat} {f g : Nat → Int32} {sp dp n : Int32} (hd : decode cc pc = .ok (.invokestatic index, 3)) (hp : pc + 3 = pc') (hl : Cond.methodLink own index arraycopyName ∈ gw) (hk0 : k0 < N) (hk1 : k1 < N) (hc0 : S k0 = .inl (gJ G, n0, .inl f)) (hc1 : S k1 = .inl (gJ G, n1, .inl g)) (h1 : ¬ sp < 0) (h2 : ¬ dp < 0) (h3 : ¬ n < 0) (h4 : sp.toNatClampNeg + n.toNatClampNeg ≤ n0) (h5 : dp.toNatClampNeg + n.toNatClampNeg ≤ n1) (hfit : ∀ i, i < n.toNatClampNeg → fits .byte (.int (f (sp.toNatClampNeg + i))) = true) (hr : 1 ≤ rm.1 ∧ (st.map fun v => v.category).sum + 18 ≤ rm.2.1)
    (kk : AW X G nL N pc' lo st (va_up S k1 (.inl (gJ G, n1, .inl (va_cpy f g sp.toNatClampNeg dp.toNatClampNeg n.toNatClampNeg)))) a b) : AW X G nL N pc lo (.int n :: .int dp :: .ref (ad G k1) :: .int sp :: .ref (ad G k0) :: st) S a b := by
  subst hp
  intro H locs ls hP hS hl2
  have hts := h.2.2.2.2.1
  exact va_copyi h.1 h.2.1 (h.2.2.1.trans hl2.1.symm) h.2.2.2.1 (hts _ hl) (hts _ cpN) (hts _ cpS) (hts _ cpI) h.2.2.2.2.2.1 hP h.2.2.2.2.2.2.2.2.2.2.1.D hS k0 k1 2 2 (by rw [wl_get hk0, hc0]) (by rw [wl_get hk1, hc1]) rfl rfl rfl h1 h2 h3 h4 h5 hfit (Nat.le_trans hr.1 h.2.2.2.2.2.2.2.2.2.2.2.1) (Nat.le_trans hr.2 h.2.2.2.2.2.2.2.2.2.2.2.2.1) hd (fun H1 locs1 hP1 _ hS1 => kk H1 locs1 ls (by rw [wl_set] at hP1; exact hP1) hS1 hl2)
/-- of a String constant's row into a row of bytes of the world -/
theorem r_copyK (h : OK X G N cc own nL rm) {index i k1 n1 : Nat} {g : Nat → Int32} {sp dp n : Int32} (hi : i < 9) (hd : decode cc pc = .ok (.invokestatic index, 3)) (hp : pc + 3 = pc') (hl : Cond.methodLink own index arraycopyName ∈ gw) (hk1 : k1 < N) (hc1 : S k1 = .inl (gJ G, n1, .inl g)) (h1 : ¬ sp < 0) (h2 : ¬ dp < 0) (h3 : ¬ n < 0) (h4 : sp.toNatClampNeg + n.toNatClampNeg ≤ lenS.getD i 0) (h5 : dp.toNatClampNeg + n.toNatClampNeg ≤ n1) (hfit : ∀ j, j < n.toNatClampNeg → fits .byte (.int ((bytS.getD i []).getD (sp.toNatClampNeg + j) 0)) = true) (hr : 1 ≤ rm.1 ∧ (st.map fun v => v.category).sum + 18 ≤ rm.2.1)
    (kk : AW X G nL N pc' lo st (va_up S k1 (.inl (gJ G, n1, .inl (va_cpy (fun j => (bytS.getD i []).getD j 0) g sp.toNatClampNeg dp.toNatClampNeg n.toNatClampNeg)))) a b) : AW X G nL N pc lo (.int n :: .int dp :: .ref (ad G k1) :: .int sp :: .ref (gV G i) :: st) S a b := by
  subst hp
  intro H locs ls hP hS hl2
  have hts := h.2.2.2.2.1
  exact vk_copyt h.1 h.2.1 (h.2.2.1.trans hl2.1.symm) h.2.2.2.1 (hts _ hl) (hts _ cpN) (hts _ cpS) (hts _ cpI) h.2.2.2.2.2.1 hP h.2.2.2.2.2.2.2.2.2.2.1.D hS (f := fun j => (bytS.getD i []).getD j 0) (h.sf.kS.1 i hi).2.2.2 k1 2 (by rw [wl_get hk1, hc1]) rfl h1 h2 h3 h4 h5 hfit (Nat.le_trans hr.1 h.2.2.2.2.2.2.2.2.2.2.2.1) (Nat.le_trans hr.2 h.2.2.2.2.2.2.2.2.2.2.2.2.1) hd (fun H1 locs1 hP1 _ hS1 => kk H1 locs1 ls (by rw [wl_set] at hP1; exact hP1) hS1 hl2)
/-- ends of a method that made cells -/
theorem r_returnX (h : OK X G N' cc own nL rm) (hm : OKmX X G0 N' KX none nm rm) (hE : gD G = gD G0 ∧ gB G = gB G0) (hd : decode cc pc = .ok (.return_, 1)) (ha : a ≤ rm.2.2.1) (hb : b ≤ rm.2.2.2) (hk : KX none G S) : AW X G nL N' pc lo [] S a b := by
  intro H locs ls hP hS hl
  have eA : AA G0 = AA G := by unfold AA; rw [hE.2]
  unfold xW
  rw [hm.1, eA]
  refine W.widen ha hb (vx_ret (W.vret h.1 h.2.1 hm.2.1 (fun t ht hW => ⟨G, S, _, rfl, hE.1, hE.2, by rw [ht, ← hE.1]; exact hP, hk, by rw [eA]; exact hS.F ht⟩) hS.2.2 hd h.2.2.2.2.2.2.2.1))
theorem r_areturnX (h : OK X G N' cc own nL rm) {ty : FieldType} (hm : OKmX X G0 N' KX (some ty) nm rm) (hty : (∃ n, ty = .object n) ∨ ∃ t, ty = .array t) {q : Nat} (hE : gD G = gD G0 ∧ gB G = gB G0) (hd : decode cc pc = .ok (.areturn, 1)) (ha : a ≤ rm.2.2.1) (hb : b ≤ rm.2.2.2) (hk : KX (some (.ref q)) G S) : AW X G nL N' pc lo [.ref q] S a b := by
  intro H locs ls hP hS hl
  have eA : AA G0 = AA G := by unfold AA; rw [hE.2]
  unfold xW
  rw [hm.1, eA]
  refine W.widen ha hb (vx_ret (W.aret h.1 h.2.1 hm.2.1 hty (Or.inr ⟨_, rfl⟩) (fun t ht hW => ⟨G, S, _, rfl, hE.1, hE.2, by rw [ht, ← hE.1]; exact hP, hk, by rw [eA]; exact hS.F ht⟩) hS.2.2 hd h.2.2.2.2.2.2.2.1))
theorem r_areturnA (h : OK X G N cc own nL rm) {ty : FieldType} (hm : OKm X G N K (some (.array ty)) rm) {v : Value} (hd : decode cc pc = .ok (.areturn, 1)) (ha : a ≤ rm.2.2.1) (hb : b ≤ rm.2.2.2) (hv : v = .null ∨ ∃ a, v = .ref a) (hk : K (.inl (some v)) S) : AW X G nL N pc lo [v] S a b := by
  intro H locs ls hP hS hl
  unfold xW
  rw [hm.1]
  refine W.widen ha hb (vx_ret (W.aret h.1 h.2.1 hm.2.1 (Or.inr ⟨ty, rfl⟩) hv (fun t ht hW => ⟨_, S, rfl, by rw [ht]; exact hP, hk, hS.F ht⟩) hS.2.2 hd h.2.2.2.2.2.2.2.1))
/-- Object's constructor -/
theorem r_obj (h : OK X G N cc own nL rm) {index k : Nat} (hd : decode cc pc = .ok (.invokespecial index, 3)) (hp : pc + 3 = pc') (hl : Cond.methodLink own index objectInit ∈ gw) (hi : Cond.instanceMethod objectInit ∈ gw) (hc : Cond.code objectInit ⟨#[0xb1]⟩ 1 none ∈ gw) (hf : 1 ≤ rm.1) (hW : (st.map fun v => v.category).sum + 12 ≤ rm.2.1) (kk : AW X G nL N pc' lo st S a b) : AW X G nL N pc lo (.ref k :: st) S a b := by
  subst hp
  intro H locs ls hP hS hl2
  have hts := h.2.2.2.2.1
  refine W.objInit h.1 h.2.1 h.2.2.2.1 (hts _ hl) (hts _ hi) (hts _ hc) rfl (by rw [h.2.2.1]; exact hl2.1) rfl hd (Nat.le_trans hf h.2.2.2.2.2.2.2.2.2.2.2.1) ?_ ?_
  · refine Nat.le_trans ?_ h.2.2.2.2.2.2.2.2.2.2.2.2.1
    show 2 * 0 + _ + 12 ≤ rm.2.1
    omega
  · exact kk H locs ls hP hS hl2
/-- calls from which no throw comes -/
theorem back_toL (h : OK X G N cc own nL rm) {rm' : Nat × Nat × Nat × Nat} {H : Heap} {locs : List Loc} {ls : Array Slot} {av : List Value} {T : State}
    (hS : va_S (AA G) X.2.2.2.2.1.heap H locs) (hl2 : lv_has ls nL lo) (hT : T.heap = H)
    (XX : Stand X.1 X.2.1 X.2.2.1 X.2.2.2.1 X.2.2.2.2.1 X.2.2.2.2.2.1 X.2.2.2.2.2.2.1 X.2.2.2.2.2.2.2.1 X.2.2.2.2.2.2.2.2.1 X.2.2.2.2.2.2.2.2.2.1 T locs a b)
    (run : vx_Run X.1 X.2.1 X.2.2.1 X.2.2.2.1 X.2.2.2.2.1 X.2.2.2.2.2.1 X.2.2.2.2.2.2.1 X.2.2.2.2.2.2.2.1 X.2.2.2.2.2.2.2.2.1 X.2.2.2.2.2.2.2.2.2.1 H locs a b rm'.2.2.1 rm'.2.2.2 (F0 X.2.2.2.2.2.1 pc ls stk) st (QcK G N (KL X G nL N (pc + 3) lo st (a + rm'.2.2.1) (b + rm'.2.2.2)) av.toArray) (XcK G N (KL X G nL N (pc + 3) lo st (a + rm'.2.2.1) (b + rm'.2.2.2))) (AA G)) :
    ∃ t, Steps X.1.tables X.2.2.1 X.2.2.2.2.2.2.2.1 (T.setTop (F0 X.2.2.2.2.2.1 pc ls stk)) t ∧ X.2.2.2.2.2.2.2.2.2.2 t := by
  rcases run T hT XX with ⟨v, st₀, t, T', L, h0, X', hL, e1, e2, ⟨v', S', hv, hP', hK', hF⟩, stp⟩ | ⟨q, st₀, t, T', L, E, ce, h0, X', hL, e1, e2, ⟨S', hP', hK', hF⟩, hce, hcv, hcl, stp⟩
  · cases hv
    obtain ⟨k1, k2, k3⟩ := vx_keep (A0 := AA G) h0 e1 hS (fun q _ hq => hq) (fun q hq => hq) hL hF
    cases v with
    | none =>
      have hK2 : AW X G nL N (pc + 3) lo _ S' (a + rm'.2.2.1) (b + rm'.2.2.2) := hK'
      obtain ⟨t2, a1, b1⟩ := hK2 T'.heap (locs ++ L) ls (by rw [e1]; exact hP') k3 hl2 T' rfl X'
      exact ⟨t2, stp t2 a1, b1⟩
    | some v =>
      have hK2 : AW X G nL N (pc + 3) lo (v :: _) S' (a + rm'.2.2.1) (b + rm'.2.2.2) := hK'
      obtain ⟨t2, a1, b1⟩ := hK2 T'.heap (locs ++ L) ls (by rw [e1]; exact hP') k3 hl2 T' rfl X'
      exact ⟨t2, stp t2 a1, b1⟩
  · exact absurd (show False from hK') (fun z => z)
theorem r_callVL (h : OK X G N cc own nL rm) {M : MI} {rm' : Nat × Nat × Nat × Nat} {index n k ci Nf : Nat} {C : String} {Tf : u_T} {fs As : List Value} (hd : decode cc pc = .ok (.invokevirtual index, 3)) (hp : pc + 3 = pc')
    (hl : Cond.methodLink own index M.1 ∈ gw) (hM : MV M n C) (hcl : cls[ci]? = some (C, Tf, Nf)) (hk : k < N) (hc : S k = .inr (ci, fs)) (hn : As.length = n) (hs : stk = As.reverse ++ .ref (ad G k) :: st) (hW : (st.map fun v => v.category).sum ≤ 8) (hr : RR rm rm' M.2.2.1 a b)
    (hcall : RetK X.2.1 G N M rm' (.ref (ad G k) :: As) S (KL X G nL N pc' lo st (a + rm'.2.2.1) (b + rm'.2.2.2))) : AW X G nL N pc lo stk S a b := by
  subst hp
  subst hs
  intro H locs ls hP hS hl2
  have hts := h.2.2.2.2.1
  intro T hT XX
  refine back_toL (rm' := rm') (st := st) (av := .ref (ad G k) :: As) h hS hl2 hT XX ?_
  exact vx_runV (Ts := gw) (cc := cc) (nL := nL) (own := own) (C := C) (n := n) (bytes := M.2.1) (maxL := M.2.2.1) (ret := M.2.2.2) (ws := wsM M) (rm := rmR rm') (Pc := va_Pc (.ref (ad G k) :: As) (PW G N S)) ⟨h.1, h.2.1, h.2.2.1, h.2.2.2.1, hts⟩ (hcall h.2.2.2.2.2.2.2.2.1)
    ⟨callB_of n hts (wsM_in hM.2.2.2.1) rfl rfl rfl (hts _ hM.2.2.1) (hts _ hl) ⟨hM.2.2.2.2.1.1, hM.2.2.2.2.1.2, hM.2.2.2.2.2⟩ ⟨Nat.le_trans hr.1 h.2.2.2.2.2.2.2.2.2.2.2.1, Nat.le_trans hr.2.1 h.2.2.2.2.2.2.2.2.2.2.2.2.1⟩, hts _ hM.1, hts _ hM.2.1⟩
    ⟨PW.blind, va_recv h.2.2.2.2.2.1 hP hcl (by rw [wl_get hk, hc]), pw_pre h hP hS⟩ rfl hn hl2.1 rfl (lv_room hW) hd ⟨Nat.le_trans hr.2.2.1 h.2.2.2.2.2.2.2.2.2.2.2.2.2.1, Nat.le_trans hr.2.2.2 h.2.2.2.2.2.2.2.2.2.2.2.2.2.2⟩
theorem r_callKL (h : OK X G N cc own nL rm) {M : MI} {rm' : Nat × Nat × Nat × Nat} {index n i : Nat} {As : List Value} (hd : decode cc pc = .ok (.invokevirtual index, 3)) (hp : pc + 3 = pc')
    (hl : Cond.methodLink own index M.1 ∈ gw) (hM : MV M n RJ0) (hi : i < 9) (hn : As.length = n) (hs : stk = As.reverse ++ .ref (gK G i) :: st) (hW : (st.map fun v => v.category).sum ≤ 8) (hr : RR rm rm' M.2.2.1 a b)
    (hcall : RetK X.2.1 G N M rm' (.ref (gK G i) :: As) S (KL X G nL N pc' lo st (a + rm'.2.2.1) (b + rm'.2.2.2))) : AW X G nL N pc lo stk S a b := by
  subst hp
  subst hs
  intro H locs ls hP hS hl2
  have hts := h.2.2.2.2.1
  intro T hT XX
  refine back_toL (rm' := rm') (st := st) (av := .ref (gK G i) :: As) h hS hl2 hT XX ?_
  exact vx_runV (Ts := gw) (cc := cc) (nL := nL) (own := own) (C := RJ0) (n := n) (bytes := M.2.1) (maxL := M.2.2.1) (ret := M.2.2.2) (ws := wsM M) (rm := rmR rm') (Pc := va_Pc (.ref (gK G i) :: As) (PW G N S)) ⟨h.1, h.2.1, h.2.2.1, h.2.2.2.1, hts⟩ (hcall h.2.2.2.2.2.2.2.2.1)
    ⟨callB_of n hts (wsM_in hM.2.2.2.1) rfl rfl rfl (hts _ hM.2.2.1) (hts _ hl) ⟨hM.2.2.2.2.1.1, hM.2.2.2.2.1.2, hM.2.2.2.2.2⟩ ⟨Nat.le_trans hr.1 h.2.2.2.2.2.2.2.2.2.2.2.1, Nat.le_trans hr.2.1 h.2.2.2.2.2.2.2.2.2.2.2.2.1⟩, hts _ hM.1, hts _ hM.2.1⟩
    ⟨PW.blind, vk_recv h.sf.kS hi hS, pw_pre h hP hS⟩ rfl hn hl2.1 rfl (lv_room hW) hd ⟨Nat.le_trans hr.2.2.1 h.2.2.2.2.2.2.2.2.2.2.2.2.2.1, Nat.le_trans hr.2.2.2 h.2.2.2.2.2.2.2.2.2.2.2.2.2.2⟩
theorem r_callSK (h : OK X G N cc own nL rm) {M : MI} {rm' : Nat × Nat × Nat × Nat} {index n : Nat} {As : List Value} (hd : decode cc pc = .ok (.invokestatic index, 3)) (hp : pc + 3 = pc')
    (hl : Cond.methodLink own index M.1 ∈ gw) (hM : MS M n) (hn : As.length = n) (hs : stk = As.reverse ++ st) (hW : (st.map fun v => v.category).sum ≤ 8) (hr : RR rm rm' M.2.2.1 a b)
    (hcall : RetK X.2.1 G N M rm' As S (KL X G nL N pc' lo st (a + rm'.2.2.1) (b + rm'.2.2.2))) : AW X G nL N pc lo stk S a b := by
  subst hp
  subst hs
  intro H locs ls hP hS hl2
  have hts := h.2.2.2.2.1
  intro T hT XX
  refine back_toL (rm' := rm') (st := st) (av := As) h hS hl2 hT XX ?_
  exact vx_runS (Ts := gw) (cc := cc) (nL := nL) (own := own) (n := n) (bytes := M.2.1) (maxL := M.2.2.1) (ret := M.2.2.2) (ws := wsM M) (rm := rmR rm') (Pc := va_Pc As (PW G N S)) ⟨h.1, h.2.1, h.2.2.1, h.2.2.2.1, hts⟩ (hcall h.2.2.2.2.2.2.2.2.1)
    ⟨callB_of n hts (wsM_in hM.2.2.1) rfl rfl rfl (hts _ hM.2.1) (hts _ hl) ⟨hM.2.2.2.1.1, hM.2.2.2.1.2, hM.2.2.2.2⟩ ⟨Nat.le_trans hr.1 h.2.2.2.2.2.2.2.2.2.2.2.1, Nat.le_trans hr.2.1 h.2.2.2.2.2.2.2.2.2.2.2.2.1⟩, hts _ hM.1⟩
    ⟨PW.blind, pw_pre h hP hS⟩ rfl hn hl2.1 rfl (lv_room hW) hd ⟨Nat.le_trans hr.2.2.1 h.2.2.2.2.2.2.2.2.2.2.2.2.2.1, Nat.le_trans hr.2.2.2 h.2.2.2.2.2.2.2.2.2.2.2.2.2.2⟩
/-- a method of the class above, by super -/
def MSU (M : MI) (n : Nat) (own : String) : Prop := Cond.sameMethod M.1.cls M.1.cls M.1.name M.1.desc ∈ gw ∧ Cond.superclass own M.1.cls ∈ gw ∧ Cond.instanceMethod M.1 ∈ gw ∧ Cond.initialized M.1.cls ∈ gw ∧ Cond.code M.1 M.2.1 M.2.2.1 M.2.2.2 ∈ gw ∧ M.1.name ≠ "<init>" ∧ (parseMethodDescriptor M.1.desc).map (fun d => d.parameters.length) = some n
theorem r_callSU (h : OK X G N cc own nL rm) {M : MI} {rm' : Nat × Nat × Nat × Nat} {index n k ci Nf : Nat} {C : String} {Tf : u_T} {fs As : List Value} (hd : decode cc pc = .ok (.invokespecial index, 3)) (hp : pc + 3 = pc')
    (hl : Cond.methodLink own index M.1 ∈ gw) (hM : MSU M n own) (hcl : cls[ci]? = some (C, Tf, Nf)) (hk : k < N) (hc : S k = .inr (ci, fs)) (hn : As.length = n) (hs : stk = As.reverse ++ .ref (ad G k) :: st) (hW : (st.map fun v => v.category).sum ≤ 8) (hr : RR rm rm' M.2.2.1 a b)
    (hcall : RetK X.2.1 G N M rm' (.ref (ad G k) :: As) S (KL X G nL N pc' lo st (a + rm'.2.2.1) (b + rm'.2.2.2))) : AW X G nL N pc lo stk S a b := by
  subst hp
  subst hs
  intro H locs ls hP hS hl2
  have hts := h.2.2.2.2.1
  intro T hT XX
  refine back_toL (rm' := rm') (st := st) (av := .ref (ad G k) :: As) h hS hl2 hT XX ?_
  refine vx_runSU (Ts := gw) (cc := cc) (nL := nL) (own := own) (C := C) (n := n) (bytes := M.2.1) (maxL := M.2.2.1) (ret := M.2.2.2) (ws := wsM M) (rm := rmR rm') (Pc := va_Pc (.ref (ad G k) :: As) (PW G N S)) (h.2.2.2.2.2.1.1 ci _ hcl).2 ⟨h.1, h.2.1, h.2.2.1, h.2.2.2.1, hts⟩ (hcall h.2.2.2.2.2.2.2.2.1)
    ⟨⟨rfl, rfl, Nat.le_trans hr.1 h.2.2.2.2.2.2.2.2.2.2.2.1, Nat.le_trans hr.2.1 h.2.2.2.2.2.2.2.2.2.2.2.2.1, pay_in hts (wsM_in hM.2.2.2.2.1), List.mem_cons_self⟩, hts _ hl, hts _ hM.1, hts _ hM.2.1, hts _ hM.2.2.1, hts _ hM.2.2.2.1, hts _ hM.2.2.2.2.1, hM.2.2.2.2.2.1, fun sig hsig => ?_⟩
    ⟨PW.blind, va_recv h.2.2.2.2.2.1 hP hcl (by rw [wl_get hk, hc]), pw_pre h hP hS⟩ rfl hn hl2.1 rfl (lv_room hW) hd ⟨Nat.le_trans hr.2.2.1 h.2.2.2.2.2.2.2.2.2.2.2.2.2.1, Nat.le_trans hr.2.2.2 h.2.2.2.2.2.2.2.2.2.2.2.2.2.2⟩
  have h2 := hM.2.2.2.2.2.2
  rw [hsig] at h2
  exact (Option.some.inj h2).symm
/-- a method that the receiver's class has anew: named x at the call, M runs -/
def MVU (M : MI) (x : MethodName) (n : Nat) (C : String) : Prop := Cond.sameMethod x.cls x.cls x.name x.desc ∈ gw ∧ (Cond.instanceMethod x ∈ gw ∧ ∃ b0 m0 r0, Cond.code x b0 m0 r0 ∈ gw) ∧ Cond.selects C x M.1 ∈ gw ∧ Cond.instanceMethod M.1 ∈ gw ∧ Cond.initialized M.1.cls ∈ gw ∧ Cond.code M.1 M.2.1 M.2.2.1 M.2.2.2 ∈ gw ∧ (x.cls ≠ "java/lang/invoke/MethodHandle" ∧ x.cls ≠ "java/lang/invoke/VarHandle") ∧ (parseMethodDescriptor x.desc).map (fun d => d.parameters.length) = some n
theorem r_callU (h : OK X G N cc own nL rm) {M : MI} {x : MethodName} {rm' : Nat × Nat × Nat × Nat} {index n k ci Nf : Nat} {C : String} {Tf : u_T} {fs As : List Value} (hd : decode cc pc = .ok (.invokevirtual index, 3)) (hp : pc + 3 = pc')
    (hl : Cond.methodLink own index x ∈ gw) (hM : MVU M x n C) (hcl : cls[ci]? = some (C, Tf, Nf)) (hk : k < N) (hc : S k = .inr (ci, fs)) (hn : As.length = n) (hs : stk = As.reverse ++ .ref (ad G k) :: st) (hW : (st.map fun v => v.category).sum ≤ 8) (hr : RR rm rm' M.2.2.1 a b)
    (hcall : RetK X.2.1 G N M rm' (.ref (ad G k) :: As) S (KL X G nL N pc' lo st (a + rm'.2.2.1) (b + rm'.2.2.2))) : AW X G nL N pc lo stk S a b := by
  subst hp
  subst hs
  intro H locs ls hP hS hl2
  have hts := h.2.2.2.2.1
  intro T hT XX
  refine back_toL (rm' := rm') (st := st) (av := .ref (ad G k) :: As) h hS hl2 hT XX ?_
  obtain ⟨m1, ⟨m2, b0, m0, r0, m3⟩, m4, m5, m6, m7, m8, m9⟩ := hM
  refine vx_runU (Ts := gw) (cc := cc) (nL := nL) (own := own) (C := C) (owner := x.cls) (x := x) (n := n) (bytes := M.2.1) (maxL := M.2.2.1) (ret := M.2.2.2) (ws := wsM M) (rm := rmR rm') (Pc := va_Pc (.ref (ad G k) :: As) (PW G N S)) ⟨h.1, h.2.1, h.2.2.1, h.2.2.2.1, hts⟩ (hcall h.2.2.2.2.2.2.2.2.1)
    ⟨⟨rfl, rfl, Nat.le_trans hr.1 h.2.2.2.2.2.2.2.2.2.2.2.1, Nat.le_trans hr.2.1 h.2.2.2.2.2.2.2.2.2.2.2.2.1, pay_in hts (wsM_in m7), List.mem_cons_self⟩, hts _ m7, hts _ m6, m8, fun sig hsig => ?_, hts _ hl, hts _ m1, va_Decl.of (hts _ m2) (hts _ m3), hts _ m4, hts _ m5⟩
    ⟨PW.blind, va_recv h.2.2.2.2.2.1 hP hcl (by rw [wl_get hk, hc]), pw_pre h hP hS⟩ rfl hn hl2.1 rfl (lv_room hW) hd ⟨Nat.le_trans hr.2.2.1 h.2.2.2.2.2.2.2.2.2.2.2.2.2.1, Nat.le_trans hr.2.2.2 h.2.2.2.2.2.2.2.2.2.2.2.2.2.2⟩
  rw [hsig] at m9
  exact (Option.some.inj m9).symm
/-- behind a call of a method that made cells -/
def KG (X : CX) (nL N' pc' : Nat) (lo : List (Nat × Value)) (st : List Value) (a b : Nat) : Option Value → GX → (Nat → va_E) → Prop := fun v G' S' => match v with
  | none => AW X G' nL N' pc' lo st S' a b
  | some w => AW X G' nL N' pc' lo (w :: st) S' a b
theorem back_toX (h : OK X G N cc own nL rm) {rm' : Nat × Nat × Nat × Nat} {H : Heap} {locs : List Loc} {ls : Array Slot} {av : List Value} {T : State}
    (hS : va_S (AA G) X.2.2.2.2.1.heap H locs) (hl2 : lv_has ls nL lo) (hT : T.heap = H)
    (XX : Stand X.1 X.2.1 X.2.2.1 X.2.2.2.1 X.2.2.2.2.1 X.2.2.2.2.2.1 X.2.2.2.2.2.2.1 X.2.2.2.2.2.2.2.1 X.2.2.2.2.2.2.2.2.1 X.2.2.2.2.2.2.2.2.2.1 T locs a b)
    (run : vx_Run X.1 X.2.1 X.2.2.1 X.2.2.2.1 X.2.2.2.2.1 X.2.2.2.2.2.1 X.2.2.2.2.2.2.1 X.2.2.2.2.2.2.2.1 X.2.2.2.2.2.2.2.2.1 X.2.2.2.2.2.2.2.2.2.1 H locs a b rm'.2.2.1 rm'.2.2.2 (F0 X.2.2.2.2.2.1 pc ls stk) st (QcX G N' (KG X nL N' (pc + 3) lo st (a + rm'.2.2.1) (b + rm'.2.2.2)) av.toArray) XcX (AA G)) :
    ∃ t, Steps X.1.tables X.2.2.1 X.2.2.2.2.2.2.2.1 (T.setTop (F0 X.2.2.2.2.2.1 pc ls stk)) t ∧ X.2.2.2.2.2.2.2.2.2.2 t := by
  rcases run T hT XX with ⟨v, st₀, t, T', L, h0, X', hL, e1, e2, ⟨G', S', v', hv, hg, hgB, hP', hK', hF⟩, stp⟩ | ⟨q, st₀, t, T', L, E, ce, h0, X', hL, e1, e2, hx, -⟩
  · cases hv
    obtain ⟨k1, k2, k3⟩ := vx_keep (A0 := AA G) h0 e1 hS (fun q _ hq => hq) (fun q hq => hq) hL hF
    have eA : AA G' = AA G := by unfold AA; rw [hgB]
    cases v with
    | none =>
      have hK2 : AW X G' nL N' (pc + 3) lo st S' (a + rm'.2.2.1) (b + rm'.2.2.2) := hK'
      obtain ⟨t2, a1, b1⟩ := hK2 T'.heap (locs ++ L) ls (by rw [e1, hg]; exact hP') (by rw [eA]; exact k3) hl2 T' rfl X'
      exact ⟨t2, stp t2 a1, b1⟩
    | some v =>
      have hK2 : AW X G' nL N' (pc + 3) lo (v :: st) S' (a + rm'.2.2.1) (b + rm'.2.2.2) := hK'
      obtain ⟨t2, a1, b1⟩ := hK2 T'.heap (locs ++ L) ls (by rw [e1, hg]; exact hP') (by rw [eA]; exact k3) hl2 T' rfl X'
      exact ⟨t2, stp t2 a1, b1⟩
  · exact absurd hx (fun z => z)
theorem r_callVX (h : OK X G N cc own nL rm) {M : MI} {rm' : Nat × Nat × Nat × Nat} {index n k ci Nf : Nat} {C : String} {Tf : u_T} {fs As : List Value} (hd : decode cc pc = .ok (.invokevirtual index, 3)) (hp : pc + 3 = pc')
    (hl : Cond.methodLink own index M.1 ∈ gw) (hM : MV M n C) (hcl : cls[ci]? = some (C, Tf, Nf)) (hk : k < N) (hc : S k = .inr (ci, fs)) (hn : As.length = n) (hs : stk = As.reverse ++ .ref (ad G k) :: st) (hW : (st.map fun v => v.category).sum ≤ 8) (hr : RR rm rm' M.2.2.1 a b)
    (hcall : RetX X.2.1 G N N' M rm' (.ref (ad G k) :: As) S (KG X nL N' pc' lo st (a + rm'.2.2.1) (b + rm'.2.2.2))) : AW X G nL N pc lo stk S a b := by
  subst hp
  subst hs
  intro H locs ls hP hS hl2
  have hts := h.2.2.2.2.1
  intro T hT XX
  refine back_toX (N' := N') (rm' := rm') (st := st) (av := .ref (ad G k) :: As) h hS hl2 hT XX ?_
  exact vx_runV (Ts := gw) (cc := cc) (nL := nL) (own := own) (C := C) (n := n) (bytes := M.2.1) (maxL := M.2.2.1) (ret := M.2.2.2) (ws := wsM M) (rm := rmR rm') (Pc := va_Pc (.ref (ad G k) :: As) (PW G N S)) ⟨h.1, h.2.1, h.2.2.1, h.2.2.2.1, hts⟩ (hcall h.2.2.2.2.2.2.2.2.1)
    ⟨callB_of n hts (wsM_in hM.2.2.2.1) rfl rfl rfl (hts _ hM.2.2.1) (hts _ hl) ⟨hM.2.2.2.2.1.1, hM.2.2.2.2.1.2, hM.2.2.2.2.2⟩ ⟨Nat.le_trans hr.1 h.2.2.2.2.2.2.2.2.2.2.2.1, Nat.le_trans hr.2.1 h.2.2.2.2.2.2.2.2.2.2.2.2.1⟩, hts _ hM.1, hts _ hM.2.1⟩
    ⟨PW.blind, va_recv h.2.2.2.2.2.1 hP hcl (by rw [wl_get hk, hc]), pw_pre h hP hS⟩ rfl hn hl2.1 rfl (lv_room hW) hd ⟨Nat.le_trans hr.2.2.1 h.2.2.2.2.2.2.2.2.2.2.2.2.2.1, Nat.le_trans hr.2.2.2 h.2.2.2.2.2.2.2.2.2.2.2.2.2.2⟩
theorem r_callSX (h : OK X G N cc own nL rm) {M : MI} {rm' : Nat × Nat × Nat × Nat} {index n : Nat} {As : List Value} (hd : decode cc pc = .ok (.invokestatic index, 3)) (hp : pc + 3 = pc')
    (hl : Cond.methodLink own index M.1 ∈ gw) (hM : MS M n) (hn : As.length = n) (hs : stk = As.reverse ++ st) (hW : (st.map fun v => v.category).sum ≤ 8) (hr : RR rm rm' M.2.2.1 a b)
    (hcall : RetX X.2.1 G N N' M rm' As S (KG X nL N' pc' lo st (a + rm'.2.2.1) (b + rm'.2.2.2))) : AW X G nL N pc lo stk S a b := by
  subst hp
  subst hs
  intro H locs ls hP hS hl2
  have hts := h.2.2.2.2.1
  intro T hT XX
  refine back_toX (N' := N') (rm' := rm') (st := st) (av := As) h hS hl2 hT XX ?_
  exact vx_runS (Ts := gw) (cc := cc) (nL := nL) (own := own) (n := n) (bytes := M.2.1) (maxL := M.2.2.1) (ret := M.2.2.2) (ws := wsM M) (rm := rmR rm') (Pc := va_Pc As (PW G N S)) ⟨h.1, h.2.1, h.2.2.1, h.2.2.2.1, hts⟩ (hcall h.2.2.2.2.2.2.2.2.1)
    ⟨callB_of n hts (wsM_in hM.2.2.1) rfl rfl rfl (hts _ hM.2.1) (hts _ hl) ⟨hM.2.2.2.1.1, hM.2.2.2.1.2, hM.2.2.2.2⟩ ⟨Nat.le_trans hr.1 h.2.2.2.2.2.2.2.2.2.2.2.1, Nat.le_trans hr.2.1 h.2.2.2.2.2.2.2.2.2.2.2.2.1⟩, hts _ hM.1⟩
    ⟨PW.blind, pw_pre h hP hS⟩ rfl hn hl2.1 rfl (lv_room hW) hd ⟨Nat.le_trans hr.2.2.1 h.2.2.2.2.2.2.2.2.2.2.2.2.2.1, Nat.le_trans hr.2.2.2 h.2.2.2.2.2.2.2.2.2.2.2.2.2.2⟩
/-- a constructor of the JDK's -/
def MCX (M : MI) (n : Nat) : Prop := (Cond.instanceMethod M.1 ∈ gw ∧ Cond.initialized M.1.cls ∈ gw ∧ Cond.code M.1 M.2.1 M.2.2.1 none ∈ gw) ∧ (M.1.cls ≠ "java/lang/invoke/MethodHandle" ∧ M.1.cls ≠ "java/lang/invoke/VarHandle") ∧ (parseMethodDescriptor M.1.desc).map (fun d => d.parameters.length) = some n ∧ M.1.name = "<init>" ∧ M.2.2.2 = none
theorem r_callIX (h : OK X G N cc own nL rm) {M : MI} {rm' : Nat × Nat × Nat × Nat} {index n q : Nat} {As : List Value} (hd : decode cc pc = .ok (.invokespecial index, 3)) (hp : pc + 3 = pc')
    (hl : Cond.methodLink own index M.1 ∈ gw) (hM : MCX M n) (hn : As.length = n) (hs : stk = As.reverse ++ .ref q :: st) (hW : (st.map fun v => v.category).sum ≤ 8) (hr : RR rm rm' M.2.2.1 a b)
    (hcall : RetX X.2.1 G N N' M rm' (.ref q :: As) S (KG X nL N' pc' lo st (a + rm'.2.2.1) (b + rm'.2.2.2))) : AW X G nL N pc lo stk S a b := by
  subst hp
  subst hs
  obtain ⟨y, bytes, ml, ret⟩ := M
  obtain ⟨hM1, hM2, hM3, hM4, hM5⟩ := hM
  dsimp only at hM1 hM2 hM3 hM4 hM5 hl hr
  subst hM5
  intro H locs ls hP hS hl2
  have hts := h.2.2.2.2.1
  intro T hT XX
  refine back_toX (N' := N') (rm' := rm') (st := st) (av := .ref q :: As) h hS hl2 hT XX ?_
  exact vx_runI (Ts := gw) (cc := cc) (nL := nL) (own := own) (n := n) (bytes := bytes) (maxL := ml) (ws := wsM (y, bytes, ml, none)) (rm := rmR rm') (Pc := va_Pc (.ref q :: As) (PW G N S)) ⟨h.1, h.2.1, h.2.2.1, h.2.2.2.1, hts⟩ (hcall h.2.2.2.2.2.2.2.2.1)
    ⟨callB_of n hts (wsM_in (M := (y, bytes, ml, none)) hM1.2.2) rfl rfl rfl (hts _ hM1.2.1) (hts _ hl) ⟨hM2.1, hM2.2, hM3⟩ ⟨Nat.le_trans hr.1 h.2.2.2.2.2.2.2.2.2.2.2.1, Nat.le_trans hr.2.1 h.2.2.2.2.2.2.2.2.2.2.2.2.1⟩, hM4, hts _ hM1.1⟩
    ⟨PW.blind, pw_pre h hP hS⟩ rfl hn hl2.1 rfl (lv_room hW) hd ⟨Nat.le_trans hr.2.2.1 h.2.2.2.2.2.2.2.2.2.2.2.2.2.1, Nat.le_trans hr.2.2.2 h.2.2.2.2.2.2.2.2.2.2.2.2.2.2⟩
/-- a new array of numbers -/
theorem r_newa (h : OK X G N cc own nL rm) {atype : ArrayType} {ty : FieldType} {cA : ClassId} {k : Nat} {a0 : vp_A} {n : Int32} {m : Nat} (hd : decode cc pc = .ok (.newarray atype, 2)) (hp : pc + 2 = pc') (ht : (tys G)[k]? = some (cA, ty)) (hty : newarray.typeOf atype = ty) (harr : Cond.arrayClass (newarray.typeOf atype) ∈ gw)
    (ha0 : ∀ cA : ClassId, vp_cell cA a0 = arrV cA m (fun _ => defaultValue ty)) (hn : ¬ n < 0) (hN : n.toNatClampNeg = m) (hby : m * componentBytes ty ≤ 536870912) (ha : a + 1 ≤ rm.2.2.1) (hb : b + m ≤ rm.2.2.2)
    (kk : ∀ q, DD (gN G N q) (N + 1) → AW X (gN G N q) nL (N + 1) pc' lo (.ref q :: st) (va_up S N (.inl (cA, a0))) (a + 1) (b + m)) : AW X G nL N pc lo (.int n :: st) S a b := by
  subst hp
  intro H locs ls hP hS hl
  refine va_newa h.1 h.2.1 (h.2.2.2.2.1 _ harr) hty h.2.2.2.2.2.1 hP h.2.2.2.2.2.2.2.2.2.2.1.D hS (fun q hq => Nat.le_trans h.2.2.2.2.2.2.1 hq) ha0 hn hN hby (Nat.le_trans ha h.2.2.2.2.2.2.2.2.2.2.2.2.2.1) (Nat.le_trans hb h.2.2.2.2.2.2.2.2.2.2.2.2.2.2) hd (fun q cB H1 hK1 hP1 hD1 hS1 => ?_)
  have e := K_same hK1 ht
  subst e
  rw [wl_push] at hP1 hD1
  exact kk q (DD.of hD1) H1 locs ls hP1 hS1 hl
/-- a new object, its fields as they are born -/
theorem r_new (h : OK X G N cc own nL rm) {C : String} {T : u_T} {Nf ci index : Nat} {ty : Nat → FieldType} {fs : List Value} (hd : decode cc pc = .ok (.new index, 3)) (hp : pc + 3 = pc') (hc : cls[ci]? = some (C, T, Nf)) (hin : ∀ w ∈ u_ws C T Nf, w ∈ gw) (hty : ∀ k, k < Nf → parseFieldDescriptor (T k).2.2.1 = some (ty k)) (hl : Cond.classLink own index C ∈ gw) (hi : Cond.instantiable C Nf ∈ gw) (hini : Cond.initialized C ∈ gw)
    (hfs : ∀ j, j < Nf → defaultValue (ty j) = vp_V fs j) (ha : a + 1 ≤ rm.2.2.1) (hb : b + Nf ≤ rm.2.2.2)
    (kk : ∀ q, DD (gN G N q) (N + 1) → AW X (gN G N q) nL (N + 1) pc' lo (.ref q :: st) (va_up S N (.inr (ci, fs))) (a + 1) (b + Nf)) : AW X G nL N pc lo st S a b := by
  subst hp
  intro H locs ls hP hS hl2
  have hts := h.2.2.2.2.1
  refine va_new h.1 h.2.1 hts hin ty hty h.2.2.2.1 (hts _ hl) (hts _ hi) (hts _ hini) h.2.2.2.2.2.1 hP h.2.2.2.2.2.2.2.2.2.2.1.D hS (fun q hq => Nat.le_trans h.2.2.2.2.2.2.1 hq) hc hfs (Nat.le_trans ha h.2.2.2.2.2.2.2.2.2.2.2.2.2.1) (Nat.le_trans hb h.2.2.2.2.2.2.2.2.2.2.2.2.2.2) hd (fun q H1 hP1 hD1 hS1 => ?_)
  rw [wl_push] at hP1 hD1
  exact kk q (DD.of hD1) H1 locs ls hP1 hS1 hl2
/-- places forgotten -/
theorem r_drop {N1 : Nat} {G1 : GX} {S1 : Nat → va_E} (hE : Ext G G1 N) (hN : N ≤ N1) (hS : ∀ k, k < N → S1 k = S k) (kk : AW X G nL N pc lo st S a b) : AW X G1 nL N1 pc lo st S1 a b := by
  intro H locs ls hP hS1 hl
  have eA : AA G1 = AA G := by unfold AA; rw [hE.2.1]
  refine kk H locs ls (fun k q hq => ?_) (by rw [← eA]; exact hS1) hl
  obtain ⟨hk, rfl⟩ := wl_of hq
  have h1 := hP k (ad G1 k, S1 k) (wl_get (by omega))
  rw [hE.1, hE.ad hk, hS k hk] at h1
  exact h1
end JR
