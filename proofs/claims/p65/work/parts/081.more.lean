/-! MORE ROWS: boolean branches, switches, throws, calls by their number of arguments, min and max. -/
/-- a boolean on the stack -/
def b2i (c : Bool) : Int32 := if c then 1 else 0
theorem b2i_f : b2i false = 0 := rfl
theorem b2i_t : b2i true = 1 := rfl
theorem b2i_0 {c : Bool} : b2i c = 0 ↔ c = false := by cases c <;> decide
theorem nar_b (c : Bool) : narrow .boolean (.int (b2i c)) = .int (b2i c) := by cases c <;> rfl
theorem kI {K : RK} {S : Nat → va_E} {x y : Int32} (hk : K (.inl (some (.int y))) S) (e : x = y) : K (.inl (some (.int x))) S := by rw [e]; exact hk
theorem rrb {rm rm' : Nat × Nat × Nat × Nat} {ml a b : Nat} (e : (Nat.ble (rm'.1 + 1) rm.1 && (Nat.ble (8 + (ml + 11) + rm'.2.1) rm.2.1 && (Nat.ble (a + rm'.2.2.1) rm.2.2.1 && Nat.ble (b + rm'.2.2.2) rm.2.2.2))) = true) : RR rm rm' ml a b := by
  simp only [Bool.and_eq_true] at e
  exact ⟨Nat.le_of_ble_eq_true e.1, Nat.le_of_ble_eq_true e.2.1, Nat.le_of_ble_eq_true e.2.2.1, Nat.le_of_ble_eq_true e.2.2.2⟩
/-- where a switch goes, case by case -/
def swG (P : Nat → Prop) (x : Int) (pc : Nat) (d : Int) : List (Int × Int) → Prop
  | [] => P ((pc : Int) + d).toNat
  | (a, o) :: r => (x = a → P ((pc : Int) + o).toNat) ∧ (¬ x = a → swG P x pc d r)
theorem swG_go {P : Nat → Prop} {x : Int} {pc : Nat} {d : Int} : ∀ {ps : List (Int × Int)}, swG P x pc d ps → P ((pc : Int) + Op.lookupswitch.offset ps d x).toNat
  | [], h => h
  | (a, o) :: r, h => by
    rw [Op.lookupswitch.offset_cons]
    by_cases e : a = x
    · rw [if_pos e]; exact h.1 e.symm
    · rw [if_neg e]; exact swG_go (h.2 (fun z => e z.symm))
theorem sw_nn {pc : Nat} {x d : Int} : ∀ {ps : List (Int × Int)}, (d :: ps.map (fun q => q.2)).all (fun o => decide (0 ≤ (pc : Int) + o)) = true → 0 ≤ (pc : Int) + Op.lookupswitch.offset ps d x
  | [], h => by rw [Op.lookupswitch.offset_nil]; simpa using h
  | (a, o) :: r, h => by
    rw [Op.lookupswitch.offset_cons]
    simp only [List.map_cons, List.all_cons, Bool.and_eq_true, decide_eq_true_eq] at h
    by_cases e : a = x
    · rw [if_pos e]; exact h.2.1
    · rw [if_neg e]
      refine sw_nn ?_
      simp only [List.all_cons, Bool.and_eq_true, decide_eq_true_eq]
      exact ⟨h.1, h.2.2⟩
section MORE
variable {X : CX} {G : GX} {cc : ByteArray} {own : String} {nL N pc pc' tgt : Nat} {lo lo' : List (Nat × Value)} {st : List Value} {S : Nat → va_E} {a b : Nat} {rm : Nat × Nat × Nat × Nat} {K : RK} {ret : Option FieldType}
theorem r_if_eqb (h : OK X G N cc own nL rm) {x : Bool} {off : Int} (hd : decode cc pc = .ok (.ifCond .eq off, 3)) (ht : (pc : Int) + off = (tgt : Int)) (hp : pc + 3 = pc') (kt : x = false → AW X G nL N tgt lo st S a b) (kf : x = true → AW X G nL N pc' lo st S a b) : AW X G nL N pc lo (.int (b2i x) :: st) S a b :=
  r_if_eq h hd ht hp (fun z => kt (b2i_0.mp z)) (fun z => kf (by cases x with | false => exact absurd rfl z | true => rfl))
theorem r_if_neb (h : OK X G N cc own nL rm) {x : Bool} {off : Int} (hd : decode cc pc = .ok (.ifCond .ne off, 3)) (ht : (pc : Int) + off = (tgt : Int)) (hp : pc + 3 = pc') (kt : x = true → AW X G nL N tgt lo st S a b) (kf : x = false → AW X G nL N pc' lo st S a b) : AW X G nL N pc lo (.int (b2i x) :: st) S a b :=
  r_if_ne h hd ht hp (fun z => kt (by cases x with | false => exact absurd rfl z | true => rfl)) (fun z => kf (b2i_0.mp z))
theorem r_lsw (h : OK X G N cc own nL rm) {d : Int} {ps : Array (Int × Int)} {len : Nat} {x : Int32} (hd : decode cc pc = .ok (.lookupswitch d ps, len)) (hs : (ps.toList.zip (ps.toList.drop 1)).all (fun (a, next) => a.1 < next.1) = true) (hn : (d :: ps.toList.map (fun q => q.2)).all (fun o => decide (0 ≤ (pc : Int) + o)) = true)
    (kk : swG (fun t => AW X G nL N t lo st S a b) x.toInt pc d ps.toList) : AW X G nL N pc lo (.int x :: st) S a b :=
  r_lookup h hd hs rfl (Int.toNat_of_nonneg (sw_nn (x := x.toInt) hn)).symm (swG_go kk)
/-- a table, by the cases ps that don't go to the default -/
theorem r_tsw (h : OK X G N cc own nL rm) {d lw hi : Int} {offs : Array Int} {len : Nat} {x : Int32} (hd : decode cc pc = .ok (.tableswitch d lw hi offs, len)) (ps : List (Int × Int)) (hz : hi = lw + offs.size - 1) (hc : (List.range offs.size).all (fun j => decide (offs[j]? = some (Op.lookupswitch.offset ps d (lw + j)))) = true) (ho : ps.all (fun q => decide (lw ≤ q.1 ∧ q.1 ≤ hi)) = true) (hn : (d :: ps.map (fun q => q.2)).all (fun o => decide (0 ≤ (pc : Int) + o)) = true)
    (kk : swG (fun t => AW X G nL N t lo st S a b) x.toInt pc d ps) : AW X G nL N pc lo (.int x :: st) S a b := by
  have hg := swG_go kk
  have hnn : 0 ≤ (pc : Int) + Op.lookupswitch.offset ps d x.toInt := sw_nn (x := x.toInt) hn
  by_cases h1 : x.toInt < lw ∨ hi < x.toInt
  · have e : Op.lookupswitch.offset ps d x.toInt = d := by
      refine Op.lookupswitch.offset_none ?_
      rw [List.find?_eq_none]
      intro q hq
      have := List.all_eq_true.mp ho q hq
      simp only [decide_eq_true_eq] at this
      simp only [beq_iff_eq]
      omega
    rw [e] at hg hnn
    exact r_tableOut h hd h1 (Int.toNat_of_nonneg hnn).symm hg
  · have h2 : lw ≤ x.toInt ∧ x.toInt ≤ hi := by omega
    have hj : (x.toInt - lw).toNat < offs.size := by omega
    have e := List.all_eq_true.mp hc _ (List.mem_range.mpr hj)
    simp only [decide_eq_true_eq] at e
    have e3 : lw + ((x.toInt - lw).toNat : Int) = x.toInt := by omega
    rw [e3] at e
    exact r_tableIn h hd (by omega) (by omega) e (Int.toNat_of_nonneg hnn).symm hg
theorem r_callV0 (h : OK X G N cc own nL rm) (hm : OKm X G N K ret rm) {M : MI} {rm' : Nat × Nat × Nat × Nat} {index k ci Nf : Nat} {C : String} {Tf : u_T} {fs : List Value} (hd : decode cc pc = .ok (.invokevirtual index, 3)) (hp : pc + 3 = pc')
    (hl : Cond.methodLink own index M.1 ∈ gw) (hM : MV M 0 C) (hcl : cls[ci]? = some (C, Tf, Nf)) (hk : k < N) (hc : S k = .inr (ci, fs)) (hW : (st.map fun v => v.category).sum ≤ 8) (hr : RR rm rm' M.2.2.1 a b)
    (hcall : RetK X.2.1 G N M rm' [.ref (ad G k)] S (KC X G nL N pc' lo st (a + rm'.2.2.1) (b + rm'.2.2.2) K)) : AW X G nL N pc lo (.ref (ad G k) :: st) S a b := r_callV (As := []) h hm hd hp hl hM hcl hk hc rfl rfl hW hr hcall
theorem r_callV1 (h : OK X G N cc own nL rm) (hm : OKm X G N K ret rm) {M : MI} {rm' : Nat × Nat × Nat × Nat} {index k ci Nf : Nat} {C : String} {Tf : u_T} {fs : List Value} {v1 : Value} (hd : decode cc pc = .ok (.invokevirtual index, 3)) (hp : pc + 3 = pc')
    (hl : Cond.methodLink own index M.1 ∈ gw) (hM : MV M 1 C) (hcl : cls[ci]? = some (C, Tf, Nf)) (hk : k < N) (hc : S k = .inr (ci, fs)) (hW : (st.map fun v => v.category).sum ≤ 8) (hr : RR rm rm' M.2.2.1 a b)
    (hcall : RetK X.2.1 G N M rm' [.ref (ad G k), v1] S (KC X G nL N pc' lo st (a + rm'.2.2.1) (b + rm'.2.2.2) K)) : AW X G nL N pc lo (v1 :: .ref (ad G k) :: st) S a b := r_callV (As := [v1]) h hm hd hp hl hM hcl hk hc rfl rfl hW hr hcall
theorem r_callS1 (h : OK X G N cc own nL rm) (hm : OKm X G N K ret rm) {M : MI} {rm' : Nat × Nat × Nat × Nat} {index : Nat} {v1 : Value} (hd : decode cc pc = .ok (.invokestatic index, 3)) (hp : pc + 3 = pc') (hl : Cond.methodLink own index M.1 ∈ gw) (hM : MS M 1) (hW : (st.map fun v => v.category).sum ≤ 8) (hr : RR rm rm' M.2.2.1 a b)
    (hcall : RetK X.2.1 G N M rm' [v1] S (KC X G nL N pc' lo st (a + rm'.2.2.1) (b + rm'.2.2.2) K)) : AW X G nL N pc lo (v1 :: st) S a b := r_callS (As := [v1]) h hm hd hp hl hM rfl rfl hW hr hcall
theorem r_callSN1 (h : OK X G N cc own nL rm) (hm : OKm X G N K ret rm) {M : MI} {rm' : Nat × Nat × Nat × Nat} {index : Nat} {v1 : Value} (hd : decode cc pc = .ok (.invokestatic index, 3)) (hp : pc + 3 = pc') {host : String} (hl : Cond.methodLinkNest own index M.1 host ∈ nw) (hM : MS M 1) (hW : (st.map fun v => v.category).sum ≤ 8) (hr : RR rm rm' M.2.2.1 a b)
    (hcall : RetK X.2.1 G N M rm' [v1] S (KC X G nL N pc' lo st (a + rm'.2.2.1) (b + rm'.2.2.2) K)) : AW X G nL N pc lo (v1 :: st) S a b := r_callSN (As := [v1]) h hm hd hp hl hM rfl rfl hW hr hcall
theorem r_callV2 (h : OK X G N cc own nL rm) (hm : OKm X G N K ret rm) {M : MI} {rm' : Nat × Nat × Nat × Nat} {index k ci Nf : Nat} {C : String} {Tf : u_T} {fs : List Value} {v1 v2 : Value} (hd : decode cc pc = .ok (.invokevirtual index, 3)) (hp : pc + 3 = pc')
    (hl : Cond.methodLink own index M.1 ∈ gw) (hM : MV M 2 C) (hcl : cls[ci]? = some (C, Tf, Nf)) (hk : k < N) (hc : S k = .inr (ci, fs)) (hW : (st.map fun v => v.category).sum ≤ 8) (hr : RR rm rm' M.2.2.1 a b)
    (hcall : RetK X.2.1 G N M rm' [.ref (ad G k), v1, v2] S (KC X G nL N pc' lo st (a + rm'.2.2.1) (b + rm'.2.2.2) K)) : AW X G nL N pc lo (v2 :: v1 :: .ref (ad G k) :: st) S a b := r_callV (As := [v1, v2]) h hm hd hp hl hM hcl hk hc rfl rfl hW hr hcall
theorem r_callS2 (h : OK X G N cc own nL rm) (hm : OKm X G N K ret rm) {M : MI} {rm' : Nat × Nat × Nat × Nat} {index : Nat} {v1 v2 : Value} (hd : decode cc pc = .ok (.invokestatic index, 3)) (hp : pc + 3 = pc') (hl : Cond.methodLink own index M.1 ∈ gw) (hM : MS M 2) (hW : (st.map fun v => v.category).sum ≤ 8) (hr : RR rm rm' M.2.2.1 a b)
    (hcall : RetK X.2.1 G N M rm' [v1, v2] S (KC X G nL N pc' lo st (a + rm'.2.2.1) (b + rm'.2.2.2) K)) : AW X G nL N pc lo (v2 :: v1 :: st) S a b := r_callS (As := [v1, v2]) h hm hd hp hl hM rfl rfl hW hr hcall
theorem r_callSN2 (h : OK X G N cc own nL rm) (hm : OKm X G N K ret rm) {M : MI} {rm' : Nat × Nat × Nat × Nat} {index : Nat} {v1 v2 : Value} (hd : decode cc pc = .ok (.invokestatic index, 3)) (hp : pc + 3 = pc') {host : String} (hl : Cond.methodLinkNest own index M.1 host ∈ nw) (hM : MS M 2) (hW : (st.map fun v => v.category).sum ≤ 8) (hr : RR rm rm' M.2.2.1 a b)
    (hcall : RetK X.2.1 G N M rm' [v1, v2] S (KC X G nL N pc' lo st (a + rm'.2.2.1) (b + rm'.2.2.2) K)) : AW X G nL N pc lo (v2 :: v1 :: st) S a b := r_callSN (As := [v1, v2]) h hm hd hp hl hM rfl rfl hW hr hcall
theorem r_callV3 (h : OK X G N cc own nL rm) (hm : OKm X G N K ret rm) {M : MI} {rm' : Nat × Nat × Nat × Nat} {index k ci Nf : Nat} {C : String} {Tf : u_T} {fs : List Value} {v1 v2 v3 : Value} (hd : decode cc pc = .ok (.invokevirtual index, 3)) (hp : pc + 3 = pc')
    (hl : Cond.methodLink own index M.1 ∈ gw) (hM : MV M 3 C) (hcl : cls[ci]? = some (C, Tf, Nf)) (hk : k < N) (hc : S k = .inr (ci, fs)) (hW : (st.map fun v => v.category).sum ≤ 8) (hr : RR rm rm' M.2.2.1 a b)
    (hcall : RetK X.2.1 G N M rm' [.ref (ad G k), v1, v2, v3] S (KC X G nL N pc' lo st (a + rm'.2.2.1) (b + rm'.2.2.2) K)) : AW X G nL N pc lo (v3 :: v2 :: v1 :: .ref (ad G k) :: st) S a b := r_callV (As := [v1, v2, v3]) h hm hd hp hl hM hcl hk hc rfl rfl hW hr hcall
theorem r_callS3 (h : OK X G N cc own nL rm) (hm : OKm X G N K ret rm) {M : MI} {rm' : Nat × Nat × Nat × Nat} {index : Nat} {v1 v2 v3 : Value} (hd : decode cc pc = .ok (.invokestatic index, 3)) (hp : pc + 3 = pc') (hl : Cond.methodLink own index M.1 ∈ gw) (hM : MS M 3) (hW : (st.map fun v => v.category).sum ≤ 8) (hr : RR rm rm' M.2.2.1 a b)
    (hcall : RetK X.2.1 G N M rm' [v1, v2, v3] S (KC X G nL N pc' lo st (a + rm'.2.2.1) (b + rm'.2.2.2) K)) : AW X G nL N pc lo (v3 :: v2 :: v1 :: st) S a b := r_callS (As := [v1, v2, v3]) h hm hd hp hl hM rfl rfl hW hr hcall
theorem r_callSN3 (h : OK X G N cc own nL rm) (hm : OKm X G N K ret rm) {M : MI} {rm' : Nat × Nat × Nat × Nat} {index : Nat} {v1 v2 v3 : Value} (hd : decode cc pc = .ok (.invokestatic index, 3)) (hp : pc + 3 = pc') {host : String} (hl : Cond.methodLinkNest own index M.1 host ∈ nw) (hM : MS M 3) (hW : (st.map fun v => v.category).sum ≤ 8) (hr : RR rm rm' M.2.2.1 a b)
    (hcall : RetK X.2.1 G N M rm' [v1, v2, v3] S (KC X G nL N pc' lo st (a + rm'.2.2.1) (b + rm'.2.2.2) K)) : AW X G nL N pc lo (v3 :: v2 :: v1 :: st) S a b := r_callSN (As := [v1, v2, v3]) h hm hd hp hl hM rfl rfl hW hr hcall
theorem r_callV4 (h : OK X G N cc own nL rm) (hm : OKm X G N K ret rm) {M : MI} {rm' : Nat × Nat × Nat × Nat} {index k ci Nf : Nat} {C : String} {Tf : u_T} {fs : List Value} {v1 v2 v3 v4 : Value} (hd : decode cc pc = .ok (.invokevirtual index, 3)) (hp : pc + 3 = pc')
    (hl : Cond.methodLink own index M.1 ∈ gw) (hM : MV M 4 C) (hcl : cls[ci]? = some (C, Tf, Nf)) (hk : k < N) (hc : S k = .inr (ci, fs)) (hW : (st.map fun v => v.category).sum ≤ 8) (hr : RR rm rm' M.2.2.1 a b)
    (hcall : RetK X.2.1 G N M rm' [.ref (ad G k), v1, v2, v3, v4] S (KC X G nL N pc' lo st (a + rm'.2.2.1) (b + rm'.2.2.2) K)) : AW X G nL N pc lo (v4 :: v3 :: v2 :: v1 :: .ref (ad G k) :: st) S a b := r_callV (As := [v1, v2, v3, v4]) h hm hd hp hl hM hcl hk hc rfl rfl hW hr hcall
theorem r_callS4 (h : OK X G N cc own nL rm) (hm : OKm X G N K ret rm) {M : MI} {rm' : Nat × Nat × Nat × Nat} {index : Nat} {v1 v2 v3 v4 : Value} (hd : decode cc pc = .ok (.invokestatic index, 3)) (hp : pc + 3 = pc') (hl : Cond.methodLink own index M.1 ∈ gw) (hM : MS M 4) (hW : (st.map fun v => v.category).sum ≤ 8) (hr : RR rm rm' M.2.2.1 a b)
    (hcall : RetK X.2.1 G N M rm' [v1, v2, v3, v4] S (KC X G nL N pc' lo st (a + rm'.2.2.1) (b + rm'.2.2.2) K)) : AW X G nL N pc lo (v4 :: v3 :: v2 :: v1 :: st) S a b := r_callS (As := [v1, v2, v3, v4]) h hm hd hp hl hM rfl rfl hW hr hcall
theorem r_callSN4 (h : OK X G N cc own nL rm) (hm : OKm X G N K ret rm) {M : MI} {rm' : Nat × Nat × Nat × Nat} {index : Nat} {v1 v2 v3 v4 : Value} (hd : decode cc pc = .ok (.invokestatic index, 3)) (hp : pc + 3 = pc') {host : String} (hl : Cond.methodLinkNest own index M.1 host ∈ nw) (hM : MS M 4) (hW : (st.map fun v => v.category).sum ≤ 8) (hr : RR rm rm' M.2.2.1 a b)
    (hcall : RetK X.2.1 G N M rm' [v1, v2, v3, v4] S (KC X G nL N pc' lo st (a + rm'.2.2.1) (b + rm'.2.2.2) K)) : AW X G nL N pc lo (v4 :: v3 :: v2 :: v1 :: st) S a b := r_callSN (As := [v1, v2, v3, v4]) h hm hd hp hl hM rfl rfl hW hr hcall
theorem r_callV5 (h : OK X G N cc own nL rm) (hm : OKm X G N K ret rm) {M : MI} {rm' : Nat × Nat × Nat × Nat} {index k ci Nf : Nat} {C : String} {Tf : u_T} {fs : List Value} {v1 v2 v3 v4 v5 : Value} (hd : decode cc pc = .ok (.invokevirtual index, 3)) (hp : pc + 3 = pc')
    (hl : Cond.methodLink own index M.1 ∈ gw) (hM : MV M 5 C) (hcl : cls[ci]? = some (C, Tf, Nf)) (hk : k < N) (hc : S k = .inr (ci, fs)) (hW : (st.map fun v => v.category).sum ≤ 8) (hr : RR rm rm' M.2.2.1 a b)
    (hcall : RetK X.2.1 G N M rm' [.ref (ad G k), v1, v2, v3, v4, v5] S (KC X G nL N pc' lo st (a + rm'.2.2.1) (b + rm'.2.2.2) K)) : AW X G nL N pc lo (v5 :: v4 :: v3 :: v2 :: v1 :: .ref (ad G k) :: st) S a b := r_callV (As := [v1, v2, v3, v4, v5]) h hm hd hp hl hM hcl hk hc rfl rfl hW hr hcall
theorem r_callS5 (h : OK X G N cc own nL rm) (hm : OKm X G N K ret rm) {M : MI} {rm' : Nat × Nat × Nat × Nat} {index : Nat} {v1 v2 v3 v4 v5 : Value} (hd : decode cc pc = .ok (.invokestatic index, 3)) (hp : pc + 3 = pc') (hl : Cond.methodLink own index M.1 ∈ gw) (hM : MS M 5) (hW : (st.map fun v => v.category).sum ≤ 8) (hr : RR rm rm' M.2.2.1 a b)
    (hcall : RetK X.2.1 G N M rm' [v1, v2, v3, v4, v5] S (KC X G nL N pc' lo st (a + rm'.2.2.1) (b + rm'.2.2.2) K)) : AW X G nL N pc lo (v5 :: v4 :: v3 :: v2 :: v1 :: st) S a b := r_callS (As := [v1, v2, v3, v4, v5]) h hm hd hp hl hM rfl rfl hW hr hcall
theorem r_callSN5 (h : OK X G N cc own nL rm) (hm : OKm X G N K ret rm) {M : MI} {rm' : Nat × Nat × Nat × Nat} {index : Nat} {v1 v2 v3 v4 v5 : Value} (hd : decode cc pc = .ok (.invokestatic index, 3)) (hp : pc + 3 = pc') {host : String} (hl : Cond.methodLinkNest own index M.1 host ∈ nw) (hM : MS M 5) (hW : (st.map fun v => v.category).sum ≤ 8) (hr : RR rm rm' M.2.2.1 a b)
    (hcall : RetK X.2.1 G N M rm' [v1, v2, v3, v4, v5] S (KC X G nL N pc' lo st (a + rm'.2.2.1) (b + rm'.2.2.2) K)) : AW X G nL N pc lo (v5 :: v4 :: v3 :: v2 :: v1 :: st) S a b := r_callSN (As := [v1, v2, v3, v4, v5]) h hm hd hp hl hM rfl rfl hW hr hcall
theorem k_max : Cond.static Lib.Math.max.name ∈ gw ∧ Cond.initialized "java/lang/Math" ∈ gw ∧ Cond.code Lib.Math.max.name Lib.Math.max.code 2 (some .int) ∈ gw := ⟨gw_in (tb_4 221 (by decide +kernel)) (by decide +kernel), gw_in (tb_1 13 (by decide +kernel)) (by decide +kernel), gw_in (tb_4 222 (by decide +kernel)) (by decide +kernel)⟩
theorem r_max (h : OK X G N cc own nL rm) {index : Nat} {x y : Int32} (hd : decode cc pc = .ok (.invokestatic index, 3)) (hp : pc + 3 = pc') (hl : Cond.methodLink own index Lib.Math.max.name ∈ gw) (hr : (Nat.ble 1 rm.1 && Nat.ble ((st.map fun v => v.category).sum + 13) rm.2.1) = true ∧ (a ≤ rm.2.2.1 ∧ b ≤ rm.2.2.2)) (kk : AW X G nL N pc' lo (.int (if x < y then y else x) :: st) S a b) : AW X G nL N pc lo (.int y :: .int x :: st) S a b := by
  subst hp
  intro H locs ls hP hS hl2
  have hts := h.2.2.2.2.1
  have hb := hr.1
  simp only [Bool.and_eq_true] at hb
  exact va_mmax h.1 h.2.1 (h.2.2.1.trans hl2.1.symm) h.2.2.2.1 (hts _ hl) (hts _ k_max.1) (hts _ k_max.2.1) (hts _ k_max.2.2) (Nat.le_trans (Nat.le_of_ble_eq_true hb.1) h.2.2.2.2.2.2.2.2.2.2.2.1) (Nat.le_trans (Nat.le_of_ble_eq_true hb.2) h.2.2.2.2.2.2.2.2.2.2.2.2.1) (Nat.le_trans hr.2.1 h.2.2.2.2.2.2.2.2.2.2.2.2.2.1) (Nat.le_trans hr.2.2 h.2.2.2.2.2.2.2.2.2.2.2.2.2.2) hd (kk H locs ls hP hS hl2)
theorem k_min : Cond.static Lib.Math.min.name ∈ gw ∧ Cond.initialized "java/lang/Math" ∈ gw ∧ Cond.code Lib.Math.min.name Lib.Math.min.code 2 (some .int) ∈ gw := ⟨gw_in (tb_2 178 (by decide +kernel)) (by decide +kernel), gw_in (tb_1 13 (by decide +kernel)) (by decide +kernel), gw_in (tb_2 179 (by decide +kernel)) (by decide +kernel)⟩
theorem r_min (h : OK X G N cc own nL rm) {index : Nat} {x y : Int32} (hd : decode cc pc = .ok (.invokestatic index, 3)) (hp : pc + 3 = pc') (hl : Cond.methodLink own index Lib.Math.min.name ∈ gw) (hr : (Nat.ble 1 rm.1 && Nat.ble ((st.map fun v => v.category).sum + 13) rm.2.1) = true ∧ (a ≤ rm.2.2.1 ∧ b ≤ rm.2.2.2)) (kk : AW X G nL N pc' lo (.int (if y < x then y else x) :: st) S a b) : AW X G nL N pc lo (.int y :: .int x :: st) S a b := by
  subst hp
  intro H locs ls hP hS hl2
  have hts := h.2.2.2.2.1
  have hb := hr.1
  simp only [Bool.and_eq_true] at hb
  exact va_mmin h.1 h.2.1 (h.2.2.1.trans hl2.1.symm) h.2.2.2.1 (hts _ hl) (hts _ k_min.1) (hts _ k_min.2.1) (hts _ k_min.2.2) (Nat.le_trans (Nat.le_of_ble_eq_true hb.1) h.2.2.2.2.2.2.2.2.2.2.2.1) (Nat.le_trans (Nat.le_of_ble_eq_true hb.2) h.2.2.2.2.2.2.2.2.2.2.2.2.1) (Nat.le_trans hr.2.1 h.2.2.2.2.2.2.2.2.2.2.2.2.2.1) (Nat.le_trans hr.2.2 h.2.2.2.2.2.2.2.2.2.2.2.2.2.2) hd (kk H locs ls hP hS hl2)
/-- what a throw of an exception of the JDK's rests on -/
def TH (own : String) (ic : Nat) (E : String) (names : List String) : Prop := Bundle.fit E = true ∧ (∀ n ∈ names, Bundle.fit n = true) ∧ Cond.initialized E ∈ gw ∧ (∀ w ∈ vx_atS own ic E names, w ∈ gw ∨ w ∈ nw) ∧ (∀ w ∈ vx_atS own ic E names, vx_ot w = true) ∧ names.length ≤ 3
theorem th_words (h : OK X G N cc own nL rm) {ic : Nat} {E : String} {names : List String} (ht : TH own ic E names) : ∀ w ∈ vx_atS own ic E names, w.before X.2.2.2.2.2.2.1 X.2.2.2.2.1 = true := by
  intro w hw
  rcases ht.2.2.2.1 w hw with g | g
  · exact h.2.2.2.2.1 w g
  · have h2 := (List.mem_filter.mp g).2
    have h1 := h.2.2.2.2.2.2.2.2.2.1.2.2.2.2.2.2.1 w g
    cases w with
    | methodLinkNest _ _ _ _ => exact va_Nw.use rfl h1
    | declares _ => exact va_Nw.use rfl h1
    | castable _ _ => exact va_Nw.use rfl h1
    | _ => cases h2
theorem rrt {a b mc ms fr lc : Nat} {st : List Value} (e : (Nat.ble 7 fr && (Nat.ble ((st.map fun v => v.category).sum + 95) lc && (Nat.ble (a + 1) mc && Nat.ble (b + 6) ms))) = true) : 7 ≤ fr ∧ (st.map fun v => v.category).sum + 95 ≤ lc ∧ a + 1 ≤ mc ∧ b + 6 ≤ ms := by
  simp only [Bool.and_eq_true] at e
  exact ⟨Nat.le_of_ble_eq_true e.1, Nat.le_of_ble_eq_true e.2.1, Nat.le_of_ble_eq_true e.2.2.1, Nat.le_of_ble_eq_true e.2.2.2⟩
theorem r_throw (h : OK X G N cc own nL rm) (hm : OKm X G N K ret rm) {ik is ic i pc3 pc4 pc6 pc9 : Nat} {E text : String} {names : List String} (ht : TH own ic E names) (hk : Cond.classLink own ik E ∈ gw) (hs : strs[i]? = some (own, is, text)) (d0 : decode cc pc = .ok (.new ik, 3)) (d3 : decode cc pc3 = .ok (.dup, 1)) (d4 : decode cc pc4 = .ok (.ldc is, 2)) (d6 : decode cc pc6 = .ok (.invokespecial ic, 3)) (d9 : decode cc pc9 = .ok (.athrow, 1)) (hr : 7 ≤ rm.1 ∧ (st.map fun v => v.category).sum + 95 ≤ rm.2.1 ∧ a + 1 ≤ rm.2.2.1 ∧ b + 6 ≤ rm.2.2.2) (hpc : pc3 = pc + 3 ∧ pc4 = pc + 4 ∧ pc6 = pc + 6 ∧ pc9 = pc + 9) (hK : K (.inr E) S) : AW X G nL N pc lo st S a b := by
  obtain ⟨rfl, rfl, rfl, rfl⟩ := hpc
  intro H locs ls hP hS hl2
  have hts := h.2.2.2.2.1
  have hF := h.2.2.2.2.2.2.2.2.2.1
  obtain ⟨g1, g2, g3, g4⟩ := h.2.2.2.2.2.2.2.2.2.2.2
  unfold xW
  rw [hm.1]
  refine vx_throwS (A := AA G) h.1 h.2.1 h.2.2.2.2.2.2.2.2.1 h.2.2.2.1 ht.1 ht.2.1 (hts _ hk) (hts _ ht.2.2.1) (hF.2.2.1 i _ hs) (th_words h ht) ?_ hF.1 hF.2.1 hS (hl2.1.trans h.2.2.1.symm) d0 d3 d4 d6 d9 (fun x hx => (hm.2.2 x hx).elim) (by have := ht.2.2.2.2.2; omega) (by have := ht.2.2.2.2.2; omega) (by omega) (by omega) h.2.2.2.2.2.2.2.1 ?_ hS.2.2 hr.2.2.1 hr.2.2.2
  · intro w hw
    rcases List.mem_cons.mp hw with rfl | hw
    · rfl
    · rcases List.mem_cons.mp hw with rfl | hw
      · rfl
      · exact ht.2.2.2.2.1 w hw
  · intro t ht1 hz hq
    refine ⟨S, fun k q hq2 => (hP k q hq2).kept (hq _ (hP k q hq2).lt), hK, Nat.le_trans hS.1 hz, fun q h1 h2 => ?_⟩
    rw [hq q (Nat.lt_of_lt_of_le h1 hS.1)]
    exact hS.2.1 q h1 h2
theorem r_throwW (h : OK X G N cc own nL rm) (hm : OKm X G N K ret rm) {ik is ic i pc3 pc4 pc6 pc9 : Nat} {E text : String} {names : List String} (ht : TH own ic E names) (hk : Cond.classLink own ik E ∈ gw) (hs : strs[i]? = some (own, is, text)) (d0 : decode cc pc = .ok (.new ik, 3)) (d3 : decode cc pc3 = .ok (.dup, 1)) (d4 : decode cc pc4 = .ok (.ldc_w is, 3)) (d6 : decode cc pc6 = .ok (.invokespecial ic, 3)) (d9 : decode cc pc9 = .ok (.athrow, 1)) (hr : 7 ≤ rm.1 ∧ (st.map fun v => v.category).sum + 95 ≤ rm.2.1 ∧ a + 1 ≤ rm.2.2.1 ∧ b + 6 ≤ rm.2.2.2) (hpc : pc3 = pc + 3 ∧ pc4 = pc + 4 ∧ pc6 = pc + 7 ∧ pc9 = pc + 10) (hK : K (.inr E) S) : AW X G nL N pc lo st S a b := by
  obtain ⟨rfl, rfl, rfl, rfl⟩ := hpc
  intro H locs ls hP hS hl2
  have hts := h.2.2.2.2.1
  have hF := h.2.2.2.2.2.2.2.2.2.1
  obtain ⟨g1, g2, g3, g4⟩ := h.2.2.2.2.2.2.2.2.2.2.2
  unfold xW
  rw [hm.1]
  refine vx_throwSW (A := AA G) h.1 h.2.1 h.2.2.2.2.2.2.2.2.1 h.2.2.2.1 ht.1 ht.2.1 (hts _ hk) (hts _ ht.2.2.1) (hF.2.2.1 i _ hs) (th_words h ht) ?_ hF.1 hF.2.1 hS (hl2.1.trans h.2.2.1.symm) d0 d3 d4 d6 d9 (fun x hx => (hm.2.2 x hx).elim) (by have := ht.2.2.2.2.2; omega) (by have := ht.2.2.2.2.2; omega) (by omega) (by omega) h.2.2.2.2.2.2.2.1 ?_ hS.2.2 hr.2.2.1 hr.2.2.2
  · intro w hw
    rcases List.mem_cons.mp hw with rfl | hw
    · rfl
    · rcases List.mem_cons.mp hw with rfl | hw
      · rfl
      · exact ht.2.2.2.2.1 w hw
  · intro t ht1 hz hq
    refine ⟨S, fun k q hq2 => (hP k q hq2).kept (hq _ (hP k q hq2).lt), hK, Nat.le_trans hS.1 hz, fun q h1 h2 => ?_⟩
    rw [hq q (Nat.lt_of_lt_of_le h1 hS.1)]
    exact hS.2.1 q h1 h2
end MORE
