/-! THE ROWS OF AW, one an instruction: the locals by their numbers, the world by its places. -/
/-- a value of two slots -/
def catb : Value → Bool
  | .long _ => true
  | .double _ => true
  | _ => false
theorem catb_eq (v : Value) : (v.category == 2) = catb v := by cases v <;> rfl
def lget (i : Nat) : List (Nat × Value) → Option Value
  | [] => none
  | (j, w) :: t => match Nat.beq j i with
    | true => some w
    | false => lget i t
def lset (i : Nat) (v : Value) : Bool → List (Nat × Value) → Option (List (Nat × Value))
  | f, [] => match f with
    | true => some []
    | false => some [(i, v)]
  | f, (j, w) :: t => match Nat.beq j i with
    | true => match lset i v true t with
      | some t' => some ((i, v) :: t')
      | none => none
    | false => match Nat.beq (j + 1) i && catb w with
      | true => none
      | false => match lset i v f t with
        | some t' => some ((j, w) :: t')
        | none => none
theorem lget_at {ls : Array Slot} {nL : Nat} {i : Nat} {v : Value} : ∀ {lo : List (Nat × Value)}, lv_has ls nL lo → lget i lo = some v → ls[i]? = some (.val v)
  | [], _, h => by simp [lget] at h
  | (j, w) :: t, hl, h => by
    unfold lget at h
    cases hb : Nat.beq j i with
    | true =>
      rw [hb] at h
      cases h
      rw [← Nat.eq_of_beq_eq_true hb]
      exact hl.2.2 (j, v) List.mem_cons_self
    | false =>
      rw [hb] at h
      exact lget_at ⟨hl.1, hl.2.1, fun q hq => hl.2.2 q (List.mem_cons_of_mem _ hq)⟩ h
theorem nbeq (x y : Nat) : (x == y) = Nat.beq x y := by
  cases h : Nat.beq x y with
  | true => rw [Nat.eq_of_beq_eq_true h]; exact beq_self_eq_true y
  | false => exact beq_false_of_ne (Nat.ne_of_beq_eq_false h)
theorem lset_mem {i : Nat} {v : Value} : ∀ {f : Bool} {lo lo' : List (Nat × Value)}, lset i v f lo = some lo' → ∀ q ∈ lo', q = (i, v) ∨ (q ∈ lo ∧ (!(q.1 == i) && !(q.1 + 1 == i && q.2.category == 2)) = true)
  | true, [], lo', h, q, hq => by simp [lset] at h; subst h; cases hq
  | false, [], lo', h, q, hq => by simp [lset] at h; subst h; exact Or.inl (by simpa using hq)
  | f, (j, w) :: t, lo', h, q, hq => by
    unfold lset at h
    cases hb : Nat.beq j i with
    | true =>
      rw [hb] at h
      dsimp only at h
      cases hr : lset i v true t with
      | none => rw [hr] at h; cases h
      | some t' =>
        rw [hr] at h
        cases h
        rcases List.mem_cons.mp hq with rfl | hq
        · exact Or.inl rfl
        · rcases lset_mem hr q hq with h1 | ⟨h1, h2⟩
          · exact Or.inl h1
          · exact Or.inr ⟨List.mem_cons_of_mem _ h1, h2⟩
    | false =>
      rw [hb] at h
      dsimp only at h
      cases hc : Nat.beq (j + 1) i && catb w with
      | true => rw [hc] at h; cases h
      | false =>
        rw [hc] at h
        dsimp only at h
        cases hr : lset i v f t with
        | none => rw [hr] at h; cases h
        | some t' =>
          rw [hr] at h
          cases h
          rcases List.mem_cons.mp hq with rfl | hq
          · refine Or.inr ⟨List.mem_cons_self, ?_⟩
            have e1 : (j == i) = false := (nbeq j i).trans hb
            have e2 : (j + 1 == i && w.category == 2) = false := by rw [catb_eq, nbeq]; exact hc
            simp only [e1, e2]
            rfl
          · rcases lset_mem hr q hq with h1 | ⟨h1, h2⟩
            · exact Or.inl h1
            · exact Or.inr ⟨List.mem_cons_of_mem _ h1, h2⟩
theorem lset_has {ls : Array Slot} {nL i : Nat} {v : Value} {lo lo' : List (Nat × Value)} (h : lset i v false lo = some lo') (hl : lv_has ls nL ((i, v) :: lo.filter (fun q => !(q.1 == i) && !(q.1 + 1 == i && q.2.category == 2)))) : lv_has ls nL lo' :=
  ⟨hl.1, hl.2.1, fun q hq => hl.2.2 q (by
    rcases lset_mem h q hq with h1 | ⟨h1, h2⟩
    · rw [h1]; exact List.mem_cons_self
    · exact List.mem_cons_of_mem _ (List.mem_filter.mpr ⟨h1, h2⟩))⟩
/-- the listed values that a two-slot store at i leaves -/
def lset2 (i : Nat) (v : Value) (lo : List (Nat × Value)) : List (Nat × Value) := (i, v) :: lo.filter (fun q => !(q.1 == i) && (!(q.1 == i + 1) && !(q.1 + 1 == i && q.2.category == 2)))
section RULES
variable {X : CX} {G : GX} {cc : ByteArray} {own : String} {nL N pc pc' tgt : Nat} {lo lo' : List (Nat × Value)} {st : List Value} {S : Nat → va_E} {a b : Nat} {rm : Nat × Nat × Nat × Nat}
theorem r_iload_n (h : OK X G N cc own nL rm) {i : Fin 4} {x : Int32} (hd : decode cc pc = .ok (.iload_n i, 1)) (hp : pc + 1 = pc') (hj : lget (i : Nat) lo = some (.int x)) (kk : AW X G nL N pc' lo (.int x :: st) S a b) : AW X G nL N pc lo st S a b := by
  subst hp
  intro H locs ls hP hS hl
  exact lv_iload_n h.1 h.2.1 hd rfl (lget_at hl hj) (kk H locs ls hP hS hl)
theorem r_iload (h : OK X G N cc own nL rm) {i : Nat} {x : Int32} (hd : decode cc pc = .ok (.iload i, 2)) (hp : pc + 2 = pc') (hj : lget i lo = some (.int x)) (kk : AW X G nL N pc' lo (.int x :: st) S a b) : AW X G nL N pc lo st S a b := by
  subst hp
  intro H locs ls hP hS hl
  exact lv_iload h.1 h.2.1 hd (lget_at hl hj) (kk H locs ls hP hS hl)
theorem r_aload_n (h : OK X G N cc own nL rm) {i : Fin 4} {x : Nat} (hd : decode cc pc = .ok (.aload_n i, 1)) (hp : pc + 1 = pc') (hj : lget (i : Nat) lo = some (.ref x)) (kk : AW X G nL N pc' lo (.ref x :: st) S a b) : AW X G nL N pc lo st S a b := by
  subst hp
  intro H locs ls hP hS hl
  exact lv_aload_n h.1 h.2.1 hd rfl (lget_at hl hj) (kk H locs ls hP hS hl)
theorem r_aload (h : OK X G N cc own nL rm) {i : Nat} {x : Nat} (hd : decode cc pc = .ok (.aload i, 2)) (hp : pc + 2 = pc') (hj : lget i lo = some (.ref x)) (kk : AW X G nL N pc' lo (.ref x :: st) S a b) : AW X G nL N pc lo st S a b := by
  subst hp
  intro H locs ls hP hS hl
  exact lv_aload h.1 h.2.1 hd (lget_at hl hj) (kk H locs ls hP hS hl)
theorem r_lload_n (h : OK X G N cc own nL rm) {i : Fin 4} {x : Int64} (hd : decode cc pc = .ok (.lload_n i, 1)) (hp : pc + 1 = pc') (hj : lget (i : Nat) lo = some (.long x)) (kk : AW X G nL N pc' lo (.long x :: st) S a b) : AW X G nL N pc lo st S a b := by
  subst hp
  intro H locs ls hP hS hl
  exact lv_lload_n h.1 h.2.1 hd rfl (lget_at hl hj) (kk H locs ls hP hS hl)
theorem r_lload (h : OK X G N cc own nL rm) {i : Nat} {x : Int64} (hd : decode cc pc = .ok (.lload i, 2)) (hp : pc + 2 = pc') (hj : lget i lo = some (.long x)) (kk : AW X G nL N pc' lo (.long x :: st) S a b) : AW X G nL N pc lo st S a b := by
  subst hp
  intro H locs ls hP hS hl
  exact lv_lload h.1 h.2.1 hd (lget_at hl hj) (kk H locs ls hP hS hl)
theorem r_fload (h : OK X G N cc own nL rm) {i : Nat} {x : UInt32} (hd : decode cc pc = .ok (.fload i, 2)) (hp : pc + 2 = pc') (hj : lget i lo = some (.float x)) (kk : AW X G nL N pc' lo (.float x :: st) S a b) : AW X G nL N pc lo st S a b := by
  subst hp
  intro H locs ls hP hS hl
  exact lv_fload h.1 h.2.1 hd (lget_at hl hj) (kk H locs ls hP hS hl)
theorem r_dload (h : OK X G N cc own nL rm) {i : Nat} {x : UInt64} (hd : decode cc pc = .ok (.dload i, 2)) (hp : pc + 2 = pc') (hj : lget i lo = some (.double x)) (kk : AW X G nL N pc' lo (.double x :: st) S a b) : AW X G nL N pc lo st S a b := by
  subst hp
  intro H locs ls hP hS hl
  exact lv_dload h.1 h.2.1 hd (lget_at hl hj) (kk H locs ls hP hS hl)
theorem r_istore_n (h : OK X G N cc own nL rm) {i : Fin 4} {x : Int32} (hd : decode cc pc = .ok (.istore_n i, 1)) (hp : pc + 1 = pc') (hn : (i : Nat) < nL) (hj : lset (i : Nat) (.int x) false lo = some lo') (kk : AW X G nL N pc' lo' st S a b) : AW X G nL N pc lo (.int x :: st) S a b := by
  subst hp
  intro H locs ls hP hS hl
  exact lv_istore_n h.1 h.2.1 hd rfl hl hn rfl (fun ls' hl' => kk H locs ls' hP hS (lset_has hj hl'))
theorem r_istore (h : OK X G N cc own nL rm) {i : Nat} {x : Int32} (hd : decode cc pc = .ok (.istore i, 2)) (hp : pc + 2 = pc') (hn : i < nL) (hj : lset i (.int x) false lo = some lo') (kk : AW X G nL N pc' lo' st S a b) : AW X G nL N pc lo (.int x :: st) S a b := by
  subst hp
  intro H locs ls hP hS hl
  exact lv_istore h.1 h.2.1 hd hl hn rfl (fun ls' hl' => kk H locs ls' hP hS (lset_has hj hl'))
theorem r_astore_n (h : OK X G N cc own nL rm) {i : Fin 4} {x : Nat} (hd : decode cc pc = .ok (.astore_n i, 1)) (hp : pc + 1 = pc') (hn : (i : Nat) < nL) (hj : lset (i : Nat) (.ref x) false lo = some lo') (kk : AW X G nL N pc' lo' st S a b) : AW X G nL N pc lo (.ref x :: st) S a b := by
  subst hp
  intro H locs ls hP hS hl
  exact lv_astore_n h.1 h.2.1 hd rfl hl hn rfl (fun ls' hl' => kk H locs ls' hP hS (lset_has hj hl'))
theorem r_astore (h : OK X G N cc own nL rm) {i : Nat} {x : Nat} (hd : decode cc pc = .ok (.astore i, 2)) (hp : pc + 2 = pc') (hn : i < nL) (hj : lset i (.ref x) false lo = some lo') (kk : AW X G nL N pc' lo' st S a b) : AW X G nL N pc lo (.ref x :: st) S a b := by
  subst hp
  intro H locs ls hP hS hl
  exact lv_astore h.1 h.2.1 hd hl hn rfl (fun ls' hl' => kk H locs ls' hP hS (lset_has hj hl'))
theorem r_fstore (h : OK X G N cc own nL rm) {i : Nat} {x : UInt32} (hd : decode cc pc = .ok (.fstore i, 2)) (hp : pc + 2 = pc') (hn : i < nL) (hj : lset i (.float x) false lo = some lo') (kk : AW X G nL N pc' lo' st S a b) : AW X G nL N pc lo (.float x :: st) S a b := by
  subst hp
  intro H locs ls hP hS hl
  exact lv_fstore h.1 h.2.1 hd hl hn rfl (fun ls' hl' => kk H locs ls' hP hS (lset_has hj hl'))
theorem r_dstore (h : OK X G N cc own nL rm) {i : Nat} {x : UInt64} (hd : decode cc pc = .ok (.dstore i, 2)) (hp : pc + 2 = pc') (hn : i + 1 < nL) (hj : lset2 i (.double x) lo = lo') (kk : AW X G nL N pc' lo' st S a b) : AW X G nL N pc lo (.double x :: st) S a b := by
  subst hp
  intro H locs ls hP hS hl
  exact lv_dstore h.1 h.2.1 hd hl hn hj (fun ls' hl' => kk H locs ls' hP hS hl')
theorem r_lstore_n (h : OK X G N cc own nL rm) {i : Fin 4} {x : Int64} (hd : decode cc pc = .ok (.lstore_n i, 1)) (hp : pc + 1 = pc') (hn : (i : Nat) + 1 < nL) (hj : lset2 (i : Nat) (.long x) lo = lo') (kk : AW X G nL N pc' lo' st S a b) : AW X G nL N pc lo (.long x :: st) S a b := by
  subst hp
  intro H locs ls hP hS hl
  exact lv_lstore_n h.1 h.2.1 hd rfl hl hn hj (fun ls' hl' => kk H locs ls' hP hS hl')
theorem lget_key {i : Nat} {v : Value} : ∀ {lo : List (Nat × Value)}, lget i lo = some v → ∃ k : Nat, lo[k]? = some (i, v)
  | [], h => by simp [lget] at h
  | (j, w) :: t, h => by
    unfold lget at h
    cases hb : Nat.beq j i with
    | true =>
      rw [hb] at h
      cases h
      exact ⟨0, by rw [← Nat.eq_of_beq_eq_true hb]; rfl⟩
    | false =>
      rw [hb] at h
      obtain ⟨k, hk⟩ := lget_key h
      exact ⟨k + 1, by simpa using hk⟩
theorem r_iinc (h : OK X G N cc own nL rm) {i : Nat} {n : Int} {x v : Int32} (hd : decode cc pc = .ok (.iinc i n, 3)) (hp : pc + 3 = pc') (hv : Int32.ofInt n = v) (hn : i < nL) (hg : lget i lo = some (.int x)) (hj : lset i (.int (x + v)) false lo = some lo') (kk : AW X G nL N pc' lo' st S a b) : AW X G nL N pc lo st S a b := by
  subst hp
  subst hv
  intro H locs ls hP hS hl
  obtain ⟨k, hk⟩ := lget_key hg
  exact lv_iinc h.1 h.2.1 hd hl hk rfl hn rfl (fun ls' hl' => kk H locs ls' hP hS (lset_has hj hl'))
theorem r_iconst (h : OK X G N cc own nL rm) {n : Int} {v : Int32} (hd : decode cc pc = .ok (.iconst n, 1)) (hp : pc + 1 = pc') (hv : Int32.ofInt n = v) (kk : AW X G nL N pc' lo (.int v :: st) S a b) : AW X G nL N pc lo st S a b := by
  subst hp
  intro H locs ls hP hS hl
  exact lv_iconst h.1 h.2.1 hd hv (kk H locs ls hP hS hl)
theorem r_bipush (h : OK X G N cc own nL rm) {n : Int} {v : Int32} (hd : decode cc pc = .ok (.bipush n, 2)) (hp : pc + 2 = pc') (hv : (Int8.ofInt n).toInt32 = v) (kk : AW X G nL N pc' lo (.int v :: st) S a b) : AW X G nL N pc lo st S a b := by
  subst hp
  intro H locs ls hP hS hl
  exact lv_bipush h.1 h.2.1 hd hv (kk H locs ls hP hS hl)
theorem r_sipush (h : OK X G N cc own nL rm) {n : Int} {v : Int32} (hd : decode cc pc = .ok (.sipush n, 3)) (hp : pc + 3 = pc') (hv : (Int16.ofInt n).toInt32 = v) (kk : AW X G nL N pc' lo (.int v :: st) S a b) : AW X G nL N pc lo st S a b := by
  subst hp
  intro H locs ls hP hS hl
  exact lv_sipush h.1 h.2.1 hd hv (kk H locs ls hP hS hl)
theorem r_lconst (h : OK X G N cc own nL rm) {n : Fin 2} {v : Int64} (hd : decode cc pc = .ok (.lconst n, 1)) (hp : pc + 1 = pc') (hv : Int64.ofNat (n : Nat) = v) (kk : AW X G nL N pc' lo (.long v :: st) S a b) : AW X G nL N pc lo st S a b := by
  subst hp
  intro H locs ls hP hS hl
  exact lv_lconst h.1 h.2.1 hd hv (kk H locs ls hP hS hl)
theorem r_null (h : OK X G N cc own nL rm)  (hd : decode cc pc = .ok (.aconst_null, 1)) (hp : pc + 1 = pc') (kk : AW X G nL N pc' lo (.null :: st) S a b) : AW X G nL N pc lo st S a b := by
  subst hp
  intro H locs ls hP hS hl
  exact lv_null h.1 h.2.1 hd (kk H locs ls hP hS hl)
theorem r_dup (h : OK X G N cc own nL rm) {v : Value} (hd : decode cc pc = .ok (.dup, 1)) (hp : pc + 1 = pc') (hv : v.category = 1) (kk : AW X G nL N pc' lo (v :: v :: st) S a b) : AW X G nL N pc lo (v :: st) S a b := by
  subst hp
  intro H locs ls hP hS hl
  exact lv_dup h.1 h.2.1 hd hv (kk H locs ls hP hS hl)
theorem r_pop (h : OK X G N cc own nL rm) {v : Value} (hd : decode cc pc = .ok (.pop, 1)) (hp : pc + 1 = pc') (hv : v.category = 1) (kk : AW X G nL N pc' lo st S a b) : AW X G nL N pc lo (v :: st) S a b := by
  subst hp
  intro H locs ls hP hS hl
  exact lv_pop h.1 h.2.1 hd hv (kk H locs ls hP hS hl)
theorem r_dup2 (h : OK X G N cc own nL rm) {v w : Value} (hd : decode cc pc = .ok (.dup2, 1)) (hp : pc + 1 = pc') (hv : v.category = 1) (hw : w.category = 1) (kk : AW X G nL N pc' lo (v :: w :: v :: w :: st) S a b) : AW X G nL N pc lo (v :: w :: st) S a b := by
  subst hp
  intro H locs ls hP hS hl
  exact lv_dup2_11 h.1 h.2.1 hd hv hw (kk H locs ls hP hS hl)
theorem r_iadd (h : OK X G N cc own nL rm) {x y : Int32} (hd : decode cc pc = .ok (.iadd, 1)) (hp : pc + 1 = pc') (kk : AW X G nL N pc' lo (.int (x + y) :: st) S a b) : AW X G nL N pc lo (.int y :: .int x :: st) S a b := by
  subst hp
  intro H locs ls hP hS hl
  exact lv_iadd h.1 h.2.1 hd (kk H locs ls hP hS hl)
theorem r_isub (h : OK X G N cc own nL rm) {x y : Int32} (hd : decode cc pc = .ok (.isub, 1)) (hp : pc + 1 = pc') (kk : AW X G nL N pc' lo (.int (x - y) :: st) S a b) : AW X G nL N pc lo (.int y :: .int x :: st) S a b := by
  subst hp
  intro H locs ls hP hS hl
  exact lv_isub h.1 h.2.1 hd (kk H locs ls hP hS hl)
theorem r_imul (h : OK X G N cc own nL rm) {x y : Int32} (hd : decode cc pc = .ok (.imul, 1)) (hp : pc + 1 = pc') (kk : AW X G nL N pc' lo (.int (x * y) :: st) S a b) : AW X G nL N pc lo (.int y :: .int x :: st) S a b := by
  subst hp
  intro H locs ls hP hS hl
  exact lv_imul h.1 h.2.1 hd (kk H locs ls hP hS hl)
theorem r_iand (h : OK X G N cc own nL rm) {x y : Int32} (hd : decode cc pc = .ok (.iand, 1)) (hp : pc + 1 = pc') (kk : AW X G nL N pc' lo (.int (x &&& y) :: st) S a b) : AW X G nL N pc lo (.int y :: .int x :: st) S a b := by
  subst hp
  intro H locs ls hP hS hl
  exact lv_iand h.1 h.2.1 hd (kk H locs ls hP hS hl)
theorem r_idiv (h : OK X G N cc own nL rm) {x y : Int32} (hd : decode cc pc = .ok (.idiv, 1)) (hp : pc + 1 = pc') (hne : ¬ y = 0) (kk : AW X G nL N pc' lo (.int (x / y) :: st) S a b) : AW X G nL N pc lo (.int y :: .int x :: st) S a b := by
  subst hp
  intro H locs ls hP hS hl
  exact lv_idiv h.1 h.2.1 hd hne (kk H locs ls hP hS hl)
theorem r_irem (h : OK X G N cc own nL rm) {x y : Int32} (hd : decode cc pc = .ok (.irem, 1)) (hp : pc + 1 = pc') (hne : ¬ y = 0) (kk : AW X G nL N pc' lo (.int (x - x / y * y) :: st) S a b) : AW X G nL N pc lo (.int y :: .int x :: st) S a b := by
  subst hp
  intro H locs ls hP hS hl
  exact lv_irem h.1 h.2.1 hd hne (kk H locs ls hP hS hl)
theorem r_ineg (h : OK X G N cc own nL rm) {x : Int32} (hd : decode cc pc = .ok (.ineg, 1)) (hp : pc + 1 = pc') (kk : AW X G nL N pc' lo (.int (-x) :: st) S a b) : AW X G nL N pc lo (.int x :: st) S a b := by
  subst hp
  intro H locs ls hP hS hl
  exact lv_ineg h.1 h.2.1 hd (kk H locs ls hP hS hl)
theorem r_ladd (h : OK X G N cc own nL rm) {x y : Int64} (hd : decode cc pc = .ok (.ladd, 1)) (hp : pc + 1 = pc') (kk : AW X G nL N pc' lo (.long (x + y) :: st) S a b) : AW X G nL N pc lo (.long y :: .long x :: st) S a b := by
  subst hp
  intro H locs ls hP hS hl
  exact lv_ladd h.1 h.2.1 hd (kk H locs ls hP hS hl)
theorem r_lsub (h : OK X G N cc own nL rm) {x y : Int64} (hd : decode cc pc = .ok (.lsub, 1)) (hp : pc + 1 = pc') (kk : AW X G nL N pc' lo (.long (x - y) :: st) S a b) : AW X G nL N pc lo (.long y :: .long x :: st) S a b := by
  subst hp
  intro H locs ls hP hS hl
  exact lv_lsub h.1 h.2.1 hd (kk H locs ls hP hS hl)
theorem r_i2l (h : OK X G N cc own nL rm) {x : Int32} (hd : decode cc pc = .ok (.i2l, 1)) (hp : pc + 1 = pc') (kk : AW X G nL N pc' lo (.long x.toInt64 :: st) S a b) : AW X G nL N pc lo (.int x :: st) S a b := by
  subst hp
  intro H locs ls hP hS hl
  exact lv_i2l h.1 h.2.1 hd rfl (kk H locs ls hP hS hl)
theorem r_l2i (h : OK X G N cc own nL rm) {x : Int64} (hd : decode cc pc = .ok (.l2i, 1)) (hp : pc + 1 = pc') (kk : AW X G nL N pc' lo (.int x.toInt32 :: st) S a b) : AW X G nL N pc lo (.long x :: st) S a b := by
  subst hp
  intro H locs ls hP hS hl
  exact lv_l2i h.1 h.2.1 hd rfl (kk H locs ls hP hS hl)
theorem r_i2c (h : OK X G N cc own nL rm) {x : Int32} (hd : decode cc pc = .ok (.i2c, 1)) (hp : pc + 1 = pc') (kk : AW X G nL N pc' lo (.int (x.toUInt32 % 65536).toInt32 :: st) S a b) : AW X G nL N pc lo (.int x :: st) S a b := by
  subst hp
  intro H locs ls hP hS hl
  exact lv_i2c h.1 h.2.1 hd rfl (kk H locs ls hP hS hl)
theorem r_i2f (h : OK X G N cc own nL rm) {x : Int32} (hd : decode cc pc = .ok (.i2f, 1)) (hp : pc + 1 = pc') (kk : AW X G nL N pc' lo (.float (FP.i2f x) :: st) S a b) : AW X G nL N pc lo (.int x :: st) S a b := by
  subst hp
  intro H locs ls hP hS hl
  exact lv_i2f h.1 h.2.1 hd (kk H locs ls hP hS hl)
theorem r_i2d (h : OK X G N cc own nL rm) {x : Int32} (hd : decode cc pc = .ok (.i2d, 1)) (hp : pc + 1 = pc') (kk : AW X G nL N pc' lo (.double (FP.i2d x) :: st) S a b) : AW X G nL N pc lo (.int x :: st) S a b := by
  subst hp
  intro H locs ls hP hS hl
  exact lv_i2d h.1 h.2.1 hd (kk H locs ls hP hS hl)
theorem r_fdiv (h : OK X G N cc own nL rm) {x y : UInt32} (hd : decode cc pc = .ok (.fdiv, 1)) (hp : pc + 1 = pc') (hn : vf_n32 (FP.fdiv x y)) (kk : AW X G nL N pc' lo (.float (FP.fdiv x y) :: st) S a b) : AW X G nL N pc lo (.float y :: .float x :: st) S a b := by
  subst hp
  intro H locs ls hP hS hl
  exact lv_fdiv h.1 h.2.1 hd hn (kk H locs ls hP hS hl)
theorem r_ddiv (h : OK X G N cc own nL rm) {x y : UInt64} (hd : decode cc pc = .ok (.ddiv, 1)) (hp : pc + 1 = pc') (hn : vf_n64 (FP.ddiv x y)) (kk : AW X G nL N pc' lo (.double (FP.ddiv x y) :: st) S a b) : AW X G nL N pc lo (.double y :: .double x :: st) S a b := by
  subst hp
  intro H locs ls hP hS hl
  exact lv_ddiv h.1 h.2.1 hd hn (kk H locs ls hP hS hl)
theorem r_f2d (h : OK X G N cc own nL rm) {x : UInt32} (hd : decode cc pc = .ok (.f2d, 1)) (hp : pc + 1 = pc') (hn : vf_n64 (FP.f2d x)) (kk : AW X G nL N pc' lo (.double (FP.f2d x) :: st) S a b) : AW X G nL N pc lo (.float x :: st) S a b := by
  subst hp
  intro H locs ls hP hS hl
  exact lv_f2d h.1 h.2.1 hd hn (kk H locs ls hP hS hl)
theorem r_dcmp (h : OK X G N cc own nL rm) {x y : UInt64} {op : CmpOp} (hd : decode cc pc = .ok (.dcmp op, 1)) (hp : pc + 1 = pc') (kk : AW X G nL N pc' lo (.int (Op.cmpValue (FP.dcmp x y) op) :: st) S a b) : AW X G nL N pc lo (.double y :: .double x :: st) S a b := by
  subst hp
  intro H locs ls hP hS hl
  exact lv_dcmp h.1 h.2.1 hd (kk H locs ls hP hS hl)
theorem r_fcmp (h : OK X G N cc own nL rm) {x y : UInt32} {op : CmpOp} (hd : decode cc pc = .ok (.fcmp op, 1)) (hp : pc + 1 = pc') (kk : AW X G nL N pc' lo (.int (Op.cmpValue (FP.fcmp x y) op) :: st) S a b) : AW X G nL N pc lo (.float y :: .float x :: st) S a b := by
  subst hp
  intro H locs ls hP hS hl
  exact lv_fcmp h.1 h.2.1 hd (kk H locs ls hP hS hl)
theorem r_lcmp (h : OK X G N cc own nL rm) {x y : Int64} (hd : decode cc pc = .ok (.lcmp, 1)) (hp : pc + 1 = pc') (kk : AW X G nL N pc' lo (.int (lg_cmp x y) :: st) S a b) : AW X G nL N pc lo (.long y :: .long x :: st) S a b := by
  subst hp
  intro H locs ls hP hS hl
  exact W.lcmp h.1 h.2.1 hd (kk H locs ls hP hS hl)
theorem r_goto (h : OK X G N cc own nL rm) {off : Int} (hd : decode cc pc = .ok (.goto off, 3)) (ht : (pc : Int) + off = (tgt : Int)) (kk : AW X G nL N tgt lo st S a b) : AW X G nL N pc lo st S a b := by
  intro H locs ls hP hS hl
  exact lv_goto h.1 h.2.1 hd ht (kk H locs ls hP hS hl)
theorem r_if_eq (h : OK X G N cc own nL rm) {x : Int32} {off : Int} (hd : decode cc pc = .ok (.ifCond .eq off, 3)) (ht : (pc : Int) + off = (tgt : Int)) (hp : pc + 3 = pc') (kt : x = 0 → AW X G nL N tgt lo st S a b) (kf : ¬ x = 0 → AW X G nL N pc' lo st S a b) : AW X G nL N pc lo (.int x :: st) S a b := by
  subst hp
  intro H locs ls hP hS hl
  refine lv_if_eq h.1 h.2.1 hd ht (fun z => kt z H locs ls hP hS hl) (fun z => kf z H locs ls hP hS hl)
theorem r_if_ne (h : OK X G N cc own nL rm) {x : Int32} {off : Int} (hd : decode cc pc = .ok (.ifCond .ne off, 3)) (ht : (pc : Int) + off = (tgt : Int)) (hp : pc + 3 = pc') (kt : ¬ x = 0 → AW X G nL N tgt lo st S a b) (kf : x = 0 → AW X G nL N pc' lo st S a b) : AW X G nL N pc lo (.int x :: st) S a b := by
  subst hp
  intro H locs ls hP hS hl
  refine lv_if_ne h.1 h.2.1 hd ht (fun z => kt z H locs ls hP hS hl) (fun z => kf z H locs ls hP hS hl)
theorem r_if_lt (h : OK X G N cc own nL rm) {x : Int32} {off : Int} (hd : decode cc pc = .ok (.ifCond .lt off, 3)) (ht : (pc : Int) + off = (tgt : Int)) (hp : pc + 3 = pc') (kt : x < 0 → AW X G nL N tgt lo st S a b) (kf : ¬ x < 0 → AW X G nL N pc' lo st S a b) : AW X G nL N pc lo (.int x :: st) S a b := by
  subst hp
  intro H locs ls hP hS hl
  refine lv_if_lt h.1 h.2.1 hd ht (fun z => kt z H locs ls hP hS hl) (fun z => kf z H locs ls hP hS hl)
theorem r_if_ge (h : OK X G N cc own nL rm) {x : Int32} {off : Int} (hd : decode cc pc = .ok (.ifCond .ge off, 3)) (ht : (pc : Int) + off = (tgt : Int)) (hp : pc + 3 = pc') (kt : 0 ≤ x → AW X G nL N tgt lo st S a b) (kf : ¬ 0 ≤ x → AW X G nL N pc' lo st S a b) : AW X G nL N pc lo (.int x :: st) S a b := by
  subst hp
  intro H locs ls hP hS hl
  refine lv_if_ge h.1 h.2.1 hd ht (fun z => kt z H locs ls hP hS hl) (fun z => kf z H locs ls hP hS hl)
theorem r_if_gt (h : OK X G N cc own nL rm) {x : Int32} {off : Int} (hd : decode cc pc = .ok (.ifCond .gt off, 3)) (ht : (pc : Int) + off = (tgt : Int)) (hp : pc + 3 = pc') (kt : 0 < x → AW X G nL N tgt lo st S a b) (kf : ¬ 0 < x → AW X G nL N pc' lo st S a b) : AW X G nL N pc lo (.int x :: st) S a b := by
  subst hp
  intro H locs ls hP hS hl
  refine lv_if_gt h.1 h.2.1 hd ht (fun z => kt z H locs ls hP hS hl) (fun z => kf z H locs ls hP hS hl)
theorem r_if_le (h : OK X G N cc own nL rm) {x : Int32} {off : Int} (hd : decode cc pc = .ok (.ifCond .le off, 3)) (ht : (pc : Int) + off = (tgt : Int)) (hp : pc + 3 = pc') (kt : x ≤ 0 → AW X G nL N tgt lo st S a b) (kf : ¬ x ≤ 0 → AW X G nL N pc' lo st S a b) : AW X G nL N pc lo (.int x :: st) S a b := by
  subst hp
  intro H locs ls hP hS hl
  refine lv_if_le h.1 h.2.1 hd ht (fun z => kt z H locs ls hP hS hl) (fun z => kf z H locs ls hP hS hl)
theorem r_icmp_eq (h : OK X G N cc own nL rm) {x y : Int32} {off : Int} (hd : decode cc pc = .ok (.if_icmp .eq off, 3)) (ht : (pc : Int) + off = (tgt : Int)) (hp : pc + 3 = pc') (kt : x = y → AW X G nL N tgt lo st S a b) (kf : ¬ x = y → AW X G nL N pc' lo st S a b) : AW X G nL N pc lo (.int y :: .int x :: st) S a b := by
  subst hp
  intro H locs ls hP hS hl
  refine lv_icmp_eq h.1 h.2.1 hd ht (fun z => kt z H locs ls hP hS hl) (fun z => kf z H locs ls hP hS hl)
theorem r_icmp_ne (h : OK X G N cc own nL rm) {x y : Int32} {off : Int} (hd : decode cc pc = .ok (.if_icmp .ne off, 3)) (ht : (pc : Int) + off = (tgt : Int)) (hp : pc + 3 = pc') (kt : ¬ x = y → AW X G nL N tgt lo st S a b) (kf : x = y → AW X G nL N pc' lo st S a b) : AW X G nL N pc lo (.int y :: .int x :: st) S a b := by
  subst hp
  intro H locs ls hP hS hl
  refine lv_icmp_ne h.1 h.2.1 hd ht (fun z => kt z H locs ls hP hS hl) (fun z => kf z H locs ls hP hS hl)
theorem r_icmp_lt (h : OK X G N cc own nL rm) {x y : Int32} {off : Int} (hd : decode cc pc = .ok (.if_icmp .lt off, 3)) (ht : (pc : Int) + off = (tgt : Int)) (hp : pc + 3 = pc') (kt : x < y → AW X G nL N tgt lo st S a b) (kf : ¬ x < y → AW X G nL N pc' lo st S a b) : AW X G nL N pc lo (.int y :: .int x :: st) S a b := by
  subst hp
  intro H locs ls hP hS hl
  refine lv_icmp_lt h.1 h.2.1 hd ht (fun z => kt z H locs ls hP hS hl) (fun z => kf z H locs ls hP hS hl)
theorem r_icmp_ge (h : OK X G N cc own nL rm) {x y : Int32} {off : Int} (hd : decode cc pc = .ok (.if_icmp .ge off, 3)) (ht : (pc : Int) + off = (tgt : Int)) (hp : pc + 3 = pc') (kt : y ≤ x → AW X G nL N tgt lo st S a b) (kf : ¬ y ≤ x → AW X G nL N pc' lo st S a b) : AW X G nL N pc lo (.int y :: .int x :: st) S a b := by
  subst hp
  intro H locs ls hP hS hl
  refine lv_icmp_ge h.1 h.2.1 hd ht (fun z => kt z H locs ls hP hS hl) (fun z => kf z H locs ls hP hS hl)
theorem r_icmp_gt (h : OK X G N cc own nL rm) {x y : Int32} {off : Int} (hd : decode cc pc = .ok (.if_icmp .gt off, 3)) (ht : (pc : Int) + off = (tgt : Int)) (hp : pc + 3 = pc') (kt : y < x → AW X G nL N tgt lo st S a b) (kf : ¬ y < x → AW X G nL N pc' lo st S a b) : AW X G nL N pc lo (.int y :: .int x :: st) S a b := by
  subst hp
  intro H locs ls hP hS hl
  refine lv_icmp_gt h.1 h.2.1 hd ht (fun z => kt z H locs ls hP hS hl) (fun z => kf z H locs ls hP hS hl)
theorem r_icmp_le (h : OK X G N cc own nL rm) {x y : Int32} {off : Int} (hd : decode cc pc = .ok (.if_icmp .le off, 3)) (ht : (pc : Int) + off = (tgt : Int)) (hp : pc + 3 = pc') (kt : x ≤ y → AW X G nL N tgt lo st S a b) (kf : ¬ x ≤ y → AW X G nL N pc' lo st S a b) : AW X G nL N pc lo (.int y :: .int x :: st) S a b := by
  subst hp
  intro H locs ls hP hS hl
  refine lv_icmp_le h.1 h.2.1 hd ht (fun z => kt z H locs ls hP hS hl) (fun z => kf z H locs ls hP hS hl)
theorem r_ifnull (h : OK X G N cc own nL rm) {x : Nat} {off : Int} (hd : decode cc pc = .ok (.ifnull off, 3)) (hp : pc + 3 = pc') (kk : AW X G nL N pc' lo st S a b) : AW X G nL N pc lo (.ref x :: st) S a b := by
  subst hp
  intro H locs ls hP hS hl
  exact lv_ifnull h.1 h.2.1 hd (kk H locs ls hP hS hl)
theorem r_ifnullN (h : OK X G N cc own nL rm) {off : Int} (hd : decode cc pc = .ok (.ifnull off, 3)) (ht : (pc : Int) + off = (tgt : Int)) (kk : AW X G nL N tgt lo st S a b) : AW X G nL N pc lo (.null :: st) S a b := by
  intro H locs ls hP hS hl
  exact lv_ifnullN h.1 h.2.1 hd ht (kk H locs ls hP hS hl)
theorem r_ifnonnull (h : OK X G N cc own nL rm) {x : Nat} {off : Int} (hd : decode cc pc = .ok (.ifnonnull off, 3)) (ht : (pc : Int) + off = (tgt : Int)) (kk : AW X G nL N tgt lo st S a b) : AW X G nL N pc lo (.ref x :: st) S a b := by
  intro H locs ls hP hS hl
  exact lv_ifnonnull h.1 h.2.1 hd ht (kk H locs ls hP hS hl)
theorem r_tableIn (h : OK X G N cc own nL rm) {dflt lw hi : Int} {offs : Array Int} {len : Nat} {x : Int32} {off : Int} (hd : decode cc pc = .ok (.tableswitch dflt lw hi offs, len)) (h1 : ¬ x.toInt < lw) (h2 : ¬ hi < x.toInt) (ho : offs[(x.toInt - lw).toNat]? = some off) (ht : (pc : Int) + off = (tgt : Int)) (kk : AW X G nL N tgt lo st S a b) : AW X G nL N pc lo (.int x :: st) S a b := by
  intro H locs ls hP hS hl
  exact lv_tableIn h.1 h.2.1 hd h1 h2 ho ht (kk H locs ls hP hS hl)
theorem r_tableOut (h : OK X G N cc own nL rm) {dflt lw hi : Int} {offs : Array Int} {len : Nat} {x : Int32} (hd : decode cc pc = .ok (.tableswitch dflt lw hi offs, len)) (h1 : x.toInt < lw ∨ hi < x.toInt) (ht : (pc : Int) + dflt = (tgt : Int)) (kk : AW X G nL N tgt lo st S a b) : AW X G nL N pc lo (.int x :: st) S a b := by
  intro H locs ls hP hS hl
  exact lv_tableOut h.1 h.2.1 hd h1 ht (kk H locs ls hP hS hl)
theorem r_lookup (h : OK X G N cc own nL rm) {dflt : Int} {ps : Array (Int × Int)} {len : Nat} {x : Int32} {off : Int} (hd : decode cc pc = .ok (.lookupswitch dflt ps, len)) (hs : (ps.toList.zip (ps.toList.drop 1)).all (fun (a, next) => a.1 < next.1) = true) (ho : Op.lookupswitch.offset ps.toList dflt x.toInt = off) (ht : (pc : Int) + off = (tgt : Int)) (kk : AW X G nL N tgt lo st S a b) : AW X G nL N pc lo (.int x :: st) S a b := by
  intro H locs ls hP hS hl
  exact lv_lookup h.1 h.2.1 hd hs ho ht (kk H locs ls hP hS hl)
/-- fewer locals, in another order -/
theorem r_sub (ks : List Nat) (hs : lv_pick lo ks = lo') (kk : AW X G nL N pc lo' st S a b) : AW X G nL N pc lo st S a b := fun H locs ls hP hS hl => kk H locs ls hP hS (lv_sub hl ks hs)
/-- the cells and slots made, counted up -/
theorem r_widen {a' b' : Nat} (h1 : a ≤ a') (h2 : b ≤ b') (kk : AW X G nL N pc lo st S a' b') : AW X G nL N pc lo st S a b := fun H locs ls hP hS hl => W.widen h1 h2 (kk H locs ls hP hS hl)
theorem r_world {S' : Nat → va_E} (e : ∀ k, k < N → S k = S' k) (kk : AW X G nL N pc lo st S' a b) : AW X G nL N pc lo st S a b := by
  intro H locs ls hP hS hl
  refine kk H locs ls ?_ hS hl
  have e2 : wl G N S = wl G N S' := List.map_congr_left (fun k hk => by rw [List.mem_range] at hk; rw [e k hk])
  rw [← e2]
  exact hP
theorem r_iald (h : OK X G N cc own nL rm) {k n : Nat} {f : Nat → Int32} {i : Int32} (hd : decode cc pc = .ok (.iaload, 1)) (hp : pc + 1 = pc') (hk : k < N) (hc : S k = .inl (gI G, n, .inl f)) (hin : vp_in i n) (kk : AW X G nL N pc' lo (.int (f i.toNatClampNeg) :: st) S a b) : AW X G nL N pc lo (.int i :: .ref (ad G k) :: st) S a b := by
  subst hp
  intro H locs ls hP hS hl
  exact va_iald h.1 h.2.1 h.2.2.2.2.2.1 hP k 0 (by rw [wl_get hk, hc]) rfl hin hd (kk H locs ls hP hS hl)
theorem r_cald (h : OK X G N cc own nL rm) {k n : Nat} {f : Nat → Int32} {i : Int32} (hd : decode cc pc = .ok (.caload, 1)) (hp : pc + 1 = pc') (hk : k < N) (hc : S k = .inl (gC G, n, .inl f)) (hin : vp_in i n) (kk : AW X G nL N pc' lo (.int (f i.toNatClampNeg) :: st) S a b) : AW X G nL N pc lo (.int i :: .ref (ad G k) :: st) S a b := by
  subst hp
  intro H locs ls hP hS hl
  exact va_cald h.1 h.2.1 h.2.2.2.2.2.1 hP k 1 (by rw [wl_get hk, hc]) rfl hin hd (kk H locs ls hP hS hl)
theorem r_iast (h : OK X G N cc own nL rm) {k n : Nat} {f : Nat → Int32} {i : Int32} {x : Int32} (hd : decode cc pc = .ok (.iastore, 1)) (hp : pc + 1 = pc') (hk : k < N) (hc : S k = .inl (gI G, n, .inl f)) (hin : vp_in i n) (kk : AW X G nL N pc' lo st (va_up S k (.inl (gI G, n, .inl (upd f i.toNatClampNeg x)))) a b) : AW X G nL N pc lo (.int x :: .int i :: .ref (ad G k) :: st) S a b := by
  subst hp
  intro H locs ls hP hS hl
  exact va_iast h.1 h.2.1 h.2.2.2.2.2.1 hP h.2.2.2.2.2.2.2.2.2.2.1.D hS k 0 (by rw [wl_get hk, hc]) rfl hin hd (fun H1 locs1 hP1 _ hS1 => kk H1 locs1 ls (by rw [wl_set] at hP1; exact hP1) hS1 hl)
theorem r_cast (h : OK X G N cc own nL rm) {k n : Nat} {f : Nat → Int32} {i : Int32} {x : Int32} (hd : decode cc pc = .ok (.castore, 1)) (hp : pc + 1 = pc') (hk : k < N) (hc : S k = .inl (gC G, n, .inl f)) (hin : vp_in i n) (kk : AW X G nL N pc' lo st (va_up S k (.inl (gC G, n, .inl (upd f i.toNatClampNeg (vp_nar .char x))))) a b) : AW X G nL N pc lo (.int x :: .int i :: .ref (ad G k) :: st) S a b := by
  subst hp
  intro H locs ls hP hS hl
  exact va_cast h.1 h.2.1 h.2.2.2.2.2.1 hP h.2.2.2.2.2.2.2.2.2.2.1.D hS k 1 (by rw [wl_get hk, hc]) rfl hin hd (fun H1 locs1 hP1 _ hS1 => kk H1 locs1 ls (by rw [wl_set] at hP1; exact hP1) hS1 hl)
theorem r_alen (h : OK X G N cc own nL rm) {k t : Nat} {cA : ClassId} {x : vp_A} {ty : FieldType} (hd : decode cc pc = .ok (.arraylength, 1)) (hp : pc + 1 = pc') (hk : k < N) (hc : S k = .inl (cA, x)) (ht : (tys G)[t]? = some (cA, ty)) (kk : AW X G nL N pc' lo (.int (nI x.1) :: st) S a b) : AW X G nL N pc lo (.ref (ad G k) :: st) S a b := by
  subst hp
  intro H locs ls hP hS hl
  exact va_alen h.1 h.2.1 h.2.2.2.2.2.1 hP k t (by rw [wl_get hk, hc]) ht rfl hd (kk H locs ls hP hS hl)
theorem r_aald (h : OK X G N cc own nL rm) {k n : Nat} {f : Nat → Option Nat} {i : Int32} (hd : decode cc pc = .ok (.aaload, 1)) (hp : pc + 1 = pc') (hk : k < N) (hc : S k = .inl (gF G, n, .inr (.inr (.inr (.inr f))))) (hin : vp_in i n) (kk : AW X G nL N pc' lo (va_rf (f i.toNatClampNeg) :: st) S a b) : AW X G nL N pc lo (.int i :: .ref (ad G k) :: st) S a b := by
  subst hp
  intro H locs ls hP hS hl
  exact va_aldq h.1 h.2.1 h.2.2.2.2.2.1 hP k 4 (by rw [wl_get hk, hc]) rfl hin hd (kk H locs ls hP hS hl)
/-- a field is read -/
theorem r_get (h : OK X G N cc own nL rm) {k ci j Nf index : Nat} {C ref nm ds : String} {T : u_T} {fs : List Value} {v : Value} (hd : decode cc pc = .ok (.getfield index, 3)) (hp : pc + 3 = pc') (hk : k < N) (hc : S k = .inr (ci, fs)) (hv : fs[j]? = some v) (hcl : cls[ci]? = some (C, T, Nf)) (hin : ∀ w ∈ u_ws C T Nf, w ∈ gw) (hj : j < Nf) (hT : (T j).1 = ref ∧ (T j).2.1 = nm ∧ (T j).2.2.1 = ds) (hl : Cond.fieldLink own index ref nm ds ∈ gw) (kk : AW X G nL N pc' lo (v :: st) S a b) : AW X G nL N pc lo (.ref (ad G k) :: st) S a b := by
  subst hp
  intro H locs ls hP hS hl2
  obtain ⟨rfl, rfl, rfl⟩ := hT
  exact va_get h.1 h.2.1 h.2.2.2.2.1 hin h.2.2.2.1 h.2.2.2.2.2.1 hP k (by rw [wl_get hk, hc]) hcl j hj (h.2.2.2.2.1 _ hl) (fun _ z => z) hv hd (kk H locs ls hP hS hl2)
/-- a field is written -/
theorem r_put (h : OK X G N cc own nL rm) {k ci j Nf index : Nat} {C ref nm ds : String} {T : u_T} {fs : List Value} {v : Value} {ty : FieldType} {ty0 : Nat → FieldType} (hd : decode cc pc = .ok (.putfield index, 3)) (hp : pc + 3 = pc') (hk : k < N) (hc : S k = .inr (ci, fs)) (hcl : cls[ci]? = some (C, T, Nf)) (hin : ∀ w ∈ u_ws C T Nf, w ∈ gw) (hty : ∀ k, k < Nf → parseFieldDescriptor (T k).2.2.1 = some (ty0 k)) (hnm : ∀ a, a < Nf → ∀ b, b < Nf → a ≠ b → (T a).2.1 ≠ (T b).2.1) (hj : j < Nf) (hT : (T j).1 = ref ∧ (T j).2.1 = nm ∧ (T j).2.2.1 = ds) (hl : Cond.fieldLink own index ref nm ds ∈ gw) (hfin : (T j).2.2.2 = false) (hdesc : parseFieldDescriptor ds = some ty) (hn : narrow ty v = v) (hfit : fits ty v = true) (hlen : j < fs.length) (kk : AW X G nL N pc' lo st (va_up S k (.inr (ci, fs.set j v))) a b) : AW X G nL N pc lo (v :: .ref (ad G k) :: st) S a b := by
  subst hp
  intro H locs ls hP hS hl2
  obtain ⟨rfl, rfl, rfl⟩ := hT
  exact va_put h.1 h.2.1 h.2.2.2.2.1 hin ty0 hty hnm h.2.2.2.1 h.2.2.2.2.2.1 hP h.2.2.2.2.2.2.2.2.2.2.1.D hS k (by rw [wl_get hk, hc]) hcl j hj (h.2.2.2.2.1 _ hl) (fun _ z => z) hfin hdesc hn hfit hlen hd (fun H1 locs1 hP1 _ hS1 => kk H1 locs1 ls (by rw [wl_set] at hP1; exact hP1) hS1 hl2)
end RULES
