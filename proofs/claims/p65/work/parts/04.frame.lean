/-! THE FRAME OF ALL WALKS: one world, the whole of it, by place; a judgement AW over it; a method's contract RetK with the rest of the run as its post. -/
/-- the words that every method may rest on -/
def psel : List Cond := [.selects RJ4 yJ5_ensureCapacityInternal_d00df yJ5_ensureCapacityInternal_d00df, .selects RJ4 yJ5_putStringAt_47b60 yJ5_putStringAt_47b60, .selects RJ4 yJ5_inflateIfNeededFor_a7421 yJ5_inflateIfNeededFor_a7421]
def gw : List Cond := (lw_tbl ++ psel).filter goodWord
theorem gw_in {w : Cond} (h : w ∈ lw_tbl) (hg : goodWord w = true) : w ∈ gw := List.mem_filter.mpr ⟨List.mem_append_left _ h, hg⟩
theorem gw_ps {w : Cond} (i : Nat) (h : psel[i]? = some w) (hg : goodWord w = true) : w ∈ gw := List.mem_filter.mpr ⟨List.mem_append_right _ (List.mem_of_getElem? h), hg⟩
theorem tb_0 {w : Cond} (i : Nat) (h : (k2_sels lw_privs)[i]? = some w) : w ∈ lw_tbl := List.mem_append_left _ (List.mem_of_getElem? h)
theorem tb_1 {w : Cond} (i : Nat) (h : tables_1_1[i]? = some w) : w ∈ lw_tbl := List.mem_append_right _ (List.mem_append_left _ (List.mem_of_getElem? h))
theorem tb_2 {w : Cond} (i : Nat) (h : tables_1_2[i]? = some w) : w ∈ lw_tbl := List.mem_append_right _ (List.mem_append_right _ (List.mem_append_left _ (List.mem_of_getElem? h)))
theorem tb_3 {w : Cond} (i : Nat) (h : tables_1_3[i]? = some w) : w ∈ lw_tbl := List.mem_append_right _ (List.mem_append_right _ (List.mem_append_right _ (List.mem_append_left _ (List.mem_of_getElem? h))))
theorem tb_4 {w : Cond} (i : Nat) (h : tables_1_4[i]? = some w) : w ∈ lw_tbl := List.mem_append_right _ (List.mem_append_right _ (List.mem_append_right _ (List.mem_append_right _ (List.mem_append_left _ (List.mem_of_getElem? h)))))
theorem tb_5 {w : Cond} (i : Nat) (h : tables_1_5[i]? = some w) : w ∈ lw_tbl := List.mem_append_right _ (List.mem_append_right _ (List.mem_append_right _ (List.mem_append_right _ (List.mem_append_right _ (List.mem_append_left _ (List.mem_of_getElem? h))))))
theorem tb_6 {w : Cond} (i : Nat) (h : tables_1_6[i]? = some w) : w ∈ lw_tbl := List.mem_append_right _ (List.mem_append_right _ (List.mem_append_right _ (List.mem_append_right _ (List.mem_append_right _ (List.mem_append_right _ (List.mem_of_getElem? h))))))
/-- words that go along by premises of their own: a nest mate's link, a declaration, a cast -/
def nwk : Cond → Bool
  | .methodLinkNest _ _ _ _ => true
  | .declares _ => true
  | .castable _ _ => true
  | _ => false
def nw : List Cond := lw_tbl.filter nwk
theorem nw_in {w : Cond} (h : w ∈ lw_tbl) (hg : nwk w = true) : w ∈ nw := List.mem_filter.mpr ⟨h, hg⟩
theorem nw_warm {s U : State} (hW : s.WarmedH U.vm) (h : ∀ w ∈ nw, va_Nw w s) : ∀ w ∈ nw, va_Nw w U := by
  intro w hw
  have h1 := h w hw
  have h2 := (List.mem_filter.mp hw).2
  cases w with
  | methodLinkNest a b c d => exact va_Nw.warmM hW h1
  | declares a => exact va_Nw.warmD hW h1
  | castable a b => exact va_Nw.warmC hW h1
  | _ => cases h2
theorem nw_same {s U : State} (hv : U.vm = s.vm) (h : ∀ w ∈ nw, va_Nw w s) : ∀ w ∈ nw, va_Nw w U := by
  intro w hw
  have h1 := h w hw
  have h2 := (List.mem_filter.mp hw).2
  cases w with
  | methodLinkNest a b c d => exact va_Nw.same rfl hv.symm h1
  | declares a => exact va_Nw.same rfl hv.symm h1
  | castable a b => exact va_Nw.same rfl hv.symm h1
  | _ => cases h2
/-- the classes of the world's objects, by their numbers -/
def cls : List vw_C := [(RX0, TX0, 5), (RX1, TX1, 19), (RX2, TX2, 3), (RX3, TX3, 2), (RX4, TX4, 11), (RJ0, TJ0, 4), (RJ4, TJ4, 4)]
/-- what is fixed for a run: class ids and slots; the world's first address; the arrays' classes; the String constants' addresses, and their rows'; the address of each place of the world -/
abbrev GX : Type := va_G × Nat × (ClassId × ClassId × ClassId × ClassId × ClassId) × (Nat → Nat) × (Nat → Nat) × (Nat → Nat)
def gD (G : GX) : va_G := G.1
def gB (G : GX) : Nat := G.2.1
def gI (G : GX) : ClassId := G.2.2.1.1
def gC (G : GX) : ClassId := G.2.2.1.2.1
def gJ (G : GX) : ClassId := G.2.2.1.2.2.1
def gE (G : GX) : ClassId := G.2.2.1.2.2.2.1
def gF (G : GX) : ClassId := G.2.2.1.2.2.2.2
def gK (G : GX) : Nat → Nat := G.2.2.2.1
def gV (G : GX) : Nat → Nat := G.2.2.2.2.1
def tys (G : GX) : List (ClassId × FieldType) := [(gI G, .int), (gC G, .char), (gJ G, .byte), (gE G, .byte), (gF G, .object "WindFarmDispatcher$Farm")]
/-- the address of the world's place k -/
def ad (G : GX) (k : Nat) : Nat := G.2.2.2.2.2 k
/-- one place more -/
def gN (G : GX) (N q : Nat) : GX := (G.1, G.2.1, G.2.2.1, G.2.2.2.1, G.2.2.2.2.1, fun k => if k = N then q else G.2.2.2.2.2 k)
/-- the cells that a run may write: its world's, and what is new -/
def AA (G : GX) : Nat → Prop := fun q => gB G ≤ q
/-- the world of N places as the kit's list -/
def wl (G : GX) (N : Nat) (S : Nat → va_E) : va_W := (List.range N).map (fun k => (ad G k, S k))
theorem wl_get {G : GX} {N : Nat} {S : Nat → va_E} {k : Nat} (h : k < N) : (wl G N S)[k]? = some (ad G k, S k) := by
  simp [wl, h]
theorem wl_of {G : GX} {N : Nat} {S : Nat → va_E} {k : Nat} {q : Nat × va_E} (h : (wl G N S)[k]? = some q) : k < N ∧ q = (ad G k, S k) := by
  by_cases hk : k < N
  · rw [wl_get hk] at h
    exact ⟨hk, (Option.some.inj h).symm⟩
  · simp [wl, hk] at h
theorem wl_set {G : GX} {N : Nat} {S : Nat → va_E} {k : Nat} {e : va_E} : (wl G N S).set k (ad G k, e) = wl G N (va_up S k e) := by
  apply List.ext_getElem?
  intro j
  by_cases hj : j < N
  · rw [wl_get hj, List.getElem?_set]
    by_cases hk : k = j
    · subst hk
      simp [wl, hj, va_up]
    · rw [if_neg hk, wl_get hj]
      simp [va_up, Ne.symm hk]
  · rw [List.getElem?_eq_none (by simp [wl]; omega), List.getElem?_eq_none (by simp [wl]; omega)]
theorem wl_push {G : GX} {N : Nat} {S : Nat → va_E} {e : va_E} {q : Nat} : wl G N S ++ [(q, e)] = wl (gN G N q) (N + 1) (va_up S N e) := by
  unfold wl
  rw [List.range_succ, List.map_append]
  congr 1
  · apply List.map_congr_left
    intro k hk
    rw [List.mem_range] at hk
    simp [va_up, Nat.ne_of_lt hk, ad, gN]
  · simp [va_up, ad, gN]
/-- the places' addresses are apart, and the world's own -/
def DD (G : GX) (N : Nat) : Prop := (∀ i j : Nat, i < N → j < N → ad G i = ad G j → i = j) ∧ ∀ k : Nat, k < N → gB G ≤ ad G k
theorem DD.D {G : GX} {N : Nat} (h : DD G N) {S : Nat → va_E} : va_D (AA G) (wl G N S) := by
  refine ⟨fun i j p q hi hj e => ?_, fun k q hk => ?_⟩
  · obtain ⟨h1, rfl⟩ := wl_of hi
    obtain ⟨h2, rfl⟩ := wl_of hj
    exact h.1 i j h1 h2 e
  · obtain ⟨h1, rfl⟩ := wl_of hk
    exact h.2 k h1
theorem DD.of {G : GX} {N : Nat} {S : Nat → va_E} (h : va_D (AA G) (wl G N S)) : DD G N :=
  ⟨fun i j hi hj e => h.1 i j _ _ (wl_get hi) (wl_get hj) e, fun k hk => h.2 k _ (wl_get hk)⟩
/-- the claim's String constants -/
def strs : List (String × Nat × String) := [("WindFarmDispatcher", 172, "NESW"), ("WindFarmDispatcherLaw", 224, "@"), ("WindFarmDispatcherLaw", 229, ","), ("WindFarmDispatcherLaw", 231, "p"), ("WindFarmDispatcherLaw", 233, "="), ("WindFarmDispatcherLaw", 235, "<"), ("WindFarmDispatcherLaw", 241, ""), ("WindFarmDispatcherLaw", 243, "x"), ("WindFarmDispatcherLaw", 245, "s"), ("WindFarmDispatcher", 366, "no such turbine, cell or hour"), ("WindFarmDispatcher", 368, "a number or a direction is out of range"), ("WindFarmDispatcher", 379, "the call is rejected"), ("WindFarmDispatcher", 81, "no such cell"), ("WindFarmDispatcher", 91, "the cell is empty"), ("WindFarmDispatcher", 389, "no such turbine"), ("WindFarmDispatcher", 119, "the turbine is not curtailed"), ("WindFarmDispatcher", 124, "the turbine is not in service"), ("WindFarmDispatcher", 169, "no such wind"), ("WindFarmDispatcher", 394, "no such hour of the day"), ("WindFarmDispatcher", 396, "there is no bid for this hour"), ("WindFarmDispatcher", 219, "no bid at this position"), ("WindFarmDispatcher", 241, "there are no bids"), ("WindFarmDispatcher", 258, "no turbine at this position"), ("WindFarmDispatcher", 262, "there are no turbines"), ("WindFarmDispatcher", 283, "no character at this index"), ("WindFarmDispatcher", 398, "no call was rejected")]
/-- the bytes of the constants whose characters are read -/
def bytS : List (List Int32) := [[78, 69, 83, 87], [64], [44], [112], [61], [60], [], [120], [115]]
def lenS : List Nat := [4, 1, 1, 1, 1, 1, 0, 1, 1]
/-- what is thrown and what it isn't -/
def ncs : List (String × String) := [("java/lang/IllegalArgumentException", "java/lang/IndexOutOfBoundsException"), ("java/lang/UnsupportedOperationException", "java/lang/IndexOutOfBoundsException"), ("java/lang/UnsupportedOperationException", "java/lang/IllegalArgumentException"), ("java/util/NoSuchElementException", "java/lang/IndexOutOfBoundsException")]
def NC (U : State) : Prop := ∀ q ∈ ncs, va_Nc q.1 q.2 U
theorem NC.moved {u U : State} (hvm : u.vm.Alike U.vm) (h : NC u) : NC U := fun q hq => (h q hq).moved hvm
/-- a table of digits: a static of Integer's -/
def DG (n : String) (f : Nat → Int32) (A : Nat → Prop) (U : State) (H : Heap) : Prop := ∃ t : Nat, va_Z "java/lang/Integer" n "[B" (.ref t) A U H ∧ va_T .byte t 100 (fun j => .int (f j)) A U H
theorem DG.moved {n : String} {f : Nat → Int32} {A : Nat → Prop} {u U : State} {H : Heap} (hvm : u.vm.Alike U.vm) (h : DG n f A u H) : DG n f A U H := by
  obtain ⟨t, h1, h2⟩ := h
  exact ⟨t, h1.moved hvm, h2.moved hvm⟩
theorem DG.kept {n : String} {f : Nat → Int32} {A : Nat → Prop} {U : State} {H H1 : Heap} (h : DG n f A U H) (hq : ∀ a : Nat, a < H.size → ¬ A a → H1[a]? = H[a]?) : DG n f A U H1 := by
  obtain ⟨t, h1, h2⟩ := h
  exact ⟨t, h1.kept hq, h2.kept hq⟩
/-- the law's script: its cell, its length, its numbers -/
def gSa (G : GX) : Nat := gV G 50
def gSl (G : GX) : Nat := gV G 51
def gSx (G : GX) (j : Nat) : Int32 := Int32.ofNat (gV G (100 + j))
def SC (G : GX) (U : State) (H : Heap) : Prop := va_T .int (gSa G) (gSl G) (fun j => .int (gSx G j)) (AA G) U H
def dOne (j : Nat) : Int32 := nI (48 + j % 10)
def dTen (j : Nat) : Int32 := nI (48 + j / 10)
/-- the statics and constants of the start -/
def SF (G : GX) (U : State) (H : Heap) : Prop :=
  vx_Zq Bundle.tN "UNASSIGNED_STACK" Bundle.steD (AA G) U H ∧ vx_Zq Bundle.tN "SUPPRESSED_SENTINEL" Bundle.listD (AA G) U H ∧
  (∀ (i : Nat) (q : String × Nat × String), strs[i]? = some q → vk_R q.1 q.2.1 q.2.2 (gK G i) U) ∧
  vk_S 9 lenS bytS (gK G) (gV G) (AA G) U H ∧ va_Z "java/lang/String" "COMPACT_STRINGS" "Z" (.int 1) (AA G) U H ∧ va_Zq "jdk/internal/util/Preconditions" "SIOOBE_FORMATTER" "Ljava/util/function/BiFunction;" (AA G) U H ∧ (∀ w ∈ nw, va_Nw w U) ∧ DG "DigitOnes" dOne (AA G) U H ∧ DG "DigitTens" dTen (AA G) U H ∧ NC U ∧ SC G U H
theorem SF.warm {G : GX} {s U : State} {H : Heap} (hW : s.WarmedH U.vm) (h : SF G s H) : SF G U H :=
  ⟨h.1.moved hW.alike, h.2.1.moved hW.alike, fun i q hq => (h.2.2.1 i q hq).warm hW, h.2.2.2.1.moved hW.alike, h.2.2.2.2.1.moved hW.alike, h.2.2.2.2.2.1.moved hW.alike, nw_warm hW h.2.2.2.2.2.2.1, h.2.2.2.2.2.2.2.1.moved hW.alike, h.2.2.2.2.2.2.2.2.1.moved hW.alike, h.2.2.2.2.2.2.2.2.2.1.moved hW.alike, va_T.moved hW.alike h.2.2.2.2.2.2.2.2.2.2⟩
theorem SF.kept {G : GX} {U : State} {H H1 : Heap} (h : SF G U H) (hq : ∀ a : Nat, a < H.size → ¬ AA G a → H1[a]? = H[a]?) : SF G U H1 :=
  ⟨h.1.kept hq, h.2.1.kept hq, h.2.2.1, h.2.2.2.1.kept hq, h.2.2.2.2.1.kept hq, h.2.2.2.2.2.1.kept hq, h.2.2.2.2.2.2.1, h.2.2.2.2.2.2.2.1.kept hq, h.2.2.2.2.2.2.2.2.1.kept hq, h.2.2.2.2.2.2.2.2.2.1, va_T.kept h.2.2.2.2.2.2.2.2.2.2 hq⟩
theorem SF.same {G : GX} {s U : State} {H : Heap} (hv : U.vm = s.vm) (h : SF G s H) : SF G U H := by
  have ha : s.vm.Alike U.vm := by rw [hv]; exact Vm.Alike.refl _
  exact ⟨h.1.moved ha, h.2.1.moved ha, fun i q hq => (h.2.2.1 i q hq).same hv, h.2.2.2.1.moved ha, h.2.2.2.2.1.moved ha, h.2.2.2.2.2.1.moved ha, nw_same hv h.2.2.2.2.2.2.1, h.2.2.2.2.2.2.2.1.moved ha, h.2.2.2.2.2.2.2.2.1.moved ha, h.2.2.2.2.2.2.2.2.2.1.moved ha, va_T.moved ha h.2.2.2.2.2.2.2.2.2.2⟩
/-- the world as a state's -/
def WD (G : GX) (N : Nat) (S : Nat → va_E) (U : State) : Prop :=
  va_P (gD G) cls (wl G N S) U.heap ∧ va_K (gD G) cls (tys G) U ∧ gB G ≤ U.heap.size ∧ SF G U U.heap
/-- a frame's context: program, launch, environment, room, start, method, arguments, frames below, the method's facts, its code, the end -/
abbrev CX : Type := Program × Launch × Env × Room × State × MethodId × Array Value × List Frame × Method × Code × (State → Prop)
def xs (X : CX) : State := X.2.2.2.2.1
def xc (X : CX) : Code := X.2.2.2.2.2.2.2.2.2.1
def xW (X : CX) (H : Heap) (locs : List Loc) (a b : Nat) (g : JFrame) : Prop :=
  W X.1 X.2.1 X.2.2.1 X.2.2.2.1 X.2.2.2.2.1 X.2.2.2.2.2.1 X.2.2.2.2.2.2.1 X.2.2.2.2.2.2.2.1 X.2.2.2.2.2.2.2.2.1 X.2.2.2.2.2.2.2.2.2.1 H locs a b X.2.2.2.2.2.2.2.2.2.2 g
/-- at pc, with these locals, this stack, this world, so many cells and slots made: the machine comes to the end -/
def AW (X : CX) (G : GX) (nL N : Nat) (pc : Nat) (lo : List (Nat × Value)) (st : List Value) (S : Nat → va_E) (a b : Nat) : Prop :=
  ∀ (H : Heap) (locs : List Loc) (ls : Array Slot), va_P (gD G) cls (wl G N S) H → va_S (AA G) X.2.2.2.2.1.heap H locs → lv_has ls nL lo → xW X H locs a b (F0 X.2.2.2.2.2.1 pc ls st)
/-- what holds of a frame's context: rm = frames, locals, cells, slots that its room has at least -/
def OK (X : CX) (G : GX) (N : Nat) (cc : ByteArray) (own : String) (nL : Nat) (rm : Nat × Nat × Nat × Nat) : Prop :=
  X.1.tables.exec = Jvm.exec ∧ X.2.2.2.2.2.2.2.2.2.1.code = cc ∧ X.2.2.2.2.2.2.2.2.2.1.maxLocals = nL ∧ X.2.2.2.2.1.vm.findClass own = some X.2.2.2.2.2.1.cls ∧
  (∀ w ∈ gw, w.before X.2.2.2.2.2.2.1 X.2.2.2.2.1 = true) ∧ va_K (gD G) cls (tys G) X.2.2.2.2.1 ∧ gB G ≤ X.2.2.2.2.1.heap.size ∧ X.2.2.2.2.2.2.2.2.1.locks = false ∧ X.2.1.stackTraces = false ∧ SF G X.2.2.2.2.1 X.2.2.2.2.1.heap ∧ DD G N ∧
  rm.1 ≤ X.2.2.2.1.frames ∧ rm.2.1 ≤ X.2.2.2.1.locals ∧ rm.2.2.1 ≤ X.2.2.2.1.cells ∧ rm.2.2.2 ≤ X.2.2.2.1.slots
