/-! THE START: what the Statement gives. -/
section STA
variable {av : Array Value} {s : State}
theorem nr_all (hgv : (Jvm.Cond.and given_1 narrow_1).before av s = true) {w : Cond} (h : w ∈ flatC (Jvm.Cond.and given_1 narrow_1)) : w.before av s = true := flat_of_before _ hgv w h
def tmS (i : Nat) : Term := .string (strs.getD i ("", 0, "")).1 (strs.getD i ("", 0, "")).2.1
theorem ne_refs {t t' : Term} {x y : Nat} (h1 : t.eval av s none [] s = some (.ref x)) (h2 : t'.eval av s none [] s = some (.ref y)) (h : x ≠ y) : (Cond.not (Cond.eq t t')).before av s = true := by
  simp [Cond.before, Cond.holds, Cond.value, h1, h2, h]
theorem ne_len {t t' : Term} {o n d : String} {x y : Int32} (h : (Cond.eq (.length (.field t o n d)) (.int x)).before av s = true) (h' : (Cond.eq (.length (.field t' o n d)) (.int y)).before av s = true) (hxy : x ≠ y) : t.eval av s none [] s ≠ t'.eval av s none [] s := fun e => by
  have e1 := va_eqt h
  have e2 := va_eqt h'
  have e3 : (Term.length (.field t o n d)).eval av s none [] s = (Term.length (.field t' o n d)).eval av s none [] s := by simp only [Term.eval, e]
  rw [e1, e2] at e3
  exact hxy (by injection e3 with e4; injection e4)
theorem ne_elem {t t' : Term} {o n d : String} {i x y : Int32} (h : (Cond.eq (.elem (.field t o n d) (.int i)) (.int x)).before av s = true) (h' : (Cond.eq (.elem (.field t' o n d) (.int i)) (.int y)).before av s = true) (hxy : x ≠ y) : t.eval av s none [] s ≠ t'.eval av s none [] s := fun e => by
  have e1 := va_eqt h
  have e2 := va_eqt h'
  have e3 : (Term.elem (.field t o n d) (.int i)).eval av s none [] s = (Term.elem (.field t' o n d) (.int i)).eval av s none [] s := by simp only [Term.eval, e]
  rw [e1, e2] at e3
  exact hxy (by injection e3 with e4; injection e4)
theorem ms_ex : ∀ i, i < 26 → Cond.exactly (tmS i) "java/lang/String" ∈ flatC (Jvm.Cond.and given_1 narrow_1) := by decide +kernel
theorem ms_co : ∀ i, i < 9 → Cond.eq (.field (tmS i) "java/lang/String" "coder" "B") (.int 0) ∈ flatC (Jvm.Cond.and given_1 narrow_1) := by decide +kernel
theorem ms_ar : ∀ i, i < 9 → Cond.arrayOf (.field (tmS i) "java/lang/String" "value" "[B") .byte ∈ flatC (Jvm.Cond.and given_1 narrow_1) := by decide +kernel
theorem ms_le : ∀ i, i < 9 → Cond.eq (.length (.field (tmS i) "java/lang/String" "value" "[B")) (.int (Int32.ofNat (lenS.getD i 0))) ∈ flatC (Jvm.Cond.and given_1 narrow_1) := by decide +kernel
theorem ms_el : ∀ i, i < 9 → ∀ j, j < lenS.getD i 0 → Cond.eq (.elem (.field (tmS i) "java/lang/String" "value" "[B") (.int (Int32.ofNat j))) (.int ((bytS.getD i []).getD j 0)) ∈ flatC (Jvm.Cond.and given_1 narrow_1) := by decide +kernel
theorem ms_rf : ∀ i, i < 26 → Cond.stringRef (strs.getD i ("", 0, "")).1 (strs.getD i ("", 0, "")).2.1 (strs.getD i ("", 0, "")).2.2 ∈ lw_tbl := by
  intro i hi
  match i, hi with
  | 0, _ => exact tb_3 0 (by decide +kernel)
  | 1, _ => exact tb_6 21 (by decide +kernel)
  | 2, _ => exact tb_6 22 (by decide +kernel)
  | 3, _ => exact tb_6 23 (by decide +kernel)
  | 4, _ => exact tb_6 24 (by decide +kernel)
  | 5, _ => exact tb_6 25 (by decide +kernel)
  | 6, _ => exact tb_6 26 (by decide +kernel)
  | 7, _ => exact tb_6 27 (by decide +kernel)
  | 8, _ => exact tb_6 28 (by decide +kernel)
  | 9, _ => exact tb_4 48 (by decide +kernel)
  | 10, _ => exact tb_4 49 (by decide +kernel)
  | 11, _ => exact tb_4 75 (by decide +kernel)
  | 12, _ => exact tb_2 21 (by decide +kernel)
  | 13, _ => exact tb_2 67 (by decide +kernel)
  | 14, _ => exact tb_2 86 (by decide +kernel)
  | 15, _ => exact tb_3 208 (by decide +kernel)
  | 16, _ => exact tb_3 216 (by decide +kernel)
  | 17, _ => exact tb_2 229 (by decide +kernel)
  | 18, _ => exact tb_3 60 (by decide +kernel)
  | 19, _ => exact tb_3 73 (by decide +kernel)
  | 20, _ => exact tb_3 91 (by decide +kernel)
  | 21, _ => exact tb_3 233 (by decide +kernel)
  | 22, _ => exact tb_3 124 (by decide +kernel)
  | 23, _ => exact tb_3 138 (by decide +kernel)
  | 24, _ => exact tb_5 43 (by decide +kernel)
  | 25, _ => exact tb_4 113 (by decide +kernel)
  | k + 26, h => exact absurd h (by omega)
theorem ms_d : ∀ i, i < 9 → ∀ j, j < 9 → (i = j ∨ ¬ Int32.ofNat (lenS.getD i 0) = Int32.ofNat (lenS.getD j 0) ∨ (0 < lenS.getD i 0 ∧ 0 < lenS.getD j 0 ∧ ¬ (bytS.getD i []).getD 0 0 = (bytS.getD j []).getD 0 0)) := by decide +kernel
theorem nc_in : ∀ q ∈ ncs, Cond.not (.castable q.1 q.2) ∈ flatC (Jvm.Cond.and given_1 narrow_1) := by decide +kernel
theorem dg_1l : ((flatC (Jvm.Cond.and given_1 narrow_1)).drop 14).take 100 = (List.range 100).map (fun j => Cond.eq (.elem (.static "java/lang/Integer" "DigitOnes" "[B") (.int (Int32.ofNat j))) (.int (dOne j))) := by decide +kernel
theorem dg_1 : ∀ j, j < 100 → Cond.eq (.elem (.static "java/lang/Integer" "DigitOnes" "[B") (.int (Int32.ofNat j))) (.int (dOne j)) ∈ flatC (Jvm.Cond.and given_1 narrow_1) := fun j hj => List.mem_of_mem_drop (List.mem_of_mem_take (by rw [dg_1l]; exact List.mem_map.mpr ⟨j, List.mem_range.mpr hj, rfl⟩))
theorem dg_2l : ((flatC (Jvm.Cond.and given_1 narrow_1)).drop 117).take 100 = (List.range 100).map (fun j => Cond.eq (.elem (.static "java/lang/Integer" "DigitTens" "[B") (.int (Int32.ofNat j))) (.int (dTen j))) := by decide +kernel
theorem dg_2 : ∀ j, j < 100 → Cond.eq (.elem (.static "java/lang/Integer" "DigitTens" "[B") (.int (Int32.ofNat j))) (.int (dTen j)) ∈ flatC (Jvm.Cond.and given_1 narrow_1) := fun j hj => List.mem_of_mem_drop (List.mem_of_mem_take (by rw [dg_2l]; exact List.mem_map.mpr ⟨j, List.mem_range.mpr hj, rfl⟩))
theorem start_NC (hgv : (Jvm.Cond.and given_1 narrow_1).before av s = true) : NC s := fun q hq => va_Nc.of (nr_all hgv (nc_in q hq))
theorem sr_ev (hgv : (Jvm.Cond.and given_1 narrow_1).before av s = true) {i : Nat} (hi : i < 26) : ∃ a : Nat, (tmS i).eval av s none [] s = some (.ref a) := by
  obtain ⟨a, c, cA, kA, q1, -⟩ := Cond.exactly_spec (args := av) (first := s) (o := none) (s := s) (idx := []) (t := tmS i) (cls := "java/lang/String") (nr_all hgv (ms_ex i hi))
  exact ⟨a, q1⟩
theorem ms_ne (hgv : (Jvm.Cond.and given_1 narrow_1).before av s = true) (i j : Nat) (hi : i < 9) (hj : j < 9) (hij : i ≠ j) : (Cond.not (Cond.eq (tmS i) (tmS j))).before av s = true := by
  obtain ⟨a, ha⟩ := sr_ev hgv (i := i) (by omega)
  obtain ⟨c, hc⟩ := sr_ev hgv (i := j) (by omega)
  have key : (tmS i).eval av s none [] s ≠ (tmS j).eval av s none [] s := by
    rcases ms_d i hi j hj with e | e | ⟨e1, e2, e3⟩
    · exact absurd e hij
    · exact ne_len (nr_all hgv (ms_le i hi)) (nr_all hgv (ms_le j hj)) e
    · exact ne_elem (nr_all hgv (ms_el i hi 0 e1)) (nr_all hgv (ms_el j hj 0 e2)) e3
  exact ne_refs ha hc (fun e => key (by rw [ha, hc, e]))
/-- a table of digits -/
theorem start_DG {n : String} {f : Nat → Int32} {A : Nat → Prop} (hl : (Cond.laysStatic "java/lang/Integer" n "[B").before av s = true) (hini : (Cond.initialized "java/lang/Integer").before av s = true) (harr : (Cond.arrayOf (.static "java/lang/Integer" n "[B") .byte).before av s = true) (hlen : (Cond.eq (.length (.static "java/lang/Integer" n "[B")) (.int 100)).before av s = true) (hel : ∀ j : Nat, j < 100 → (Cond.eq (.elem (.static "java/lang/Integer" n "[B") (.int (Int32.ofNat j))) (.int (f j))).before av s = true) (hA : ∀ a : Nat, a < s.heap.size → ¬ A a) : DG n f A s s.heap := by
  obtain ⟨t, h1, h2⟩ := va_Tof (args := av) (s := s) (tm := .static "java/lang/Integer" n "[B") (ty := .byte) (N := 100) (f := fun j => .int (f j)) (A := A) (by decide) harr (va_eqt hlen) (fun j hj => va_eqt (hel j hj)) hA
  exact ⟨t, va_Zref hl hini h1 hA, h2⟩
theorem start_gw (hts : ∀ w ∈ lw_tbl, w.before av s = true) : ∀ w ∈ gw, w.before av s = true := by
  intro w hw
  rcases List.mem_append.mp (List.mem_filter.mp hw).1 with h | h
  · exact hts w h
  · have hx : (Cond.selects RJ4 yJ5_isLatin1_aae02 yJ5_isLatin1_aae02).before av s = true := hts _ (tb_5 124 (by decide +kernel))
    rcases List.mem_cons.mp h with rfl | h
    · exact sel_priv (x := yJ5_isLatin1_aae02) ⟨by decide +kernel, by decide +kernel⟩ rfl hx (hts _ (tb_5 91 (by decide +kernel))) (hts _ (tb_5 92 (by decide +kernel)))
    rcases List.mem_cons.mp h with rfl | h
    · exact sel_priv (x := yJ5_isLatin1_aae02) ⟨by decide +kernel, by decide +kernel⟩ rfl hx (hts _ (tb_5 143 (by decide +kernel))) (hts _ (tb_5 144 (by decide +kernel)))
    rcases List.mem_cons.mp h with rfl | h
    · exact sel_priv (x := yJ5_isLatin1_aae02) ⟨by decide +kernel, by decide +kernel⟩ rfl hx (hts _ (tb_5 147 (by decide +kernel))) (hts _ (tb_5 148 (by decide +kernel)))
    · cases h
theorem start_SF (hts : ∀ w ∈ lw_tbl, w.before av s = true) (hgv : (Jvm.Cond.and given_1 narrow_1).before av s = true) {b L : Nat} {xs : Nat → Int32} (hX : va_X b L xs s s.heap) (hbl : b < s.heap.size) : ∃ Ks Vs : Nat → Nat, (Vs 50 = b ∧ Vs 51 = L) ∧ ∀ G : GX, gB G = s.heap.size → gK G = Ks → gV G = Vs → SF G s s.heap := by
  have hA : ∀ a : Nat, a < s.heap.size → ¬ (fun q : Nat => s.heap.size ≤ q) a := fun a h z => absurd z (Nat.not_le.mpr h)
  obtain ⟨adK, adV, hS, hE⟩ := vk_Sof (args := av) (s := s) (N := 9) (tm := tmS) (len := lenS) (byt := bytS) (A := fun q : Nat => s.heap.size ≤ q) (by decide +kernel) (fun i hi => nr_all hgv (ms_ex i (by omega))) (fun i hi => nr_all hgv (ms_co i hi)) (fun i hi => nr_all hgv (ms_ar i hi)) (fun i hi => nr_all hgv (ms_le i hi)) (fun i hi j hj => nr_all hgv (ms_el i hi j hj)) (fun i j hi hj hij => Or.inl (ms_ne hgv i j hi hj hij)) hA
  have hc : ∀ i : Nat, ∃ a : Nat, i < 26 → (tmS i).eval av s none [] s = some (.ref a) := fun i => by
    by_cases hi : i < 26
    · obtain ⟨a, ha⟩ := sr_ev hgv hi
      exact ⟨a, fun _ => ha⟩
    · exact ⟨0, fun z => absurd z hi⟩
  obtain ⟨Ks, hKs⟩ := Classical.axiomOfChoice hc
  have eK : ∀ i, i < 9 → adK i = Ks i := fun i hi => by
    have e := (hE i hi).symm.trans (hKs i (by omega))
    injection e with e
    injection e
  obtain ⟨Vs, v50, v51, vx, vs⟩ : ∃ Vs : Nat → Nat, Vs 50 = b ∧ Vs 51 = L ∧ (∀ j, Int32.ofNat (Vs (100 + j)) = xs j) ∧ ∀ i, i < 9 → Vs i = adV i := by
    refine ⟨fun k => if k = 50 then b else if k = 51 then L else if 100 ≤ k then (xs (k - 100)).toBitVec.toNat else adV k, if_pos rfl, (if_neg (by decide)).trans (if_pos rfl), fun j => ?_, fun i hi => ?_⟩
    · show Int32.ofNat (if 100 + j = 50 then b else if 100 + j = 51 then L else if 100 ≤ 100 + j then (xs (100 + j - 100)).toBitVec.toNat else adV (100 + j)) = xs j
      rw [if_neg (by omega), if_neg (by omega), if_pos (by omega), show 100 + j - 100 = j by omega]
      exact nI_bv _
    · show (if i = 50 then b else if i = 51 then L else if 100 ≤ i then (xs (i - 100)).toBitVec.toNat else adV i) = adV i
      rw [if_neg (by omega), if_neg (by omega), if_neg (by omega)]
  refine ⟨Ks, Vs, ⟨v50, v51⟩, fun G hB hK hV => ?_⟩
  have eA : AA G = fun q : Nat => s.heap.size ≤ q := by unfold AA; rw [hB]
  unfold SF SC gSa gSl gSx
  rw [eA, hK, hV, v50, v51]
  refine ⟨vx_Zqof (hts _ (tb_2 4 (by decide +kernel))) (hts _ (tb_1 6 (by decide +kernel))) (nr_all hgv (List.mem_of_getElem? (i := 4) (by decide +kernel))) hA, vx_Zqof (hts _ (tb_2 6 (by decide +kernel))) (hts _ (tb_1 6 (by decide +kernel))) (nr_all hgv (List.mem_of_getElem? (i := 5) (by decide +kernel))) hA, fun i q hq => ?_, ⟨fun i hi => ?_, fun i j hi hj e => hS.2 i j hi hj (by rw [eK i hi, eK j hj]; exact e)⟩, va_Zof (hts _ (tb_3 10 (by decide +kernel))) (hts _ (tb_1 11 (by decide +kernel))) (va_eqi (nr_all hgv (List.mem_of_getElem? (i := 6) (by decide +kernel)))) hA, va_Zqof (hts _ (tb_3 26 (by decide +kernel))) (hts _ (tb_1 24 (by decide +kernel))) (nr_all hgv (List.mem_of_getElem? (i := 7) (by decide +kernel))) hA, fun w hw => ?_, start_DG (hts _ (tb_5 190 (by decide +kernel))) (hts _ (tb_1 20 (by decide +kernel))) (nr_all hgv (List.mem_of_getElem? (i := 12) (by decide +kernel))) (nr_all hgv (List.mem_of_getElem? (i := 13) (by decide +kernel))) (fun j hj => nr_all hgv (dg_1 j hj)) hA, start_DG (hts _ (tb_5 192 (by decide +kernel))) (hts _ (tb_1 20 (by decide +kernel))) (nr_all hgv (List.mem_of_getElem? (i := 115) (by decide +kernel))) (nr_all hgv (List.mem_of_getElem? (i := 116) (by decide +kernel))) (fun j hj => nr_all hgv (dg_2 j hj)) hA, start_NC hgv, ?_⟩
  · have hi : i < 26 := (List.getElem?_eq_some_iff.mp hq).1
    have e : strs.getD i ("", 0, "") = q := by rw [List.getD_eq_getElem?_getD, hq]; rfl
    have h1 := hts _ (ms_rf i hi)
    have h2 := hKs i hi
    unfold tmS at h2
    rw [e] at h1 h2
    exact vk_R.of h1 h2
  · have h := hS.1 i hi
    rw [eK i hi, ← vs i hi] at h
    exact h
  · obtain ⟨h1, h2⟩ := List.mem_filter.mp hw
    refine va_Nw.of ?_ (hts w h1)
    cases w with
    | methodLinkNest a b c d => rfl
    | declares a => rfl
    | castable a b => rfl
    | _ => cases h2
  · obtain ⟨scr, c1, c2, c3, c4, c5⟩ := hX
    exact ⟨scr, c1, c2, c3, Nat.le_of_eq c4.symm, by rw [c4], fun j hj => (c5 j hj).trans (by show some (Value.int (xs j)) = some (Value.int (Int32.ofNat (Vs (100 + j)))); rw [vx j]), hA b hbl⟩
theorem arr_of {ty : FieldType} (h : (Cond.arrayClass ty).before av s = true) : ∃ c : ClassId, ArrOfT s c ty ∧ s.vm.findClass ("[" ++ ty.toString) = some c := by
  obtain ⟨c, k, comp, h1, h2, h3⟩ := Cond.arrayClass_spec h
  exact ⟨c, fun n z => ⟨fun k h => (by cases h), k, h2, comp, h3⟩, h1⟩
theorem arr_ov {C : String} (h : (Cond.arrayOver (.object C)).before av s = true) : ∃ c : ClassId, ArrOfT s c (.object C) ∧ va_RA s c (.object C) := by
  obtain ⟨comp, c, k, h1, h2, h3, h4, h5⟩ := Cond.arrayOver_spec h
  exact ⟨c, fun n z => ⟨fun k h => (by cases h), k, h3, comp, h4⟩, k, comp, h3, h4, h1, h5⟩
/-- the world's classes -/
theorem start_K (hts : ∀ w ∈ lw_tbl, w.before av s = true) : ∃ (D : va_G) (c : ClassId × ClassId × ClassId × ClassId × ClassId), ∀ G : GX, gD G = D → G.2.2.1 = c → va_K (gD G) cls (tys G) s := by
  have hg : ∀ w ∈ gw, w.before av s = true := start_gw hts
  obtain ⟨c0, i0, k0⟩ := u_known (C := RX0) (T := TX0) (N := 5) (n := 5) hg inX0 (hg _ nX0)
  obtain ⟨c1, i1, k1⟩ := u_known (C := RX1) (T := TX1) (N := 19) (n := 19) hg inX1 (hg _ nX1)
  obtain ⟨c2, i2, k2⟩ := u_known (C := RX2) (T := TX2) (N := 3) (n := 3) hg inX2 (hg _ nX2)
  obtain ⟨c3, i3, k3⟩ := u_known (C := RX3) (T := TX3) (N := 2) (n := 2) hg inX3 (hg _ nX3)
  obtain ⟨c4, i4, k4⟩ := u_known (C := RX4) (T := TX4) (N := 11) (n := 11) hg inX4 (hg _ nX4)
  obtain ⟨c5, i5, k5⟩ := u_known (C := RJ0) (T := TJ0) (N := 4) (n := 4) hg inJ0 (hg _ nJ0)
  obtain ⟨c6, i6, k6⟩ := u_known (C := RJ4) (T := TJ4) (N := 4) (n := 4) hg inJ4 (hg _ nJ4)
  obtain ⟨aI, aI1, aI2⟩ := arr_of (hg _ aInt)
  obtain ⟨aC, aC1, aC2⟩ := arr_of (hg _ aChar)
  obtain ⟨aB, aB1, aB2⟩ := arr_of (hg _ aByte)
  obtain ⟨aF, aF1, aF2⟩ := arr_ov (C := RX1) (hts _ (tb_1 122 (by decide +kernel)))
  refine ⟨(fun k => if k = 0 then c0 else if k = 1 then c1 else if k = 2 then c2 else if k = 3 then c3 else if k = 4 then c4 else if k = 5 then c5 else c6, fun k => if k = 0 then i0 else if k = 1 then i1 else if k = 2 then i2 else if k = 3 then i3 else if k = 4 then i4 else if k = 5 then i5 else i6), (aI, aC, aB, aB, aF), fun G hD hG => ⟨fun k q hq => ?_, fun k q hq => ?_⟩⟩
  · rw [hD]
    match k, hq with
    | 0, hq => cases hq; exact k0
    | 1, hq => cases hq; exact k1
    | 2, hq => cases hq; exact k2
    | 3, hq => cases hq; exact k3
    | 4, hq => cases hq; exact k4
    | 5, hq => cases hq; exact k5
    | 6, hq => cases hq; exact k6
    | k + 7, hq => simp [cls] at hq
  · unfold tys gI gC gJ gE gF at hq
    rw [hG] at hq
    match k, hq with
    | 0, hq => cases hq; exact ⟨aI1, aI2⟩
    | 1, hq => cases hq; exact ⟨aC1, aC2⟩
    | 2, hq => cases hq; exact ⟨aB1, aB2⟩
    | 3, hq => cases hq; exact ⟨aB1, aB2⟩
    | 4, hq => cases hq; exact ⟨aF1, aF2⟩
    | k + 5, hq => simp at hq
end STA
