/-! THE START: what the Statement gives. -/
section STA
variable {av : Array Value} {s : State}
theorem nr_all (hgv : (Jvm.Cond.and given_1 narrow_1).before av s = true) {w : Cond} (h : w ∈ flatC (Jvm.Cond.and given_1 narrow_1)) : w.before av s = true := flat_of_before _ hgv w h
def tmS (i : Nat) : Term := .string (strs.getD i ("", 0, "")).1 (strs.getD i ("", 0, "")).2.1
theorem ne_refs {t t' : Term} {x y : Nat} (h1 : t.eval av s none [] s = some (.ref x)) (h2 : t'.eval av s none [] s = some (.ref y)) (h : x ≠ y) : (Cond.not (Cond.eq t t')).before av s = true := by
  simp [Cond.before, Cond.holds, Cond.value, h1, h2, h]
theorem ne_len {t t' : Term} {o n d : String} {x y : Int32} (h : (Cond.eq (.length (.field t o n d)) (.int x)).before av s = true) (h' : (Cond.eq (.length (.field t' o n d)) (.int y)).before av s = true) (hxy : x ≠ y) : t.eval av s none [] s ≠ t'.eval av s none [] s := fun e => by
  have e1 := va_eqt h
  have e2 := va_eqt h'
  have e3 : (Term.length (.field t o n d)).eval av s none [] s = (Term.length (.field t' o n d)).eval av s none [] s := by simp only [Term.eval, e]
  rw [e1, e2] at e3
  exact hxy (by injection e3 with e4; injection e4)
theorem ne_elem {t t' : Term} {o n d : String} {i x y : Int32} (h : (Cond.eq (.elem (.field t o n d) (.int i)) (.int x)).before av s = true) (h' : (Cond.eq (.elem (.field t' o n d) (.int i)) (.int y)).before av s = true) (hxy : x ≠ y) : t.eval av s none [] s ≠ t'.eval av s none [] s := fun e => by
  have e1 := va_eqt h
  have e2 := va_eqt h'
  have e3 : (Term.elem (.field t o n d) (.int i)).eval av s none [] s = (Term.elem (.field t' o n d) (.int i)).eval av s none [] s := by simp only [Term.eval, e]
  rw [e1, e2] at e3
  exact hxy (by injection e3 with e4; injection e4)
theorem ms_ex : ∀ i, i < 34 → Cond.exactly (tmS i) "java/lang/String" ∈ flatC (Jvm.Cond.and given_1 narrow_1) := by decide +kernel
theorem ms_co : ∀ i, i < 7 → Cond.eq (.field (tmS i) "java/lang/String" "coder" "B") (.int 0) ∈ flatC (Jvm.Cond.and given_1 narrow_1) := by decide +kernel
theorem ms_ar : ∀ i, i < 7 → Cond.arrayOf (.field (tmS i) "java/lang/String" "value" "[B") .byte ∈ flatC (Jvm.Cond.and given_1 narrow_1) := by decide +kernel
theorem ms_le : ∀ i, i < 7 → Cond.eq (.length (.field (tmS i) "java/lang/String" "value" "[B")) (.int (Int32.ofNat (lenS.getD i 0))) ∈ flatC (Jvm.Cond.and given_1 narrow_1) := by decide +kernel
theorem ms_el : ∀ i, i < 7 → ∀ j, j < lenS.getD i 0 → Cond.eq (.elem (.field (tmS i) "java/lang/String" "value" "[B") (.int (Int32.ofNat j))) (.int ((bytS.getD i []).getD j 0)) ∈ flatC (Jvm.Cond.and given_1 narrow_1) := by decide +kernel
theorem ms_rf : ∀ i, i < 34 → Cond.stringRef (strs.getD i ("", 0, "")).1 (strs.getD i ("", 0, "")).2.1 (strs.getD i ("", 0, "")).2.2 ∈ tables_1_2 ++ (tables_1_3 ++ (tables_1_4 ++ (tables_1_5 ++ tables_1_6))) := by decide +kernel
theorem ms_lenne : ∀ i, i < 7 → ∀ j, j < 7 → (i = j ∨ ¬ Int32.ofNat (lenS.getD i 0) = Int32.ofNat (lenS.getD j 0) ∨ (i = 1 ∧ j = 3) ∨ (i = 3 ∧ j = 1)) := by decide +kernel
theorem ms_tb {w : Cond} (h : w ∈ tables_1_2 ++ (tables_1_3 ++ (tables_1_4 ++ (tables_1_5 ++ tables_1_6)))) : w ∈ lw_tbl := by
  refine List.mem_append_right _ (List.mem_append_right _ ?_)
  rcases List.mem_append.mp h with h | h
  · exact List.mem_append_left _ h
  refine List.mem_append_right _ ?_
  rcases List.mem_append.mp h with h | h
  · exact List.mem_append_left _ h
  refine List.mem_append_right _ ?_
  rcases List.mem_append.mp h with h | h
  · exact List.mem_append_left _ h
  refine List.mem_append_right _ ?_
  rcases List.mem_append.mp h with h | h
  · exact List.mem_append_left _ h
  exact List.mem_append_right _ (List.mem_append_left _ h)
theorem nc_in : ∀ q ∈ ncs, Cond.not (.castable q.1 q.2) ∈ flatC (Jvm.Cond.and given_1 narrow_1) := by decide +kernel
theorem start_NC (hgv : (Jvm.Cond.and given_1 narrow_1).before av s = true) : NC s := fun q hq => va_Nc.of (nr_all hgv (nc_in q hq))
theorem sr_ev (hgv : (Jvm.Cond.and given_1 narrow_1).before av s = true) {i : Nat} (hi : i < 34) : ∃ a : Nat, (tmS i).eval av s none [] s = some (.ref a) := by
  obtain ⟨a, c, cA, kA, q1, -⟩ := Cond.exactly_spec (args := av) (first := s) (o := none) (s := s) (idx := []) (t := tmS i) (cls := "java/lang/String") (nr_all hgv (ms_ex i hi))
  exact ⟨a, q1⟩
theorem ms_ne (hgv : (Jvm.Cond.and given_1 narrow_1).before av s = true) (i j : Nat) (hi : i < 7) (hj : j < 7) (hij : i ≠ j) : (Cond.not (Cond.eq (tmS i) (tmS j))).before av s = true := by
  obtain ⟨a, ha⟩ := sr_ev hgv (i := i) (by omega)
  obtain ⟨c, hc⟩ := sr_ev hgv (i := j) (by omega)
  have key : (tmS i).eval av s none [] s ≠ (tmS j).eval av s none [] s := by
    by_cases e : Int32.ofNat (lenS.getD i 0) = Int32.ofNat (lenS.getD j 0)
    · rcases (ms_lenne i hi j hj).resolve_left hij |>.resolve_left (fun z => z e) with ⟨rfl, rfl⟩ | ⟨rfl, rfl⟩
      · exact ne_elem (nr_all hgv (ms_el 1 (by decide) 0 (by decide))) (nr_all hgv (ms_el 3 (by decide) 0 (by decide))) (by decide)
      · exact ne_elem (nr_all hgv (ms_el 3 (by decide) 0 (by decide))) (nr_all hgv (ms_el 1 (by decide) 0 (by decide))) (by decide)
    · exact ne_len (nr_all hgv (ms_le i hi)) (nr_all hgv (ms_le j hj)) e
  exact ne_refs ha hc (fun e => key (by rw [ha, hc, e]))
theorem start_SF (hts : ∀ w ∈ lw_tbl, w.before av s = true) (hgv : (Jvm.Cond.and given_1 narrow_1).before av s = true) : ∃ Ks Vs : Nat → Nat, ∀ G : GX, gB G = s.heap.size → gK G = Ks → gV G = Vs → SF G s s.heap := by
  have hA : ∀ a : Nat, a < s.heap.size → ¬ (fun q : Nat => s.heap.size ≤ q) a := fun a h z => absurd z (Nat.not_le.mpr h)
  obtain ⟨adK, adV, hS, hE⟩ := vk_Sof (args := av) (s := s) (N := 7) (tm := tmS) (len := lenS) (byt := bytS) (A := fun q : Nat => s.heap.size ≤ q) (by decide +kernel) (fun i hi => nr_all hgv (ms_ex i (by omega))) (fun i hi => nr_all hgv (ms_co i hi)) (fun i hi => nr_all hgv (ms_ar i hi)) (fun i hi => nr_all hgv (ms_le i hi)) (fun i hi j hj => nr_all hgv (ms_el i hi j hj)) (fun i j hi hj hij => Or.inl (ms_ne hgv i j hi hj hij)) hA
  have hc : ∀ i : Nat, ∃ a : Nat, i < 34 → (tmS i).eval av s none [] s = some (.ref a) := fun i => by
    by_cases hi : i < 34
    · obtain ⟨a, ha⟩ := sr_ev hgv hi
      exact ⟨a, fun _ => ha⟩
    · exact ⟨0, fun z => absurd z hi⟩
  obtain ⟨Ks, hKs⟩ := Classical.axiomOfChoice hc
  have eK : ∀ i, i < 7 → adK i = Ks i := fun i hi => by
    have e := (hE i hi).symm.trans (hKs i (by omega))
    injection e with e
    injection e
  refine ⟨Ks, adV, fun G hB hK hV => ?_⟩
  have eA : AA G = fun q : Nat => s.heap.size ≤ q := by unfold AA; rw [hB]
  unfold SF
  rw [eA, hK, hV]
  refine ⟨vx_Zqof (hts _ (tb_2 209 (by decide +kernel))) (hts _ (tb_1 7 (by decide +kernel))) (nr_all hgv (List.mem_of_getElem? (i := 9) (by decide +kernel))) hA, vx_Zqof (hts _ (tb_2 211 (by decide +kernel))) (hts _ (tb_1 7 (by decide +kernel))) (nr_all hgv (List.mem_of_getElem? (i := 10) (by decide +kernel))) hA, fun i q hq => ?_, ⟨fun i hi => ?_, fun i j hi hj e => hS.2 i j hi hj (by rw [eK i hi, eK j hj]; exact e)⟩, va_Zof (hts _ (tb_2 82 (by decide +kernel))) (hts _ (tb_1 12 (by decide +kernel))) (va_eqi (nr_all hgv (List.mem_of_getElem? (i := 4) (by decide +kernel)))) hA, va_Zqof (hts _ (tb_2 98 (by decide +kernel))) (hts _ (tb_1 18 (by decide +kernel))) (nr_all hgv (List.mem_of_getElem? (i := 5) (by decide +kernel))) hA, fun w hw => ?_⟩
  · have hi : i < 34 := (List.getElem?_eq_some_iff.mp hq).1
    have e : strs.getD i ("", 0, "") = q := by rw [List.getD_eq_getElem?_getD, hq]; rfl
    have h1 := hts _ (ms_tb (ms_rf i hi))
    have h2 := hKs i hi
    unfold tmS at h2
    rw [e] at h1 h2
    exact vk_R.of h1 h2
  · have h := hS.1 i hi
    rw [eK i hi] at h
    exact h
  · obtain ⟨h1, h2⟩ := List.mem_filter.mp hw
    refine va_Nw.of ?_ (hts w h1)
    cases w with
    | methodLinkNest a b c d => rfl
    | declares a => rfl
    | castable a b => rfl
    | _ => cases h2
theorem arr_of {ty : FieldType} (h : (Cond.arrayClass ty).before av s = true) : ∃ c : ClassId, ArrOfT s c ty ∧ s.vm.findClass ("[" ++ ty.toString) = some c := by
  obtain ⟨c, k, comp, h1, h2, h3⟩ := Cond.arrayClass_spec h
  exact ⟨c, fun n z => ⟨fun k h => (by cases h), k, h2, comp, h3⟩, h1⟩
theorem arr_ov {C : String} (h : (Cond.arrayOver (.object C)).before av s = true) : ∃ c : ClassId, ArrOfT s c (.object C) ∧ va_RA s c (.object C) := by
  obtain ⟨comp, c, k, h1, h2, h3, h4, h5⟩ := Cond.arrayOver_spec h
  exact ⟨c, fun n z => ⟨fun k h => (by cases h), k, h3, comp, h4⟩, k, comp, h3, h4, h1, h5⟩
/-- the world's classes -/
theorem start_K (hts : ∀ w ∈ lw_tbl, w.before av s = true) : ∃ (D : va_G) (c : ClassId × ClassId × ClassId × ClassId × ClassId), ∀ G : GX, gD G = D → G.2.2.1 = c → va_K (gD G) cls (tys G) s := by
  have hg : ∀ w ∈ gw, w.before av s = true := fun w hw => hts w (List.mem_filter.mp hw).1
  obtain ⟨c0, i0, k0⟩ := u_known (C := RX0) (T := TX0) (N := 5) (n := 5) hg inX0 (hg _ nX0)
  obtain ⟨c1, i1, k1⟩ := u_known (C := RX1) (T := TX1) (N := 19) (n := 19) hg inX1 (hg _ nX1)
  obtain ⟨c2, i2, k2⟩ := u_known (C := RX2) (T := TX2) (N := 3) (n := 3) hg inX2 (hg _ nX2)
  obtain ⟨c3, i3, k3⟩ := u_known (C := RX3) (T := TX3) (N := 2) (n := 2) hg inX3 (hg _ nX3)
  obtain ⟨c4, i4, k4⟩ := u_known (C := RX4) (T := TX4) (N := 11) (n := 11) hg inX4 (hg _ nX4)
  obtain ⟨c5, i5, k5⟩ := u_known (C := RX5) (T := TX5) (N := 17) (n := 17) hg inX5 (hg _ nX5)
  obtain ⟨aI, aI1, aI2⟩ := arr_of (hg _ aInt)
  obtain ⟨aC, aC1, aC2⟩ := arr_of (hg _ aChar)
  obtain ⟨aJ, aJ1, aJ2⟩ := arr_of (hg _ aLong)
  obtain ⟨aD, aD1, aD2⟩ := arr_of (hg _ aDouble)
  obtain ⟨aF, aF1, aF2⟩ := arr_ov (C := RX1) (hts _ (tb_1 119 (by decide +kernel)))
  refine ⟨(fun k => if k = 0 then c0 else if k = 1 then c1 else if k = 2 then c2 else if k = 3 then c3 else if k = 4 then c4 else c5, fun k => if k = 0 then i0 else if k = 1 then i1 else if k = 2 then i2 else if k = 3 then i3 else if k = 4 then i4 else i5), (aI, aC, aJ, aD, aF), fun G hD hG => ⟨fun k q hq => ?_, fun k q hq => ?_⟩⟩
  · rw [hD]
    match k, hq with
    | 0, hq => cases hq; exact k0
    | 1, hq => cases hq; exact k1
    | 2, hq => cases hq; exact k2
    | 3, hq => cases hq; exact k3
    | 4, hq => cases hq; exact k4
    | 5, hq => cases hq; exact k5
    | k + 6, hq => simp [cls] at hq
  · unfold tys gI gC gJ gE gF at hq
    rw [hG] at hq
    match k, hq with
    | 0, hq => cases hq; exact ⟨aI1, aI2⟩
    | 1, hq => cases hq; exact ⟨aC1, aC2⟩
    | 2, hq => cases hq; exact ⟨aJ1, aJ2⟩
    | 3, hq => cases hq; exact ⟨aD1, aD2⟩
    | 4, hq => cases hq; exact ⟨aF1, aF2⟩
    | k + 5, hq => simp at hq
end STA
