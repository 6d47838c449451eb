/-! THE READER: what it leaves alone; how an answer of it is told. -/
section RNN
variable {X : CX} {G : GX} {cc : ByteArray} {own : String} {nL N pc pc' : Nat} {lo : List (Nat × Value)} {st : List Value} {S : Nat → va_E} {a b : Nat} {rm : Nat × Nat × Nat × Nat}
theorem r_ifnonnullN (h : OK X G N cc own nL rm) {off : Int} (hd : decode cc pc = .ok (.ifnonnull off, 3)) (hp : pc + 3 = pc') (kk : AW X G nL N pc' lo st S a b) : AW X G nL N pc lo (.null :: st) S a b := by
  subst hp
  intro H locs ls hP hS hl
  exact lv_ifnonnullN h.1 h.2.1 hd (kk H locs ls hP hS hl)
theorem r_nstoren (h : OK X G N cc own nL rm) {lo' : List (Nat × Value)} {j : Nat} {i : Fin 4} (hi : (i : Nat) = j) (hd : decode cc pc = .ok (.astore_n i, 1)) (hp : pc + 1 = pc') (hn : j < nL) (hj : lset j .null false lo = some lo') (kk : AW X G nL N pc' lo' st S a b) : AW X G nL N pc lo (.null :: st) S a b := by
  subst hp
  intro H locs ls hP hS hl
  exact lv_astore_nN h.1 h.2.1 hd hi hl hn rfl (fun ls' hl' => kk H locs ls' hP hS (lset_has hj hl'))
theorem r_nload_n (h : OK X G N cc own nL rm) {i : Fin 4} (hd : decode cc pc = .ok (.aload_n i, 1)) (hp : pc + 1 = pc') (hv : lget (i : Nat) lo = some .null) (kk : AW X G nL N pc' lo (.null :: st) S a b) : AW X G nL N pc lo st S a b := by
  subst hp
  intro H locs ls hP hS hl
  exact lv_aload_nN h.1 h.2.1 hd rfl (lget_at hl hv) (kk H locs ls hP hS hl)
end RNN
section KB
variable {G : GX} {N : Nat} {S S1 : Nat → va_E} {K : RK}
theorem kB {op : DM × Bool} {D1 : DM} {v : Bool} {x : Int32} (hk : ∀ S1, isD G N S1 op.1 → DR S S1 → K (.inl (some (.int (b2i op.2)))) S1) (h : isD G N S1 D1) (r : DR S S1) (e : op = (D1, v)) (ex : x = b2i v) : K (.inl (some (.int x))) S1 := by
  subst e
  subst ex
  exact hk S1 h r
theorem kN {op : DM × Int32} {D1 : DM} {x : Int32} (hk : ∀ S1, isD G N S1 op.1 → DR S S1 → K (.inl (some (.int op.2))) S1) (h : isD G N S1 D1) (r : DR S S1) (e : op = (D1, x)) : K (.inl (some (.int x))) S1 := by
  subst e
  exact hk S1 h r
theorem kO {o o' : RO} (hk : K o S) (e : o = o') : K o' S := by
  subst e
  exact hk
end KB
def Sm (D D' : DM) : Prop := D'.1 = D.1 ∧ (∀ k, k < 7 ∨ 9 < k → dI D' k = dI D k) ∧ ∀ k, 0 < k → dR D' k = dR D k
theorem Sm.rf (D : DM) : Sm D D := ⟨rfl, fun _ _ => rfl, fun _ _ => rfl⟩
theorem Sm.tr {A B C : DM} (h1 : Sm A B) (h2 : Sm B C) : Sm A C := ⟨h2.1.trans h1.1, fun k hk => (h2.2.1 k hk).trans (h1.2.1 k hk), fun k hk => (h2.2.2 k hk).trans (h1.2.2 k hk)⟩
theorem Sm.d (D : DM) {k : Nat} {v : Int32} (hk : 7 ≤ k ∧ k ≤ 9) : Sm D (sD D k v) := ⟨rfl, fun j hj => by rw [dI_sD, if_neg (by omega)], fun _ _ => rfl⟩
theorem Sm.r (D : DM) {f : Nat → Int32} : Sm D (sR D 0 f) := ⟨rfl, fun _ _ => rfl, fun k hk => by rw [dR_sR, if_neg (by omega)]⟩
theorem Sm_Ad (D : DM) : Sm D (rAd D) := Sm.d D (by decide)
theorem Sm_Sn (D : DM) (c : Int32) : Sm D (rSn D c).1 := by
  unfold rSn
  split
  · exact Sm_Ad D
  · exact Sm.rf D
theorem Sm_Kp (D : DM) (v : Int32) : Sm D (rKp D v) := (Sm.r D).tr (Sm.d _ (by decide))
theorem Sm_Dr (D : DM) : Sm D (rDr D).1 := by
  unfold rDr
  split
  · exact (Sm_Kp D _).tr (Sm_Ad _)
  · exact Sm.rf D
theorem Sm_Dl : ∀ (k : Nat) (D : DM) (v n : Int32), Sm D (rDl k D v n).1
  | 0, D, _, _ => Sm.rf D
  | k + 1, D, v, n => by
    unfold rDl
    split
    · exact (Sm_Ad D).tr (Sm_Dl k _ _ _)
    · exact Sm.rf D
theorem Sm_Dg (m : Nat) (D : DM) : Sm D (rDg m D).1 := (Sm_Dl m D 0 0).tr (Sm_Kp _ _)
theorem Sm_Pt (D : DM) (c : Int32) : Sm D (rPt D c).1 := by
  unfold rPt
  split
  · exact Sm_Dg 1 D
  · split
    · exact Sm_Dg 3 D
    · split
      · exact Sm_Dr D
      · exact Sm_Sn D c
theorem Sm_Ps (i : Nat) : ∀ (k j : Nat) (D : DM), Sm D (rPs i j k D).1
  | 0, _, D => Sm.rf D
  | k + 1, j, D => by
    unfold rPs
    split
    · exact (Sm_Pt D _).tr (Sm_Ps i k _ _)
    · exact Sm_Pt D _
theorem Sm_N1 (D : DM) : Sm D (rN1 D).1 := by
  unfold rN1
  split
  · exact Sm.rf D
  · exact Sm_Sn D _
theorem Sm_N2 (D : DM) : Sm D (rN2 D) := ((Sm.d D (by decide)).tr (Sm_Ad _)).tr (Sm.d _ (by decide))
theorem Sm_Nx (D : DM) : Sm D (rNx D).1 := by
  unfold rNx
  split
  · split
    · exact Sm_N1 D
    · exact ((Sm_N1 D).tr (Sm_N2 _)).tr (Sm_Ps _ _ _ _)
  · exact Sm_N1 D
theorem Sm_Ct : ∀ (k j : Nat) (D : DM), Sm D (rCt j k D).1
  | 0, _, D => Sm.rf D
  | k + 1, j, D => by
    unfold rCt
    split
    · split
      · exact Sm_Nx D
      · exact (Sm_Nx D).tr (Sm_Ct k _ _)
    · exact Sm_Nx D
theorem Sm_Cc (D : DM) : Sm D (rCc D).1 := (Sm.d D (by decide)).tr (Sm_Ct _ _ _)
theorem Sm.row {D D' : DM} (h : Sm D D') (hr : rowC (dR D 1)) : rowC (dR D' 1) := by
  rw [h.2.2 1 (by decide)]
  exact hr
theorem ite_s7 {c : Prop} [Decidable c] {a i : Nat} {r : Option Nat} (h : (if c then some a else r) = some i) (ha : a < 7) (hr : r = some i → i < 7) : i < 7 := by
  by_cases e : c
  · rw [if_pos e] at h
    cases h
    exact ha
  · rw [if_neg e] at h
    exact hr h
theorem pOf_lt {c : Int32} {i : Nat} (h : pOf c = some i) : i < 7 := by
  unfold pOf at h
  exact ite_s7 h (by decide) fun h => ite_s7 h (by decide) fun h => ite_s7 h (by decide) fun h => ite_s7 h (by decide) fun h => ite_s7 h (by decide) fun h => ite_s7 h (by decide) fun h => ite_s7 h (by decide) fun h => ite_s7 h (by decide) fun h => ite_s7 h (by decide) fun h => ite_s7 h (by decide) fun h => ite_s7 h (by decide) fun h => ite_s7 h (by decide) fun h => ite_s7 h (by decide) fun h => nomatch h
theorem isCh_SigD {D : DM} (h : rowC (dR D 1)) : isCh (rSg D) := isCh_Sig (T := (dI D 10, dR D 1)) h (dI D 8)
