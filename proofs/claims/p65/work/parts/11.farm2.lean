/-! the answers of the farm's methods -/
/-- an element, where there is one -/
def vAt (n : Nat) (f : Nat → Int32) (i : Int32) : Int32 := if i < 0 then 0 else if nI n ≤ i then 0 else f i.toNatClampNeg
def sAt (n : Nat) (f : Nat → Int32) (i v : Int32) : Nat → Int32 := if i < 0 then f else if nI n ≤ i then f else upd f i.toNatClampNeg v
def wIn (x lw hi : Int32) : Bool := if x < lw then false else if hi < x then false else true
theorem vp_in_c {x : Int32} {n : Nat} (hn : n < 2 ^ 31) (h0 : ¬ x < 0) (h1 : ¬ nI n ≤ x) : vp_in x n := by
  obtain ⟨j, hj, rfl⟩ := nI_of h0
  have : ¬ n ≤ j := fun z => h1 (nI_le z hj)
  exact vp_in_nI (by omega) hn
theorem vAt_nI {n j : Nat} {f : Nat → Int32} (hj : j < n) (hn : n < 2 ^ 31) : vAt n f (nI j) = f j := by
  unfold vAt
  rw [if_neg (nI_pos (by omega)), if_neg (nI_ge hj (by omega)), nI_clamp (by omega)]
theorem sAt_nI {n j : Nat} {f : Nat → Int32} {v : Int32} (hj : j < n) (hn : n < 2 ^ 31) : sAt n f (nI j) v = upd f j v := by
  unfold sAt
  rw [if_neg (nI_pos (by omega)), if_neg (nI_ge hj (by omega)), nI_clamp (by omega)]
def isCell' (r c : Int32) : Bool := wIn r 0 4 && wIn c 0 5
def isHour' (x : Int32) : Bool := wIn x 0 23
def isDir' (x : Int32) : Bool := if x = 78 then true else if x = 69 then true else if x = 83 then true else if x = 87 then true else false
def isWind' (d x : Int32) : Bool := isDir' d && wIn x 0 30
def fac' (x : Int32) : Int32 := if x < 3 then 0 else if x ≤ 22 then (if 4 < x then (if 7 < x then (if 11 < x then 10 else 8) else 5) else 2) else 0
def plc' (r c : Int32) : Int32 := (r + 2) * 10 + c + 2
def stp' (d : Int32) : Int32 := if d = 78 then -10 else if d = 69 then 1 else if d = 83 then 10 else -1
def wak' (n f : Bool) : Int32 := (if n then 3 else 0) + (if f then 1 else 0)
/-- how many turbines -/
def fN (F : FM) : Nat := (fI F 0).toNatClampNeg
def wF (F : FM) : Prop := fI F 0 = nI (fN F) ∧ fN F ≤ 12
def hasT (F : FM) (t : Int32) : Bool := if t < 0 then false else if fI F 0 ≤ t then false else true
def inSt (F : FM) (t s : Int32) : Bool := if t < 0 then false else if nI 12 ≤ t then false else if fA F 3 t.toNatClampNeg = s then true else false
def tIn (F : FM) (r c : Int32) : Int32 := vAt 90 (fA F 6) (plc' r c) - 1
def curt (F : FM) (t : Int32) : Bool := if inSt F t 1 then (if vAt 12 (fA F 4) t = -1 then false else true) else false
def cSt (F : FM) (s : Int32) : Nat → Int32
  | 0 => 0
  | n + 1 => if inSt F (nI n) s then cSt F s n + 1 else cSt F s n
def crews (F : FM) : Int32 := 2 - cSt F 3 (fN F)
/-- the first turbine in service from j on, k left -/
def fSv (F : FM) : Nat → Nat → Int32
  | _, 0 => -1
  | j, k + 1 => if inSt F (nI j) 3 then nI j else fSv F (j + 1) k
def bidF (F : FM) (x : Int32) : Bool := if vAt 24 (fA F 8) x ≤ 0 then false else true
def cBd (F : FM) : Nat → Int32
  | 0 => 0
  | n + 1 => if bidF F (nI n) then cBd F n + 1 else cBd F n
def los (F : FM) (t d : Int32) : Int32 :=
  wak' (inSt F (vAt 90 (fA F 6) (plc' (vAt 12 (fA F 0) t) (vAt 12 (fA F 1) t) + stp' d) - 1) 1) (inSt F (vAt 90 (fA F 6) (plc' (vAt 12 (fA F 0) t) (vAt 12 (fA F 1) t) + 2 * stp' d) - 1) 1)
def pwr (F : FM) (t sp l : Int32) : Int32 := if fac' sp - l ≤ 0 then 0 else if inSt F t 1 then vAt 12 (fA F 2) t * (fac' sp - l) else 0
def lim (F : FM) (t p : Int32) : Int32 := if vAt 12 (fA F 4) t = -1 then p else (if p < vAt 12 (fA F 4) t then p else vAt 12 (fA F 4) t)
def outp (F : FM) (t d sp : Int32) : Int32 := lim F t (pwr F t sp (los F t d))
def sumI (F : FM) (d sp : Int32) : Nat → Int32
  | 0 => 0
  | n + 1 => sumI F d sp n + outp F (nI n) d sp
theorem lp_lt {x : Int32} {c j : Nat} (hx : x = nI c) (hc : c < 2 ^ 31) (h1 : j ≤ c) (z : ¬ x ≤ nI j) : j < c := by
  rcases Nat.lt_or_ge j c with q | q
  · exact q
  · exact absurd (by rw [hx]; exact nI_le q (by omega)) z
theorem lp_ge {x : Int32} {c j : Nat} (hx : x = nI c) (hc : c < 2 ^ 31) (h1 : j ≤ c) (z : x ≤ nI j) : j = c := by
  rcases Nat.lt_or_ge j c with q | q
  · exact absurd (by rw [hx] at z; exact z) (nI_ge q hc)
  · omega
theorem aw_cast {X : CX} {G : GX} {nL N pc : Nat} {lo lo' : List (Nat × Value)} {st : List Value} {S : Nat → va_E} {a b : Nat} (e : lo = lo') (k : AW X G nL N pc lo' st S a b) : AW X G nL N pc lo st S a b := by rw [e]; exact k
theorem rrm {a b mc ms fr lc : Nat} {st : List Value} (e : ((Nat.ble 1 fr && Nat.ble ((st.map fun v => v.category).sum + 13) lc) && (Nat.ble a mc && Nat.ble b ms)) = true) : (Nat.ble 1 fr && Nat.ble ((st.map fun v => v.category).sum + 13) lc) = true ∧ (a ≤ mc ∧ b ≤ ms) := by
  rw [Bool.and_eq_true] at e
  have e2 := e.2
  rw [Bool.and_eq_true] at e2
  exact ⟨e.1, Nat.le_of_ble_eq_true e2.1, Nat.le_of_ble_eq_true e2.2⟩
section STN
variable {X : CX} {G : GX} {cc : ByteArray} {own : String} {nL N pc pc' j : Nat} {lo lo' : List (Nat × Value)} {st : List Value} {S : Nat → va_E} {a b : Nat} {rm : Nat × Nat × Nat × Nat}
theorem r_istoren (h : OK X G N cc own nL rm) {i : Fin 4} {x : Int32} (hi : (i : Nat) = j) (hd : decode cc pc = .ok (.istore_n i, 1)) (hp : pc + 1 = pc') (hn : j < nL) (hj : lset j (.int x) false lo = some lo') (kk : AW X G nL N pc' lo' st S a b) : AW X G nL N pc lo (.int x :: st) S a b := by
  subst hi
  exact r_istore_n h hd hp hn hj kk
theorem r_astoren (h : OK X G N cc own nL rm) {i : Fin 4} {x : Nat} (hi : (i : Nat) = j) (hd : decode cc pc = .ok (.astore_n i, 1)) (hp : pc + 1 = pc') (hn : j < nL) (hj : lset j (.ref x) false lo = some lo') (kk : AW X G nL N pc' lo' st S a b) : AW X G nL N pc lo (.ref x :: st) S a b := by
  subst hi
  exact r_astore_n h hd hp hn hj kk
theorem r_lstoren (h : OK X G N cc own nL rm) {i : Fin 4} {x : Int64} (hi : (i : Nat) = j) (hd : decode cc pc = .ok (.lstore_n i, 1)) (hp : pc + 1 = pc') (hn : j + 1 < nL) (hj : lset2 j (.long x) lo = lo') (kk : AW X G nL N pc' lo' st S a b) : AW X G nL N pc lo (.long x :: st) S a b := by
  subst hi
  exact r_lstore_n h hd hp hn hj kk
end STN
