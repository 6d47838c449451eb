/-! numbers with a point -/
theorem fp_d1 {x : Nat} (hx : x < 1081) : vf_n64 (FP.ddiv (FP.i2d (nI x)) (FP.i2d (nI 1))) := co_dec (N := 1081) (P := fun x => FP.ddiv (FP.i2d (nI x)) (FP.i2d (nI 1)) &&& 0x7fffffffffffffff ≤ 0x7ff0000000000000) (by decide +kernel) hx
theorem fp_f1 {x : Nat} (hx : x < 13) : vf_n32 (FP.fdiv (FP.i2f (nI x)) (FP.i2f (nI 1))) := co_dec (N := 13) (P := fun x => FP.fdiv (FP.i2f (nI x)) (FP.i2f (nI 1)) &&& 0x7fffffff ≤ 0x7f800000) (by decide +kernel) hx
theorem fp_d2 {x : Nat} (hx : x < 1081) : vf_n64 (FP.ddiv (FP.i2d (nI x)) (FP.i2d (nI 2))) := co_dec (N := 1081) (P := fun x => FP.ddiv (FP.i2d (nI x)) (FP.i2d (nI 2)) &&& 0x7fffffffffffffff ≤ 0x7ff0000000000000) (by decide +kernel) hx
theorem fp_f2 {x : Nat} (hx : x < 13) : vf_n32 (FP.fdiv (FP.i2f (nI x)) (FP.i2f (nI 2))) := co_dec (N := 13) (P := fun x => FP.fdiv (FP.i2f (nI x)) (FP.i2f (nI 2)) &&& 0x7fffffff ≤ 0x7f800000) (by decide +kernel) hx
theorem fp_d3 {x : Nat} (hx : x < 1081) : vf_n64 (FP.ddiv (FP.i2d (nI x)) (FP.i2d (nI 3))) := co_dec (N := 1081) (P := fun x => FP.ddiv (FP.i2d (nI x)) (FP.i2d (nI 3)) &&& 0x7fffffffffffffff ≤ 0x7ff0000000000000) (by decide +kernel) hx
theorem fp_f3 {x : Nat} (hx : x < 13) : vf_n32 (FP.fdiv (FP.i2f (nI x)) (FP.i2f (nI 3))) := co_dec (N := 13) (P := fun x => FP.fdiv (FP.i2f (nI x)) (FP.i2f (nI 3)) &&& 0x7fffffff ≤ 0x7f800000) (by decide +kernel) hx
theorem fp_d4 {x : Nat} (hx : x < 1081) : vf_n64 (FP.ddiv (FP.i2d (nI x)) (FP.i2d (nI 4))) := co_dec (N := 1081) (P := fun x => FP.ddiv (FP.i2d (nI x)) (FP.i2d (nI 4)) &&& 0x7fffffffffffffff ≤ 0x7ff0000000000000) (by decide +kernel) hx
theorem fp_f4 {x : Nat} (hx : x < 13) : vf_n32 (FP.fdiv (FP.i2f (nI x)) (FP.i2f (nI 4))) := co_dec (N := 13) (P := fun x => FP.fdiv (FP.i2f (nI x)) (FP.i2f (nI 4)) &&& 0x7fffffff ≤ 0x7f800000) (by decide +kernel) hx
theorem fp_d5 {x : Nat} (hx : x < 1081) : vf_n64 (FP.ddiv (FP.i2d (nI x)) (FP.i2d (nI 5))) := co_dec (N := 1081) (P := fun x => FP.ddiv (FP.i2d (nI x)) (FP.i2d (nI 5)) &&& 0x7fffffffffffffff ≤ 0x7ff0000000000000) (by decide +kernel) hx
theorem fp_f5 {x : Nat} (hx : x < 13) : vf_n32 (FP.fdiv (FP.i2f (nI x)) (FP.i2f (nI 5))) := co_dec (N := 13) (P := fun x => FP.fdiv (FP.i2f (nI x)) (FP.i2f (nI 5)) &&& 0x7fffffff ≤ 0x7f800000) (by decide +kernel) hx
theorem fp_d6 {x : Nat} (hx : x < 1081) : vf_n64 (FP.ddiv (FP.i2d (nI x)) (FP.i2d (nI 6))) := co_dec (N := 1081) (P := fun x => FP.ddiv (FP.i2d (nI x)) (FP.i2d (nI 6)) &&& 0x7fffffffffffffff ≤ 0x7ff0000000000000) (by decide +kernel) hx
theorem fp_f6 {x : Nat} (hx : x < 13) : vf_n32 (FP.fdiv (FP.i2f (nI x)) (FP.i2f (nI 6))) := co_dec (N := 13) (P := fun x => FP.fdiv (FP.i2f (nI x)) (FP.i2f (nI 6)) &&& 0x7fffffff ≤ 0x7f800000) (by decide +kernel) hx
theorem fp_d7 {x : Nat} (hx : x < 1081) : vf_n64 (FP.ddiv (FP.i2d (nI x)) (FP.i2d (nI 7))) := co_dec (N := 1081) (P := fun x => FP.ddiv (FP.i2d (nI x)) (FP.i2d (nI 7)) &&& 0x7fffffffffffffff ≤ 0x7ff0000000000000) (by decide +kernel) hx
theorem fp_f7 {x : Nat} (hx : x < 13) : vf_n32 (FP.fdiv (FP.i2f (nI x)) (FP.i2f (nI 7))) := co_dec (N := 13) (P := fun x => FP.fdiv (FP.i2f (nI x)) (FP.i2f (nI 7)) &&& 0x7fffffff ≤ 0x7f800000) (by decide +kernel) hx
theorem fp_d8 {x : Nat} (hx : x < 1081) : vf_n64 (FP.ddiv (FP.i2d (nI x)) (FP.i2d (nI 8))) := co_dec (N := 1081) (P := fun x => FP.ddiv (FP.i2d (nI x)) (FP.i2d (nI 8)) &&& 0x7fffffffffffffff ≤ 0x7ff0000000000000) (by decide +kernel) hx
theorem fp_f8 {x : Nat} (hx : x < 13) : vf_n32 (FP.fdiv (FP.i2f (nI x)) (FP.i2f (nI 8))) := co_dec (N := 13) (P := fun x => FP.fdiv (FP.i2f (nI x)) (FP.i2f (nI 8)) &&& 0x7fffffff ≤ 0x7f800000) (by decide +kernel) hx
theorem fp_d9 {x : Nat} (hx : x < 1081) : vf_n64 (FP.ddiv (FP.i2d (nI x)) (FP.i2d (nI 9))) := co_dec (N := 1081) (P := fun x => FP.ddiv (FP.i2d (nI x)) (FP.i2d (nI 9)) &&& 0x7fffffffffffffff ≤ 0x7ff0000000000000) (by decide +kernel) hx
theorem fp_f9 {x : Nat} (hx : x < 13) : vf_n32 (FP.fdiv (FP.i2f (nI x)) (FP.i2f (nI 9))) := co_dec (N := 13) (P := fun x => FP.fdiv (FP.i2f (nI x)) (FP.i2f (nI 9)) &&& 0x7fffffff ≤ 0x7f800000) (by decide +kernel) hx
theorem fp_d10 {x : Nat} (hx : x < 1081) : vf_n64 (FP.ddiv (FP.i2d (nI x)) (FP.i2d (nI 10))) := co_dec (N := 1081) (P := fun x => FP.ddiv (FP.i2d (nI x)) (FP.i2d (nI 10)) &&& 0x7fffffffffffffff ≤ 0x7ff0000000000000) (by decide +kernel) hx
theorem fp_f10 {x : Nat} (hx : x < 13) : vf_n32 (FP.fdiv (FP.i2f (nI x)) (FP.i2f (nI 10))) := co_dec (N := 13) (P := fun x => FP.fdiv (FP.i2f (nI x)) (FP.i2f (nI 10)) &&& 0x7fffffff ≤ 0x7f800000) (by decide +kernel) hx
theorem fp_d11 {x : Nat} (hx : x < 1081) : vf_n64 (FP.ddiv (FP.i2d (nI x)) (FP.i2d (nI 11))) := co_dec (N := 1081) (P := fun x => FP.ddiv (FP.i2d (nI x)) (FP.i2d (nI 11)) &&& 0x7fffffffffffffff ≤ 0x7ff0000000000000) (by decide +kernel) hx
theorem fp_f11 {x : Nat} (hx : x < 13) : vf_n32 (FP.fdiv (FP.i2f (nI x)) (FP.i2f (nI 11))) := co_dec (N := 13) (P := fun x => FP.fdiv (FP.i2f (nI x)) (FP.i2f (nI 11)) &&& 0x7fffffff ≤ 0x7f800000) (by decide +kernel) hx
theorem fp_d12 {x : Nat} (hx : x < 1081) : vf_n64 (FP.ddiv (FP.i2d (nI x)) (FP.i2d (nI 12))) := co_dec (N := 1081) (P := fun x => FP.ddiv (FP.i2d (nI x)) (FP.i2d (nI 12)) &&& 0x7fffffffffffffff ≤ 0x7ff0000000000000) (by decide +kernel) hx
theorem fp_f12 {x : Nat} (hx : x < 13) : vf_n32 (FP.fdiv (FP.i2f (nI x)) (FP.i2f (nI 12))) := co_dec (N := 13) (P := fun x => FP.fdiv (FP.i2f (nI x)) (FP.i2f (nI 12)) &&& 0x7fffffff ≤ 0x7f800000) (by decide +kernel) hx
theorem fp_d {n x : Nat} (h0 : 0 < n) (hn : n < 13) (hx : x < 1081) : vf_n64 (FP.ddiv (FP.i2d (nI x)) (FP.i2d (nI n))) := by
  rcases (by omega : n = 1 ∨ n = 2 ∨ n = 3 ∨ n = 4 ∨ n = 5 ∨ n = 6 ∨ n = 7 ∨ n = 8 ∨ n = 9 ∨ n = 10 ∨ n = 11 ∨ n = 12) with rfl | rfl | rfl | rfl | rfl | rfl | rfl | rfl | rfl | rfl | rfl | rfl
  · exact fp_d1 hx
  · exact fp_d2 hx
  · exact fp_d3 hx
  · exact fp_d4 hx
  · exact fp_d5 hx
  · exact fp_d6 hx
  · exact fp_d7 hx
  · exact fp_d8 hx
  · exact fp_d9 hx
  · exact fp_d10 hx
  · exact fp_d11 hx
  · exact fp_d12 hx
theorem fp_f {n x : Nat} (h0 : 0 < n) (hn : n < 13) (hx : x < 13) : vf_n32 (FP.fdiv (FP.i2f (nI x)) (FP.i2f (nI n))) := by
  rcases (by omega : n = 1 ∨ n = 2 ∨ n = 3 ∨ n = 4 ∨ n = 5 ∨ n = 6 ∨ n = 7 ∨ n = 8 ∨ n = 9 ∨ n = 10 ∨ n = 11 ∨ n = 12) with rfl | rfl | rfl | rfl | rfl | rfl | rfl | rfl | rfl | rfl | rfl | rfl
  · exact fp_f1 hx
  · exact fp_f2 hx
  · exact fp_f3 hx
  · exact fp_f4 hx
  · exact fp_f5 hx
  · exact fp_f6 hx
  · exact fp_f7 hx
  · exact fp_f8 hx
  · exact fp_f9 hx
  · exact fp_f10 hx
  · exact fp_f11 hx
  · exact fp_f12 hx
