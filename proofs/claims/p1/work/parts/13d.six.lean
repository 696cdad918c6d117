/-! the law's script of 6 ints: places, the loop's end -/
theorem zvin {i : Int32} {n : Nat} (h : decide (¬ (i < 0 ∨ n ≤ i.toNatClampNeg)) = true) : vp_in i n := (of_decide_eq_true h : ¬ (i < 0 ∨ n ≤ i.toNatClampNeg))
theorem z6i0 : vp_in (Int32.ofInt 0) 6 := zvin (by decide +kernel)
theorem z6i1 : vp_in (Int32.ofInt 0 + Int32.ofInt 1) 6 := zvin (by decide +kernel)
theorem z6i2 : vp_in (Int32.ofInt 0 + Int32.ofInt 2) 6 := zvin (by decide +kernel)
theorem z6i3 : vp_in (Int32.ofInt 0 + Int32.ofInt 3) 6 := zvin (by decide +kernel)
theorem z6i4 : vp_in (Int32.ofInt 0 + Int32.ofInt 4) 6 := zvin (by decide +kernel)
theorem z6i5 : vp_in (Int32.ofInt 0 + Int32.ofInt 5) 6 := zvin (by decide +kernel)
theorem z6e : Int32.ofNat 6 - (Int8.ofInt 6).toInt32 < Int32.ofInt 0 + Int32.ofInt 6 := by decide +kernel
theorem z6b : ¬ Int32.ofNat 6 - (Int8.ofInt 6).toInt32 < Int32.ofInt 0 := by decide +kernel
