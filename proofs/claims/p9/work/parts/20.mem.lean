/-! MEMORY: numbers by place and row; what the heap is of it (wip/tools/gen_mem.py) -/
abbrev zM : Type := Nat → Nat → Int
def zm_rf (x : Int) : Value := if x = 0 then .null else .ref x.toNat
def zm_ro (x : Int) : Option Nat := if x = 0 then none else some x.toNat
def zm_up (m : zM) (p i : Nat) (v : Int) : zM := fun p1 i1 => if p1 = p ∧ i1 = i then v else m p1 i1
/-- the code of a TASTE: its length stands at 1001, which is no part of it -/
def zcd (r : Nat → Int) (j : Nat) : Int := if j = 1001 then 0 else r j
def zm_tas (k : Nat) (r : Nat → Int) : z_E := match (k - 107) % 4 with
  | 0 => .inr (9, [.ref (k + 3), .int (Int32.ofInt (r 1)), .ref (k + 1), .ref (k + 2)])
  | 1 => .inl (0, 6, .inl (fun j => Int32.ofInt (r j)))
  | 2 => .inl (1, 32, .inr (.inl (fun j => Int64.ofInt (r j))))
  | _ => .inl (0, (r 1001).toNat, .inl (fun j => Int32.ofInt (zcd r j)))
def zm_sh (k : Nat) (r : Nat → Int) : z_E := bif Nat.ble 107 k then zm_tas k r else (bif Nat.ble k 53 then (bif Nat.ble k 26 then (bif Nat.ble k 13 then (bif Nat.ble k 6 then (bif Nat.ble k 3 then (bif Nat.ble k 1 then (bif Nat.ble k 0 then .inr (11, [.ref 1, .ref 3, .ref 10, .ref 12, .ref 13, .ref 17, .ref 18, .ref 23, .ref 68, .ref 69, .ref 73, .ref 75, .int (Int32.ofInt (r 12)), .int (Int32.ofInt (r 13)), .int (Int32.ofInt (r 14))]) else .inr (8, [.ref 2, .int (Int32.ofInt (r 1)), .int (Int32.ofInt (r 2)), .int (Int32.ofInt (r 3))])) else (bif Nat.ble k 2 then .inl (0, 240, .inl (fun j => Int32.ofInt (r j))) else .inr (4, [.ref 1, .ref 4, .ref 8, .ref 9]))) else (bif Nat.ble k 5 then (bif Nat.ble k 4 then .inr (6, [.ref 5, .ref 6, .ref 7, .int (Int32.ofInt (r 3)), .int (Int32.ofInt (r 4))]) else .inl (0, 5, .inl (fun j => Int32.ofInt (r j)))) else .inl (0, 48, .inl (fun j => Int32.ofInt (r j))))) else (bif Nat.ble k 10 then (bif Nat.ble k 8 then (bif Nat.ble k 7 then .inl (0, 6, .inl (fun j => Int32.ofInt (r j))) else .inl (0, 188, .inl (fun j => Int32.ofInt (r j)))) else (bif Nat.ble k 9 then .inl (0, 7, .inl (fun j => Int32.ofInt (r j))) else .inr (10, [.ref 1, .ref 11, .int (Int32.ofInt (r 2)), .int (Int32.ofInt (r 3))]))) else (bif Nat.ble k 12 then (bif Nat.ble k 11 then .inl (0, 240, .inl (fun j => Int32.ofInt (r j))) else .inl (4, 4, .inr (.inr (.inr (.inr (fun j => zm_ro (r j))))))) else .inr (6, [.ref 14, .ref 15, .ref 16, .int (Int32.ofInt (r 3)), .int (Int32.ofInt (r 4))])))) else (bif Nat.ble k 20 then (bif Nat.ble k 17 then (bif Nat.ble k 15 then (bif Nat.ble k 14 then .inl (0, 5, .inl (fun j => Int32.ofInt (r j))) else .inl (0, 48, .inl (fun j => Int32.ofInt (r j)))) else (bif Nat.ble k 16 then .inl (0, 6, .inl (fun j => Int32.ofInt (r j))) else .inl (0, 188, .inl (fun j => Int32.ofInt (r j))))) else (bif Nat.ble k 19 then (bif Nat.ble k 18 then .inr (3, [.ref 13, zm_rf (r 1), .ref 19, .int (Int32.ofInt (r 3)), .int (Int32.ofInt (r 4)), .int (Int32.ofInt (r 5)), .int (Int32.ofInt (r 6)), .int (Int32.ofInt (r 7)), .int (Int32.ofInt (r 8)), .ref 20, .ref 21, .ref 22]) else .inl (0, 10, .inl (fun j => Int32.ofInt (r j)))) else .inl (3, 10, .inl (fun j => Int32.ofInt (r j))))) else (bif Nat.ble k 23 then (bif Nat.ble k 22 then (bif Nat.ble k 21 then .inl (0, 20, .inl (fun j => Int32.ofInt (r j))) else .inl (0, 20, .inl (fun j => Int32.ofInt (r j)))) else .inr (5, [.ref 24, .ref 65, .ref 66, .ref 67, .int (Int32.ofInt (r 4)), .int (Int32.ofInt (r 5)), .int (Int32.ofInt (r 6)), .int (Int32.ofInt (r 7)), .int (Int32.ofInt (r 8))])) else (bif Nat.ble k 25 then (bif Nat.ble k 24 then .inl (5, 40, .inr (.inr (.inr (.inr (fun j => if j < 40 then some (25 + j) else none))))) else .inl (0, 188, .inl (fun j => Int32.ofInt (r j)))) else .inl (0, 188, .inl (fun j => Int32.ofInt (r j))))))) else (bif Nat.ble k 40 then (bif Nat.ble k 33 then (bif Nat.ble k 30 then (bif Nat.ble k 28 then (bif Nat.ble k 27 then .inl (0, 188, .inl (fun j => Int32.ofInt (r j))) else .inl (0, 188, .inl (fun j => Int32.ofInt (r j)))) else (bif Nat.ble k 29 then .inl (0, 188, .inl (fun j => Int32.ofInt (r j))) else .inl (0, 188, .inl (fun j => Int32.ofInt (r j))))) else (bif Nat.ble k 32 then (bif Nat.ble k 31 then .inl (0, 188, .inl (fun j => Int32.ofInt (r j))) else .inl (0, 188, .inl (fun j => Int32.ofInt (r j)))) else .inl (0, 188, .inl (fun j => Int32.ofInt (r j))))) else (bif Nat.ble k 37 then (bif Nat.ble k 35 then (bif Nat.ble k 34 then .inl (0, 188, .inl (fun j => Int32.ofInt (r j))) else .inl (0, 188, .inl (fun j => Int32.ofInt (r j)))) else (bif Nat.ble k 36 then .inl (0, 188, .inl (fun j => Int32.ofInt (r j))) else .inl (0, 188, .inl (fun j => Int32.ofInt (r j))))) else (bif Nat.ble k 39 then (bif Nat.ble k 38 then .inl (0, 188, .inl (fun j => Int32.ofInt (r j))) else .inl (0, 188, .inl (fun j => Int32.ofInt (r j)))) else .inl (0, 188, .inl (fun j => Int32.ofInt (r j)))))) else (bif Nat.ble k 47 then (bif Nat.ble k 44 then (bif Nat.ble k 42 then (bif Nat.ble k 41 then .inl (0, 188, .inl (fun j => Int32.ofInt (r j))) else .inl (0, 188, .inl (fun j => Int32.ofInt (r j)))) else (bif Nat.ble k 43 then .inl (0, 188, .inl (fun j => Int32.ofInt (r j))) else .inl (0, 188, .inl (fun j => Int32.ofInt (r j))))) else (bif Nat.ble k 46 then (bif Nat.ble k 45 then .inl (0, 188, .inl (fun j => Int32.ofInt (r j))) else .inl (0, 188, .inl (fun j => Int32.ofInt (r j)))) else .inl (0, 188, .inl (fun j => Int32.ofInt (r j))))) else (bif Nat.ble k 50 then (bif Nat.ble k 49 then (bif Nat.ble k 48 then .inl (0, 188, .inl (fun j => Int32.ofInt (r j))) else .inl (0, 188, .inl (fun j => Int32.ofInt (r j)))) else .inl (0, 188, .inl (fun j => Int32.ofInt (r j)))) else (bif Nat.ble k 52 then (bif Nat.ble k 51 then .inl (0, 188, .inl (fun j => Int32.ofInt (r j))) else .inl (0, 188, .inl (fun j => Int32.ofInt (r j)))) else .inl (0, 188, .inl (fun j => Int32.ofInt (r j)))))))) else (bif Nat.ble k 80 then (bif Nat.ble k 67 then (bif Nat.ble k 60 then (bif Nat.ble k 57 then (bif Nat.ble k 55 then (bif Nat.ble k 54 then .inl (0, 188, .inl (fun j => Int32.ofInt (r j))) else .inl (0, 188, .inl (fun j => Int32.ofInt (r j)))) else (bif Nat.ble k 56 then .inl (0, 188, .inl (fun j => Int32.ofInt (r j))) else .inl (0, 188, .inl (fun j => Int32.ofInt (r j))))) else (bif Nat.ble k 59 then (bif Nat.ble k 58 then .inl (0, 188, .inl (fun j => Int32.ofInt (r j))) else .inl (0, 188, .inl (fun j => Int32.ofInt (r j)))) else .inl (0, 188, .inl (fun j => Int32.ofInt (r j))))) else (bif Nat.ble k 64 then (bif Nat.ble k 62 then (bif Nat.ble k 61 then .inl (0, 188, .inl (fun j => Int32.ofInt (r j))) else .inl (0, 188, .inl (fun j => Int32.ofInt (r j)))) else (bif Nat.ble k 63 then .inl (0, 188, .inl (fun j => Int32.ofInt (r j))) else .inl (0, 188, .inl (fun j => Int32.ofInt (r j))))) else (bif Nat.ble k 66 then (bif Nat.ble k 65 then .inl (3, 40, .inl (fun j => Int32.ofInt (r j))) else .inl (0, 400, .inl (fun j => Int32.ofInt (r j)))) else .inl (0, 188, .inl (fun j => Int32.ofInt (r j)))))) else (bif Nat.ble k 74 then (bif Nat.ble k 71 then (bif Nat.ble k 69 then (bif Nat.ble k 68 then .inr (0, [.int (Int32.ofInt (r 0)), .long (Int64.ofInt (r 1))]) else .inr (2, [.ref 13, .ref 18, .ref 70, .ref 71, .ref 72, .int (Int32.ofInt (r 5)), .int (Int32.ofInt (r 6))])) else (bif Nat.ble k 70 then .inl (0, 188, .inl (fun j => Int32.ofInt (r j))) else .inl (0, 16, .inl (fun j => Int32.ofInt (r j))))) else (bif Nat.ble k 73 then (bif Nat.ble k 72 then .inl (0, 16, .inl (fun j => Int32.ofInt (r j))) else .inr (7, [.ref 13, .ref 18, .ref 74, .int (Int32.ofInt (r 3)), .int (Int32.ofInt (r 4))])) else .inl (0, 188, .inl (fun j => Int32.ofInt (r j))))) else (bif Nat.ble k 77 then (bif Nat.ble k 76 then (bif Nat.ble k 75 then .inr (1, [.ref 13, .ref 18, .ref 76, .ref 77, .ref 78, .int (Int32.ofInt (r 5))]) else .inl (0, 188, .inl (fun j => Int32.ofInt (r j)))) else .inl (0, 6, .inl (fun j => Int32.ofInt (r j)))) else (bif Nat.ble k 79 then (bif Nat.ble k 78 then .inl (0, 6, .inl (fun j => Int32.ofInt (r j))) else .inr (12, (.int (Int32.ofInt (r 0)) :: .ref 80 :: .ref 81 :: .ref 82 :: .ref 83 :: zm_rf (r 5) :: .int (Int32.ofInt (r 6)) :: .int (Int32.ofInt (r 7)) :: .int (Int32.ofInt (r 8)) :: .int (Int32.ofInt (r 9)) :: .int (Int32.ofInt (r 10)) :: .int (Int32.ofInt (r 11)) :: .int (Int32.ofInt (r 12)) :: .int (Int32.ofInt (r 13)) :: .int (Int32.ofInt (r 14)) :: .ref (z_RO + 5) :: .ref (z_RO + 3) :: .int (Int32.ofInt (r 17)) :: .ref 84 :: .ref 85 :: .ref 86 :: .ref 87 :: .ref 88 :: .ref 89 :: .ref 90 :: .ref 91 :: .int (Int32.ofInt (r 26)) :: .int (Int32.ofInt (r 27)) :: .int (Int32.ofInt (r 28)) :: .int (Int32.ofInt (r 29)) :: .int (Int32.ofInt (r 30)) :: .ref 92 :: .ref 93 :: .int (Int32.ofInt (r 33)) :: .int (Int32.ofInt (r 34)) :: .ref 94 :: .ref 95 :: .int (Int32.ofInt (r 37)) :: .int (Int32.ofInt (r 38)) :: .int (Int32.ofInt (r 39)) :: .int (Int32.ofInt (r 40)) :: .int (Int32.ofInt (r 41)) :: .int (Int32.ofInt (r 42)) :: .ref 96 :: .ref 97 :: .ref 98 :: .ref 99 :: .ref 100 :: .int (Int32.ofInt (r 48)) :: .int (Int32.ofInt (r 49)) :: .long (Int64.ofInt (r 50)) :: .ref 101 :: .ref 102 :: .int (Int32.ofInt (r 53)) :: .ref 103 :: .ref 104 :: .ref 105 :: .int (Int32.ofInt (r 57)) :: []))) else .inl (2, 240, .inl (fun j => Int32.ofInt (r j))))))) else (bif Nat.ble k 93 then (bif Nat.ble k 87 then (bif Nat.ble k 84 then (bif Nat.ble k 82 then (bif Nat.ble k 81 then .inl (2, 960, .inl (fun j => Int32.ofInt (r j))) else .inl (0, 4, .inl (fun j => Int32.ofInt (r j)))) else (bif Nat.ble k 83 then .inl (0, 128, .inl (fun j => Int32.ofInt (r j))) else .inl (0, 5, .inl (fun j => Int32.ofInt (r j))))) else (bif Nat.ble k 86 then (bif Nat.ble k 85 then .inl (0, 5, .inl (fun j => Int32.ofInt (r j))) else .inl (0, 42, .inl (fun j => Int32.ofInt (r j)))) else .inl (0, 12, .inl (fun j => Int32.ofInt (r j))))) else (bif Nat.ble k 90 then (bif Nat.ble k 89 then (bif Nat.ble k 88 then .inl (0, 48, .inl (fun j => Int32.ofInt (r j))) else .inl (0, 48, .inl (fun j => Int32.ofInt (r j)))) else .inl (0, 6, .inl (fun j => Int32.ofInt (r j)))) else (bif Nat.ble k 92 then (bif Nat.ble k 91 then .inl (0, 6, .inl (fun j => Int32.ofInt (r j))) else .inl (0, 178, .inl (fun j => Int32.ofInt (r j)))) else .inl (0, 178, .inl (fun j => Int32.ofInt (r j)))))) else (bif Nat.ble k 100 then (bif Nat.ble k 97 then (bif Nat.ble k 95 then (bif Nat.ble k 94 then .inl (0, 10, .inl (fun j => Int32.ofInt (r j))) else .inl (0, 10, .inl (fun j => Int32.ofInt (r j)))) else (bif Nat.ble k 96 then .inl (1, 8191, .inr (.inl (fun j => Int64.ofInt (r j)))) else .inl (0, 8191, .inl (fun j => Int32.ofInt (r j))))) else (bif Nat.ble k 99 then (bif Nat.ble k 98 then .inl (0, 7120, .inl (fun j => Int32.ofInt (r j))) else .inl (0, 240, .inl (fun j => Int32.ofInt (r j)))) else .inl (3, 40, .inl (fun j => Int32.ofInt (r j))))) else (bif Nat.ble k 103 then (bif Nat.ble k 102 then (bif Nat.ble k 101 then .inl (0, 6, .inl (fun j => Int32.ofInt (r j))) else .inl (0, 6, .inl (fun j => Int32.ofInt (r j)))) else .inl (0, 16, .inl (fun j => Int32.ofInt (r j)))) else (bif Nat.ble k 105 then (bif Nat.ble k 104 then .inl (0, 16, .inl (fun j => Int32.ofInt (r j))) else .inl (0, 178, .inl (fun j => Int32.ofInt (r j)))) else .inl (1, 1, .inr (.inl (fun j => Int64.ofInt (r j))))))))))
def zk (c : Nat × Nat) (m : zM) : z_H := (c.1, c.2, fun k => zm_sh k (m k))
/-- a number of 32 bits; of 64 -/
def zR (a : Int) : Prop := -2147483648 ≤ a ∧ a ≤ 2147483647
def zR8 (a : Int) : Prop := -9223372036854775808 ≤ a ∧ a ≤ 9223372036854775807
theorem zi_to {a : Int} (h : zR a) : (Int32.ofInt a).toInt = a := by
  unfold zR at h
  rw [Int32.toInt_ofInt_of_le] <;> omega
theorem zl_to {a : Int} (h : zR8 a) : (Int64.ofInt a).toInt = a := by
  unfold zR8 at h
  rw [Int64.toInt_ofInt_of_le] <;> omega
theorem zi_x {x : Int32} {a : Int} (hx : x = Int32.ofInt a) (r : zR a) : x.toInt = a := by rw [hx, zi_to r]
theorem zl_x {x : Int64} {a : Int} (hx : x = Int64.ofInt a) (r : zR8 a) : x.toInt = a := by rw [hx, zl_to r]
theorem zi_add {x y : Int32} {a b : Int} (hx : x = Int32.ofInt a) (hy : y = Int32.ofInt b) : x + y = Int32.ofInt (a + b) := by rw [hx, hy, Int32.ofInt_add]
theorem zi_sub {x y : Int32} {a b : Int} (hx : x = Int32.ofInt a) (hy : y = Int32.ofInt b) : x - y = Int32.ofInt (a - b) := by rw [hx, hy, Int32.ofInt_sub]
theorem zi_mul {x y : Int32} {a b : Int} (hx : x = Int32.ofInt a) (hy : y = Int32.ofInt b) : x * y = Int32.ofInt (a * b) := by rw [hx, hy, Int32.ofInt_mul]
theorem zi_neg {x : Int32} {a : Int} (hx : x = Int32.ofInt a) : -x = Int32.ofInt (-a) := by rw [hx, Int32.ofInt_neg]
theorem zl_add {x y : Int64} {a b : Int} (hx : x = Int64.ofInt a) (hy : y = Int64.ofInt b) : x + y = Int64.ofInt (a + b) := by rw [hx, hy, Int64.ofInt_add]
theorem zl_sub {x y : Int64} {a b : Int} (hx : x = Int64.ofInt a) (hy : y = Int64.ofInt b) : x - y = Int64.ofInt (a - b) := by rw [hx, hy, Int64.ofInt_sub]
theorem zl_mul {x y : Int64} {a b : Int} (hx : x = Int64.ofInt a) (hy : y = Int64.ofInt b) : x * y = Int64.ofInt (a * b) := by rw [hx, hy, Int64.ofInt_mul]
theorem zi_lt {x y : Int32} {a b : Int} (hx : x = Int32.ofInt a) (hy : y = Int32.ofInt b) (ra : zR a) (rb : zR b) : x < y ↔ a < b := by rw [Int32.lt_iff_toInt_lt, zi_x hx ra, zi_x hy rb]
theorem zi_le {x y : Int32} {a b : Int} (hx : x = Int32.ofInt a) (hy : y = Int32.ofInt b) (ra : zR a) (rb : zR b) : x ≤ y ↔ a ≤ b := by rw [Int32.le_iff_toInt_le, zi_x hx ra, zi_x hy rb]
theorem zi_eq {x y : Int32} {a b : Int} (hx : x = Int32.ofInt a) (hy : y = Int32.ofInt b) (ra : zR a) (rb : zR b) : x = y ↔ a = b := by
  rw [← Int32.toInt_inj, zi_x hx ra, zi_x hy rb]
theorem zi_i2l {x : Int32} {a : Int} (hx : x = Int32.ofInt a) (ra : zR a) : x.toInt64 = Int64.ofInt a := by
  apply Int64.toInt_inj.mp
  rw [Int32.toInt_toInt64, zi_x hx ra, zl_to]
  unfold zR at ra; unfold zR8; omega
theorem zl_l2i {x : Int64} {a : Int} (hx : x = Int64.ofInt a) : x.toInt32 = Int32.ofInt a := by
  rw [hx]
  apply Int32.toInt_inj.mp
  rw [Int64.toInt_toInt32, Int64.toInt_ofInt, Int32.toInt_ofInt]
  exact Int.bmod_bmod_of_dvd (by decide)
theorem zi_nat {x : Int32} {a : Int} (hx : x = Int32.ofInt a) (ra : zR a) : x.toNatClampNeg = a.toNat := by
  rw [← Int32.toNat_toInt, zi_x hx ra]
theorem zi_in {x : Int32} {a : Int} {n : Nat} (hx : x = Int32.ofInt a) (h0 : 0 ≤ a) (h1 : a < n) (hn : n ≤ 2147483647) : vp_in x n := by
  have ra : zR a := by unfold zR; omega
  unfold vp_in
  rw [zi_nat hx ra, Int32.lt_iff_toInt_lt, zi_x hx ra]
  intro q
  rcases q with q | q
  · have : (0 : Int32).toInt = 0 := by decide
    omega
  · omega
theorem zi_div {x y : Int32} {a b : Int} (hx : x = Int32.ofInt a) (hy : y = Int32.ofInt b) (ra : zR a) (rb : zR b) : x / y = Int32.ofInt (a.tdiv b) := by
  apply Int32.toInt_inj.mp
  rw [Int32.toInt_div, zi_x hx ra, zi_x hy rb, Int32.toInt_ofInt]
theorem zi_nz {y : Int32} {b : Int} (hy : y = Int32.ofInt b) (rb : zR b) (h : b ≠ 0) : ¬ y = 0 := by
  intro q
  apply h
  have := zi_x hy rb
  rw [q] at this
  rw [← this]; decide
theorem zi_rem {x y : Int32} {a b : Int} (hx : x = Int32.ofInt a) (hy : y = Int32.ofInt b) (ra : zR a) (rb : zR b) : x - x / y * y = Int32.ofInt (a.tmod b) := by
  rw [zi_div hx hy ra rb, zi_sub hx (zi_mul rfl hy)]
  rw [Int.tmod_def, Int.mul_comm]
def zb_and (a b : Int) : Int := ((Int32.ofInt a) &&& (Int32.ofInt b)).toInt
def zb_or (a b : Int) : Int := ((Int32.ofInt a) ||| (Int32.ofInt b)).toInt
def zb_xor (a b : Int) : Int := ((Int32.ofInt a) ^^^ (Int32.ofInt b)).toInt
def zb_shl (a b : Int) : Int := ((Int32.ofInt a) <<< ((Int32.ofInt b) &&& 31)).toInt
def zb_shr (a b : Int) : Int := ((Int32.ofInt a) >>> ((Int32.ofInt b) &&& 31)).toInt
def zb_ushr (a b : Int) : Int := (((Int32.ofInt a).toUInt32 >>> ((Int32.ofInt b).toUInt32 &&& Int32.toUInt32 31)).toInt32).toInt
theorem zi_rt (x : Int32) : x = Int32.ofInt x.toInt := (Int32.ofInt_toInt x).symm
theorem zi_rR (x : Int32) : zR x.toInt := ⟨Int32.le_toInt x, by have := Int32.toInt_lt x; omega⟩
theorem zi_and {x y : Int32} {a b : Int} (hx : x = Int32.ofInt a) (hy : y = Int32.ofInt b) : x &&& y = Int32.ofInt (zb_and a b) := by rw [hx, hy]; exact zi_rt _
theorem zi_or {x y : Int32} {a b : Int} (hx : x = Int32.ofInt a) (hy : y = Int32.ofInt b) : x ||| y = Int32.ofInt (zb_or a b) := by rw [hx, hy]; exact zi_rt _
theorem zi_xor {x y : Int32} {a b : Int} (hx : x = Int32.ofInt a) (hy : y = Int32.ofInt b) : x ^^^ y = Int32.ofInt (zb_xor a b) := by rw [hx, hy]; exact zi_rt _
theorem zi_shl {x y : Int32} {a b : Int} (hx : x = Int32.ofInt a) (hy : y = Int32.ofInt b) : x <<< (y &&& 31) = Int32.ofInt (zb_shl a b) := by rw [hx, hy]; exact zi_rt _
theorem zi_shr {x y : Int32} {a b : Int} (hx : x = Int32.ofInt a) (hy : y = Int32.ofInt b) : x >>> (y &&& 31) = Int32.ofInt (zb_shr a b) := by rw [hx, hy]; exact zi_rt _
theorem zi_ushr {x y : Int32} {a b : Int} (hx : x = Int32.ofInt a) (hy : y = Int32.ofInt b) : (x.toUInt32 >>> (y.toUInt32 &&& Int32.toUInt32 31)).toInt32 = Int32.ofInt (zb_ushr a b) := by rw [hx, hy]; exact zi_rt _
theorem zb_andR (a b : Int) : zR (zb_and a b) := zi_rR _
theorem zb_orR (a b : Int) : zR (zb_or a b) := zi_rR _
theorem zb_xorR (a b : Int) : zR (zb_xor a b) := zi_rR _
theorem zb_shlR (a b : Int) : zR (zb_shl a b) := zi_rR _
theorem zb_shrR (a b : Int) : zR (zb_shr a b) := zi_rR _
theorem zb_ushrR (a b : Int) : zR (zb_ushr a b) := zi_rR _
/-- and with a number that isn't negative -/
theorem zb_and_le {a b : Int} (h0 : 0 ≤ b) (h1 : b ≤ 2147483647) : 0 ≤ zb_and a b ∧ zb_and a b ≤ b := by
  unfold zb_and
  have hn : (Int32.ofInt b).toBitVec.toNat = b.toNat := by
    show (BitVec.ofInt 32 b).toNat = b.toNat
    rw [BitVec.toNat_ofInt, Int.emod_eq_of_lt h0 (by omega)]
  have hl : ((Int32.ofInt a) &&& (Int32.ofInt b)).toBitVec.toNat ≤ b.toNat := by
    rw [Int32.toBitVec_and, BitVec.toNat_and, hn]
    exact Nat.and_le_right
  have e : ((Int32.ofInt a) &&& (Int32.ofInt b)).toInt = ((((Int32.ofInt a) &&& (Int32.ofInt b)).toBitVec.toNat : Nat) : Int) := by
    rw [Int32.toInt, BitVec.toInt_eq_toNat_of_lt]
    omega
  rw [e]
  omega
/-- a store -/
theorem zk_up (c : Nat × Nat) (m : zM) (p i : Nat) (v : Int) (e : z_E) (he : e = zm_sh p (fun j => if j = i then v else m p j)) : z_hup (zk c m) p e = zk c (zm_up m p i v) := by
  subst he
  unfold z_hup zk
  dsimp only
  congr 2
  funext k
  unfold va_up
  by_cases h : k = p
  · subst h
    rw [if_pos rfl]
    congr 1
    funext j
    unfold zm_up
    simp
  · rw [if_neg h]
    show zm_sh k (m k) = zm_sh k (zm_up m p i v k)
    congr 1
    funext j
    unfold zm_up
    rw [if_neg (fun q => h q.1)]
def zA (t p n : Nat) : Prop := ∀ r, zm_sh p r = .inl (t, n, .inl (fun j => Int32.ofInt (r j)))
theorem zk_ias (c : Nat × Nat) (m : zM) {p n : Nat} (hp : zA 0 p n) {x y : Int32} {a v : Int} (hx : x = Int32.ofInt a) (ra : zR a) (hy : y = Int32.ofInt v) :
    z_hup (zk c m) p (.inl (0, n, .inl (upd (fun j => Int32.ofInt (m p j)) x.toNatClampNeg y))) = zk c (zm_up m p a.toNat v) := by
  refine zk_up c m p a.toNat v _ ?_
  rw [hp, zi_nat hx ra, hy]
  congr 4
  funext j
  unfold upd
  split <;> rfl
theorem zk_ra (c : Nat × Nat) (m : zM) {t p n : Nat} (hp : zA t p n) (hN : p < c.1) : (zk c m).2.2 p = .inl (t, n, .inl (fun j => Int32.ofInt (m p j))) ∧ p < (zk c m).1 := ⟨hp _, hN⟩
theorem zk_rd {f : Nat → Int} {x : Int32} {a : Int} (hx : x = Int32.ofInt a) (ra : zR a) : Int32.ofInt (f x.toNatClampNeg) = Int32.ofInt (f a.toNat) := by rw [zi_nat hx ra]
/-- from a state on: it ends, with Q of what comes back -/
def zW (zn : Bool) (d y : Nat) (c : Nat × Nat) (st : z_S) (Q : Option Value → z_H → Prop) : Prop := ∃ st2 v h', z_reach (z_sem zn d) (none, zn) c y st st2 ∧ z_fin y st2 v h' ∧ Q v h'
theorem zW.step {zn : Bool} {d y : Nat} {c : Nat × Nat} {st st1 st2 : z_S} {Q : Option Value → z_H → Prop} (h : z_reach (z_sem zn d) (none, zn) c y st st1) (e : st1 = st2) (k : zW zn d y c st2 Q) : zW zn d y c st Q := by
  subst e
  obtain ⟨s2, v, h', a1, a2, a3⟩ := k
  exact ⟨s2, v, h', h.trans a1, a2, a3⟩
theorem zW.fin {zn : Bool} {d y : Nat} {c : Nat × Nat} {st : z_S} {Q : Option Value → z_H → Prop} {v : Option Value} {h' : z_H} (h : z_fin y st v h') (k : Q v h') : zW zn d y c st Q := ⟨st, v, h', z_reach.rf, h, k⟩
theorem z_steq {pc : Nat} {l l' : List (Option Value)} {s s' : List Value} {h h' : z_H} (hl : l = l') (hs : s = s') (hh : h = h') : ((pc, l, s, h) : z_S) = (pc, l', s', h') := by rw [hl, hs, hh]
theorem z_c1 {α : Type} {a b : α} {l l' : List α} (h : a = b) (t : l = l') : a :: l = b :: l' := by rw [h, t]
theorem z_si {x y : Int32} (h : x = y) : some (Value.int x) = some (Value.int y) := by rw [h]
theorem z_vi {x y : Int32} (h : x = y) : Value.int x = Value.int y := by rw [h]
theorem z_sl {x y : Int64} (h : x = y) : some (Value.long x) = some (Value.long y) := by rw [h]
theorem z_vl {x y : Int64} (h : x = y) : Value.long x = Value.long y := by rw [h]
/-- a call that gives an int; none -/
def zCi (zn : Bool) (d y : Nat) (args : List Value) (c : Nat × Nat) (m : zM) (Q : Int → zM → Prop) : Prop := ∃ r m', z_sem zn d y args (zk c m) (some (.int (Int32.ofInt r))) (zk c m') ∧ Q r m'
def zCv (zn : Bool) (d y : Nat) (args : List Value) (c : Nat × Nat) (m : zM) (Q : zM → Prop) : Prop := ∃ m', z_sem zn d y args (zk c m) none (zk c m') ∧ Q m'
theorem zCi.of {zn : Bool} {d y : Nat} {args : List Value} {c : Nat × Nat} {m : zM} {Q : Int → zM → Prop} (hu : z_useok y = true) (hl : c.1 < z_RO) (ha : (z_as args).length ≤ z_ml y)
    (h : zW zn d y c (0, z_args (z_ml y) args, [], zk c m) (fun v h' => ∃ r m', v = some (.int (Int32.ofInt r)) ∧ h' = zk c m' ∧ Q r m')) : zCi zn (d + 1) y args c m Q := by
  obtain ⟨st2, v, h', a1, a2, r, m', rfl, rfl, a3⟩ := h
  exact ⟨r, m', z_sem_of hu hl ha a1 a2, a3⟩
theorem zCv.of {zn : Bool} {d y : Nat} {args : List Value} {c : Nat × Nat} {m : zM} {Q : zM → Prop} (hu : z_useok y = true) (hl : c.1 < z_RO) (ha : (z_as args).length ≤ z_ml y)
    (h : zW zn d y c (0, z_args (z_ml y) args, [], zk c m) (fun v h' => ∃ m', v = none ∧ h' = zk c m' ∧ Q m')) : zCv zn (d + 1) y args c m Q := by
  obtain ⟨st2, v, h', a1, a2, m', rfl, rfl, a3⟩ := h
  exact ⟨m', z_sem_of hu hl ha a1 a2, a3⟩
theorem zb_and_le2 {a b : Int} (h0 : 0 ≤ a) (h1 : a ≤ 2147483647) : 0 ≤ zb_and a b ∧ zb_and a b ≤ a := by
  have := zb_and_le (a := b) h0 h1
  unfold zb_and at this ⊢
  rw [Int32.and_comm]
  exact this
def zb_lushr (a b : Int) : Int := (((Int64.ofInt a).toUInt64 >>> ((Int32.ofInt b).toInt64.toUInt64 &&& Int64.toUInt64 63)).toInt64).toInt
theorem zl_ushr {x : Int64} {y : Int32} {a b : Int} (hx : x = Int64.ofInt a) (hy : y = Int32.ofInt b) : (x.toUInt64 >>> (y.toInt64.toUInt64 &&& Int64.toUInt64 63)).toInt64 = Int64.ofInt (zb_lushr a b) := by
  rw [hx, hy]
  exact (Int64.ofInt_toInt _).symm
theorem ztd (a b : Int) (hb : 0 < b) : (0 ≤ a → 0 ≤ Int.tdiv a b ∧ Int.tdiv a b ≤ a) ∧ (a ≤ 0 → a ≤ Int.tdiv a b ∧ Int.tdiv a b ≤ 0) := by
  refine ⟨fun h => ?_, fun h => ?_⟩
  · rw [Int.tdiv_eq_ediv_of_nonneg h]
    exact ⟨Int.ediv_nonneg h (by omega), Int.ediv_le_self _ h⟩
  · obtain ⟨n, rfl⟩ : ∃ n : Int, a = -n := ⟨-a, by omega⟩
    have hn : 0 ≤ n := by omega
    rw [Int.neg_tdiv, Int.tdiv_eq_ediv_of_nonneg hn]
    have h1 := Int.ediv_nonneg hn (show 0 ≤ b by omega)
    have h2 := Int.ediv_le_self b hn
    omega
theorem ztm (a b : Int) (hb : 0 < b) : -b < Int.tmod a b ∧ Int.tmod a b < b ∧ (0 ≤ a → 0 ≤ Int.tmod a b ∧ Int.tmod a b ≤ a) := by
  refine ⟨?_, Int.tmod_lt_of_pos a hb, fun h => ⟨Int.tmod_nonneg b h, ?_⟩⟩
  · have := Int.lt_tmod_of_pos a hb
    omega
  · rw [Int.tmod_def]
    have h1 := ((ztd a b hb).1 h).1
    have h2 := Int.mul_nonneg (show 0 ≤ b by omega) h1
    omega
theorem ztd9 (a b : Int) : (0 < b → (0 ≤ a → 0 ≤ Int.tdiv a b ∧ Int.tdiv a b ≤ a) ∧ (a ≤ 0 → a ≤ Int.tdiv a b ∧ Int.tdiv a b ≤ 0)) := fun hb => ztd a b hb
theorem ztm9 (a b : Int) : 0 < b → -b < Int.tmod a b ∧ Int.tmod a b < b ∧ (0 ≤ a → 0 ≤ Int.tmod a b ∧ Int.tmod a b ≤ a) := fun hb => ztm a b hb
theorem zm_rf_0 {x : Int} (h : x = 0) : zm_rf x = .null := by unfold zm_rf; rw [if_pos h]
theorem zm_rf_1 {x : Int} {T : Nat} (h : x = (T : Int)) (h0 : T ≠ 0) : zm_rf x = .ref T := by unfold zm_rf; rw [if_neg (by omega), h]; rfl
theorem z_ofN {a : Int} (h : 0 ≤ a) : Int32.ofNat a.toNat = Int32.ofInt a := by
  obtain ⟨n, rfl⟩ := Int.eq_ofNat_of_zero_le h
  rfl
theorem zl_div {x y : Int64} {a b : Int} (hx : x = Int64.ofInt a) (hy : y = Int64.ofInt b) (ra : zR8 a) (rb : zR8 b) : x / y = Int64.ofInt (a.tdiv b) := by
  apply Int64.toInt_inj.mp
  rw [Int64.toInt_div, zl_x hx ra, zl_x hy rb, Int64.toInt_ofInt]
theorem zl_nz {y : Int64} {b : Int} (hy : y = Int64.ofInt b) (rb : zR8 b) (h : b ≠ 0) : ¬ y = 0 := by
  intro q
  apply h
  have := zl_x hy rb
  rw [q] at this
  rw [← this]; decide
theorem zl_rem {x y : Int64} {a b : Int} (hx : x = Int64.ofInt a) (hy : y = Int64.ofInt b) (ra : zR8 a) (rb : zR8 b) : x - x / y * y = Int64.ofInt (a.tmod b) := by
  rw [zl_div hx hy ra rb, zl_sub hx (zl_mul rfl hy)]
  congr 1
  rw [Int.tmod_def, Int.mul_comm]
def zcmp (a b : Int) : Int := if a < b then -1 else if a = b then 0 else 1
theorem zcmpR (a b : Int) : zR (zcmp a b) := by
  unfold zcmp zR
  split
  · decide
  · split <;> decide
theorem zcmp_lt {a b : Int} : zcmp a b < 0 ↔ a < b := by
  unfold zcmp
  split
  · simp; assumption
  · split <;> simp <;> omega
theorem zcmp_le {a b : Int} : zcmp a b ≤ 0 ↔ a ≤ b := by
  unfold zcmp
  split
  · simp; omega
  · split <;> simp <;> omega
theorem zcmp_gt {a b : Int} : 0 < zcmp a b ↔ b < a := by
  unfold zcmp
  split
  · simp; omega
  · split <;> simp <;> omega
theorem zcmp_ge {a b : Int} : 0 ≤ zcmp a b ↔ b ≤ a := by
  unfold zcmp
  split
  · simp; omega
  · split <;> simp <;> omega
theorem zcmp_eq {a b : Int} : zcmp a b = 0 ↔ a = b := by
  unfold zcmp
  split
  · simp; omega
  · split <;> simp <;> omega
theorem zcmp_ne {a b : Int} : zcmp a b = 0 ↔ a = b := zcmp_eq
theorem zl_cmp {x y : Int64} {a b : Int} (hx : x = Int64.ofInt a) (hy : y = Int64.ofInt b) (ra : zR8 a) (rb : zR8 b) : lg_cmp x y = Int32.ofInt (zcmp a b) := by
  have h1 := zl_x hx ra
  have h2 := zl_x hy rb
  unfold zcmp
  split
  · exact zc_lt h1 h2 (by assumption)
  · split
    · exact zc_eq h1 h2 (by assumption)
    · exact zc_gt h1 h2 (by omega)
theorem z_narZ {x : Int32} {v : Int} (hx : x = Int32.ofInt v) (h : 0 ≤ v ∧ v ≤ 1) : narrow .boolean (.int x) = .int x := by
  rcases (show v = 0 ∨ v = 1 by omega) with q | q
  · subst q; subst hx; rfl
  · subst q; subst hx; rfl
theorem zk_rdL {f : Nat → Int} {x : Int32} {a : Int} (hx : x = Int32.ofInt a) (ra : zR a) : Int64.ofInt (f x.toNatClampNeg) = Int64.ofInt (f a.toNat) := by rw [zi_nat hx ra]
def zAL (p n : Nat) : Prop := ∀ r, zm_sh p r = .inl (1, n, .inr (.inl (fun j => Int64.ofInt (r j))))
theorem zk_raL (c : Nat × Nat) (m : zM) {p n : Nat} (hp : zAL p n) (hN : p < c.1) : (zk c m).2.2 p = .inl (1, n, .inr (.inl (fun j => Int64.ofInt (m p j)))) ∧ p < (zk c m).1 := ⟨hp _, hN⟩
def zTp (k : Nat) : Prop := k = 107 ∨ k = 111 ∨ k = 115 ∨ k = 119
theorem zk_tas (c : Nat × Nat) (m : zM) {k : Nat} (h : zTp k) : (zk c m).2.2 k = .inr (9, [.ref (k + 3), .int (Int32.ofInt (m k 1)), .ref (k + 1), .ref (k + 2)]) := by
  rcases h with h | h | h | h <;> (subst h; rfl)
theorem zAt1 {k : Nat} (h : zTp k) : zA 0 (k + 1) 6 := by
  rcases h with h | h | h | h <;> (subst h; exact fun _ => rfl)
theorem zAt2 {k : Nat} (h : zTp k) : zAL (k + 2) 32 := by
  rcases h with h | h | h | h <;> (subst h; exact fun _ => rfl)
theorem zcd_rd {f : Nat → Int} {x : Int32} {a : Int} (hx : x = Int32.ofInt a) (ra : zR a) (h : a ≤ 1000) : Int32.ofInt (zcd f x.toNatClampNeg) = Int32.ofInt (f a.toNat) := by
  rw [zi_nat hx ra]
  unfold zcd
  rw [if_neg (by omega)]
theorem zk_code (c : Nat × Nat) (m : zM) {k : Nat} (h : zTp k) (hl : k + 4 ≤ c.1) : (zk c m).2.2 (k + 3) = .inl (0, (m (k + 3) 1001).toNat, .inl (fun j => Int32.ofInt (zcd (m (k + 3)) j))) ∧ k + 3 < (zk c m).1 := by
  refine ⟨?_, hl⟩
  rcases h with h | h | h | h <;> (subst h; rfl)
theorem zk_las (c : Nat × Nat) (m : zM) {p n : Nat} (hp : zAL p n) {x : Int32} {y : Int64} {a v : Int} (hx : x = Int32.ofInt a) (ra : zR a) (hy : y = Int64.ofInt v) :
    z_hup (zk c m) p (.inl (1, n, .inr (.inl (vp_updL (fun j => Int64.ofInt (m p j)) x.toNatClampNeg y)))) = zk c (zm_up m p a.toNat v) := by
  refine zk_up c m p a.toNat v _ ?_
  rw [hp, zi_nat hx ra, hy]
  congr 5
  funext j
  unfold vp_updL
  split <;> rfl
theorem zk_bas3 (c : Nat × Nat) (m : zM) {p n : Nat} (hp : zA 3 p n) {x y : Int32} {a v : Int} (hx : x = Int32.ofInt a) (ra : zR a) (hy : y = Int32.ofInt v) (h : 0 ≤ v ∧ v ≤ 1) :
    z_hup (zk c m) p (.inl (3, n, .inl (upd (fun j => Int32.ofInt (m p j)) x.toNatClampNeg (vp_nar .boolean y)))) = zk c (zm_up m p a.toNat v) := by
  refine zk_up c m p a.toNat v _ ?_
  have e : vp_nar .boolean y = Int32.ofInt v := by
    unfold vp_nar
    rw [z_narZ hy h]
    exact hy
  rw [hp, zi_nat hx ra, e]
  congr 4
  funext j
  unfold upd
  split <;> rfl
theorem zts {x : Int32} {a lo hi : Int} {j : Nat} (hx : x = Int32.ofInt a) (r : zR a) (h : a = lo + (j : Int) ∧ ¬ hi < a) : x.toInt = lo + (j : Int) ∧ ¬ hi < x.toInt := by rw [zi_x hx r]; exact h
theorem ztdf {x : Int32} {a lo hi : Int} (hx : x = Int32.ofInt a) (r : zR a) (h : a < lo ∨ hi < a) : x.toInt < lo ∨ hi < x.toInt := by rw [zi_x hx r]; exact h
theorem zls {x : Int32} {a d off : Int} {l : List (Int × Int)} (hx : x = Int32.ofInt a) (r : zR a) (h : Op.lookupswitch.offset l d a = off) : Op.lookupswitch.offset l d x.toInt = off := by rw [zi_x hx r]; exact h
theorem zi_max {x y : Int32} {a b : Int} (hx : x = Int32.ofInt a) (hy : y = Int32.ofInt b) (ra : zR a) (rb : zR b) : (if x < y then y else x) = Int32.ofInt (max a b) := by
  by_cases h : a < b
  · rw [if_pos ((zi_lt hx hy ra rb).mpr h), hy, Int.max_eq_right (by omega)]
  · rw [if_neg (fun q => h ((zi_lt hx hy ra rb).mp q)), hx, Int.max_eq_left (by omega)]
theorem zi_min {x y : Int32} {a b : Int} (hx : x = Int32.ofInt a) (hy : y = Int32.ofInt b) (ra : zR a) (rb : zR b) : (if y < x then y else x) = Int32.ofInt (min a b) := by
  by_cases h : b < a
  · rw [if_pos ((zi_lt hy hx rb ra).mpr h), hy, Int.min_eq_right (by omega)]
  · rw [if_neg (fun q => h ((zi_lt hy hx rb ra).mp q)), hx, Int.min_eq_left (by omega)]
theorem zl_lt {x y : Int64} {a b : Int} (hx : x = Int64.ofInt a) (hy : y = Int64.ofInt b) (ra : zR8 a) (rb : zR8 b) : x < y ↔ a < b := by rw [Int64.lt_iff_toInt_lt, zl_x hx ra, zl_x hy rb]
theorem zl_max {x y : Int64} {a b : Int} (hx : x = Int64.ofInt a) (hy : y = Int64.ofInt b) (ra : zR8 a) (rb : zR8 b) : (if y < x then x else y) = Int64.ofInt (max a b) := by
  by_cases h : b < a
  · rw [if_pos ((zl_lt hy hx rb ra).mpr h), hx, Int.max_eq_left (by omega)]
  · rw [if_neg (fun q => h ((zl_lt hy hx rb ra).mp q)), hy, Int.max_eq_right (by omega)]
theorem zl_min {x y : Int64} {a b : Int} (hx : x = Int64.ofInt a) (hy : y = Int64.ofInt b) (ra : zR8 a) (rb : zR8 b) : (if y < x then y else x) = Int64.ofInt (min a b) := by
  by_cases h : b < a
  · rw [if_pos ((zl_lt hy hx rb ra).mpr h), hy, Int.min_eq_right (by omega)]
  · rw [if_neg (fun q => h ((zl_lt hy hx rb ra).mp q)), hx, Int.min_eq_left (by omega)]
theorem zfin_l {y pc len : Nat} {f : z_I} {lv : List (Option Value)} {r : Int64} {h : z_H} (hf : z_fetch y pc = some (.lreturn, len, f)) (hr : z_mr y = some .long) : z_fin y (pc, lv, [.long r], h) (some (.long r)) h := by
  refine ⟨rfl, ?_⟩
  dsimp only
  rw [hf]
  exact ⟨rfl, hr⟩
/-- a call that leaves the memory as it was -/
def zPi (zn : Bool) (d y : Nat) (args : List Value) (c : Nat × Nat) (m : zM) (Q : Int → Prop) : Prop := ∃ r, z_sem zn d y args (zk c m) (some (.int (Int32.ofInt r))) (zk c m) ∧ Q r
def zPl (zn : Bool) (d y : Nat) (args : List Value) (c : Nat × Nat) (m : zM) (Q : Int → Prop) : Prop := ∃ r, z_sem zn d y args (zk c m) (some (.long (Int64.ofInt r))) (zk c m) ∧ Q r
theorem zPi.of {zn : Bool} {d y : Nat} {args : List Value} {c : Nat × Nat} {m : zM} {Q : Int → Prop} (hu : z_useok y = true) (hl : c.1 < z_RO) (ha : (z_as args).length ≤ z_ml y)
    (h : zW zn d y c (0, z_args (z_ml y) args, [], zk c m) (fun v h' => ∃ r, v = some (.int (Int32.ofInt r)) ∧ h' = zk c m ∧ Q r)) : zPi zn (d + 1) y args c m Q := by
  obtain ⟨st2, v, h', a1, a2, r, rfl, rfl, a3⟩ := h
  exact ⟨r, z_sem_of hu hl ha a1 a2, a3⟩
theorem zPl.of {zn : Bool} {d y : Nat} {args : List Value} {c : Nat × Nat} {m : zM} {Q : Int → Prop} (hu : z_useok y = true) (hl : c.1 < z_RO) (ha : (z_as args).length ≤ z_ml y)
    (h : zW zn d y c (0, z_args (z_ml y) args, [], zk c m) (fun v h' => ∃ r, v = some (.long (Int64.ofInt r)) ∧ h' = zk c m ∧ Q r)) : zPl zn (d + 1) y args c m Q := by
  obtain ⟨st2, v, h', a1, a2, r, rfl, rfl, a3⟩ := h
  exact ⟨r, z_sem_of hu hl ha a1 a2, a3⟩
theorem zb_lushr33 (a : Int) : 0 ≤ zb_lushr a 33 ∧ zb_lushr a 33 ≤ 2147483647 := by
  unfold zb_lushr
  have e : (Int32.ofInt 33).toInt64.toUInt64 &&& Int64.toUInt64 63 = 33 := by decide
  rw [e]
  generalize (Int64.ofInt a).toUInt64 = u
  have h1 : (u >>> 33).toNat ≤ 2147483647 := by
    have hu : u.toNat < 2 ^ 64 := u.toNat_lt
    rw [UInt64.toNat_shiftRight]
    have : (33 : UInt64).toNat % 64 = 33 := by decide
    rw [this, Nat.shiftRight_eq_div_pow]
    omega
  have h2 : ((u >>> 33).toInt64).toInt = ((u >>> 33).toNat : Int) := by
    show ((u >>> 33).toInt64).toBitVec.toInt = _
    rw [BitVec.toInt_eq_toNat_of_lt]
    · rfl
    · show 2 * (u >>> 33).toNat < 2 ^ 64
      omega
  rw [h2]
  omega
theorem zi_i2b {x : Int32} {a : Int} (hx : x = Int32.ofInt a) : x.toInt8.toInt32 = Int32.ofInt (Int.bmod a 256) := by
  apply Int32.toInt_inj.mp
  rw [Int8.toInt_toInt32, Int32.toInt_toInt8, hx, Int32.toInt_ofInt, Int32.toInt_ofInt]
  have h1 : Int.bmod (Int.bmod a (2 ^ 32)) (2 ^ 8) = Int.bmod a (2 ^ 8) := Int.bmod_bmod_of_dvd (by decide)
  have h2 : Int.bmod (Int.bmod a 256) (2 ^ 32) = Int.bmod a 256 := by
    have l1 := @Int.le_bmod a 256 (by decide)
    have l2 := @Int.bmod_lt a 256 (by decide)
    apply Int.bmod_eq_of_le <;> omega
  exact h1.trans h2.symm
theorem zbm (a : Int) : -128 ≤ Int.bmod a 256 ∧ Int.bmod a 256 ≤ 127 := by
  have l1 := @Int.le_bmod a 256 (by decide)
  have l2 := @Int.bmod_lt a 256 (by decide)
  omega
def zb_andL (a b : Int) : Int := ((Int64.ofInt a) &&& (Int64.ofInt b)).toInt
def zb_orL (a b : Int) : Int := ((Int64.ofInt a) ||| (Int64.ofInt b)).toInt
theorem zl_and {x y : Int64} {a b : Int} (hx : x = Int64.ofInt a) (hy : y = Int64.ofInt b) : x &&& y = Int64.ofInt (zb_andL a b) := by rw [hx, hy]; exact (Int64.ofInt_toInt _).symm
theorem zl_or {x y : Int64} {a b : Int} (hx : x = Int64.ofInt a) (hy : y = Int64.ofInt b) : x ||| y = Int64.ofInt (zb_orL a b) := by rw [hx, hy]; exact (Int64.ofInt_toInt _).symm
theorem zl_rR (x : Int64) : -9223372036854775808 ≤ x.toInt ∧ x.toInt ≤ 9223372036854775807 := ⟨Int64.le_toInt x, by have := Int64.toInt_lt x; omega⟩
theorem zb_andLR (a b : Int) : -9223372036854775808 ≤ zb_andL a b ∧ zb_andL a b ≤ 9223372036854775807 := zl_rR _
theorem zb_orLR (a b : Int) : -9223372036854775808 ≤ zb_orL a b ∧ zb_orL a b ≤ 9223372036854775807 := zl_rR _
theorem zb_shr_f (a b : Int) : 0 ≤ a ∧ a ≤ 2147483647 → 0 ≤ zb_shr a b ∧ zb_shr a b ≤ a := by
  intro h
  unfold zb_shr
  have hx : (Int32.ofInt a).toInt = a := zi_to (by unfold zR; omega)
  generalize (Int32.ofInt b &&& 31) = y
  generalize Int32.ofInt a = x at hx ⊢
  have e : (x >>> y).toInt = a >>> (y.toBitVec.smod 32).toNat := by
    show (x >>> y).toBitVec.toInt = _
    rw [Int32.toBitVec_shiftRight]; unfold BitVec.sshiftRight'; rw [BitVec.toInt_sshiftRight]
    exact congrArg (fun z : Int => z >>> _) hx
  rw [e, Int.shiftRight_eq_div_pow]
  have hp : (0 : Int) < ((2 ^ (y.toBitVec.smod 32).toNat : Nat) : Int) := by
    have : 0 < 2 ^ (y.toBitVec.smod 32).toNat := Nat.two_pow_pos _
    omega
  exact ⟨Int.ediv_nonneg h.1 (by omega), Int.ediv_le_self _ h.1⟩
theorem zb_or_f (a b : Int) : (0 ≤ a ∧ a ≤ 2147483647) ∧ (0 ≤ b ∧ b ≤ 2147483647) → 0 ≤ zb_or a b := by
  intro h
  unfold zb_or
  have ha : (Int32.ofInt a).toBitVec.toNat = a.toNat := by
    show (BitVec.ofInt 32 a).toNat = a.toNat
    rw [BitVec.toNat_ofInt, Int.emod_eq_of_lt h.1.1 (by omega)]
  have hb : (Int32.ofInt b).toBitVec.toNat = b.toNat := by
    show (BitVec.ofInt 32 b).toNat = b.toNat
    rw [BitVec.toNat_ofInt, Int.emod_eq_of_lt h.2.1 (by omega)]
  have hl : ((Int32.ofInt a) ||| (Int32.ofInt b)).toBitVec.toNat < 2 ^ 31 := by
    rw [Int32.toBitVec_or, BitVec.toNat_or, ha, hb]
    exact Nat.or_lt_two_pow (by omega) (by omega)
  have e : ((Int32.ofInt a) ||| (Int32.ofInt b)).toInt = ((((Int32.ofInt a) ||| (Int32.ofInt b)).toBitVec.toNat : Nat) : Int) := by
    rw [Int32.toInt, BitVec.toInt_eq_toNat_of_lt]
    omega
  rw [e]
  omega
theorem zb_shl1n : ∀ k : Fin 31, 1 ≤ zb_shl 1 (k.val : Int) ∧ zb_shl 1 (k.val : Int) ≤ 1073741824 := by decide +kernel
theorem zb_shl1 (b : Int) : 0 ≤ b ∧ b ≤ 30 → 1 ≤ zb_shl 1 b ∧ zb_shl 1 b ≤ 1073741824 := by
  intro h
  have h1 := zb_shl1n ⟨b.toNat, by omega⟩
  have e : ((b.toNat : Nat) : Int) = b := by omega
  rw [show (((⟨b.toNat, by omega⟩ : Fin 31).val : Nat) : Int) = b from e] at h1
  exact h1
theorem ztdl (a b : Int) : 0 ≤ a → Int.tdiv a b = a / b := fun h => Int.tdiv_eq_ediv_of_nonneg h
theorem ztml (a b : Int) : 0 ≤ a → Int.tmod a b = a % b := fun h => Int.tmod_eq_emod_of_nonneg h

/-- the static arrays and the bytes of strings -/
def zst9 (k i : Nat) : Int := ((z_sta.getD k []).getD i 0).toInt
def zbt9 (k i : Nat) : Int := ((z_byt.getD k []).getD i 0).toInt
theorem zst9_rd (k : Nat) {x : Int32} {a : Int} (hx : x = Int32.ofInt a) (ra : zR a) : (z_sta.getD k []).getD x.toNatClampNeg 0 = Int32.ofInt (zst9 k a.toNat) := by
  rw [zi_nat hx ra, zst9, Int32.ofInt_toInt]
theorem zbt9_rd (k : Nat) {x : Int32} {a : Int} (hx : x = Int32.ofInt a) (ra : zR a) : (z_byt.getD k []).getD x.toNatClampNeg 0 = Int32.ofInt (zbt9 k a.toNat) := by
  rw [zi_nat hx ra, zbt9, Int32.ofInt_toInt]
theorem zst9_all : ∀ k : Fin 8, ∀ i : Fin 7, 0 ≤ zst9 k i ∧ zst9 k i ≤ 99 ∧ (k.val = 5 → zst9 k i ≤ 60) := by decide +kernel
theorem zst9_b (k i : Nat) (hk : k < 8) (hi : i < 7) : 0 ≤ zst9 k i ∧ zst9 k i ≤ 99 ∧ (k = 5 → zst9 k i ≤ 60) := zst9_all ⟨k, hk⟩ ⟨i, hi⟩
theorem zbt9_b (k i : Nat) : -2147483648 ≤ zbt9 k i ∧ zbt9 k i ≤ 2147483647 := by
  have h1 := Int32.le_toInt ((z_byt.getD k []).getD i 0)
  have h2 := Int32.toInt_le ((z_byt.getD k []).getD i 0)
  unfold zbt9
  have e1 : Int32.minValue.toInt = -2147483648 := by decide
  have e2 : Int32.maxValue.toInt = 2147483647 := by decide
  omega
theorem zi_i2c {x : Int32} {a : Int} (hx : x = Int32.ofInt a) : (x.toUInt32 % 65536).toInt32 = Int32.ofInt (a % 65536) := by
  subst hx
  apply Int32.toBitVec_inj.mp
  apply BitVec.eq_of_toNat_eq
  show (BitVec.ofInt 32 a % 65536#32).toNat = (BitVec.ofInt 32 (a % 65536)).toNat
  rw [BitVec.toNat_umod, BitVec.toNat_ofInt, BitVec.toNat_ofInt]
  show (a % 4294967296).toNat % 65536 = (a % 65536 % 4294967296).toNat
  omega
theorem zb_shl14n : ∀ k : Fin 32, 0 ≤ zb_shl (k.val : Int) 14 := by decide +kernel
theorem zb_shl14 (a : Int) : 0 ≤ a ∧ a ≤ 31 → 0 ≤ zb_shl a 14 := by
  intro h
  have h1 := zb_shl14n ⟨a.toNat, by omega⟩
  have e : ((a.toNat : Nat) : Int) = a := by omega
  rw [show (((⟨a.toNat, by omega⟩ : Fin 32).val : Nat) : Int) = a from e] at h1
  exact h1
theorem zb_or_bn : ∀ a b : Fin 2, zb_or (a.val : Int) (b.val : Int) ≤ 1 := by decide +kernel
theorem zb_or_b (a b : Int) : (0 ≤ a ∧ a ≤ 1) ∧ (0 ≤ b ∧ b ≤ 1) → zb_or a b ≤ 1 := by
  intro h
  have ea : a = 0 ∨ a = 1 := by omega
  have eb : b = 0 ∨ b = 1 := by omega
  rcases ea with ea | ea <;> rcases eb with eb | eb <;> subst ea <;> subst eb
  · exact zb_or_bn 0 0
  · exact zb_or_bn 0 1
  · exact zb_or_bn 1 0
  · exact zb_or_bn 1 1
theorem z_fitZ {x : Int32} {v : Int} (hx : x = Int32.ofInt v) (h : 0 ≤ v ∧ v ≤ 1) : fits .boolean (.int x) = true := by
  have e : v = 0 ∨ v = 1 := by omega
  rcases e with e | e <;> subst e <;> subst hx <;> rfl
theorem z_narB {x : Int32} {v : Int} (hx : x = Int32.ofInt v) (h : -128 ≤ v ∧ v ≤ 127) : vp_nar .byte x = Int32.ofInt v := by
  show x.toInt8.toInt32 = Int32.ofInt v
  rw [zi_i2b hx, show Int.bmod v 256 = v from by apply Int.bmod_eq_of_le <;> omega]
theorem zk_bas2 (c : Nat × Nat) (m : zM) {p n : Nat} (hp : zA 2 p n) {x y : Int32} {a v : Int} (hx : x = Int32.ofInt a) (ra : zR a) (hy : y = Int32.ofInt v) (h : -128 ≤ v ∧ v ≤ 127) :
    z_hup (zk c m) p (.inl (2, n, .inl (upd (fun j => Int32.ofInt (m p j)) x.toNatClampNeg (vp_nar .byte y)))) = zk c (zm_up m p a.toNat v) := by
  refine zk_up c m p a.toNat v _ ?_
  rw [hp, zi_nat hx ra, z_narB hy h]
  congr 4
  funext j
  unfold upd
  split <;> rfl
def zqL : List Int := [-2147483648, 0, -2147483648, 0, -2147483648, 0, -1, 0, -2147483648, -2147483648, -2147483648, -2147483648, -2147483648, -2147483648, -1, -2147483648, 0, -2147483648, 0, -2147483648, 0, -1, 0, -2147483648, -2147483648, -2147483648, -2147483648, -2147483648, -2147483648, -1, -2147483648, 0, -2147483648, 0, -2147483648, 0, -1, 0, -2147483648, -2147483648, -2147483648, -2147483648, -2147483648, -2147483648, -1, -2147483648, 0, -2147483648, 0, -2147483648, 0, -1, 0, -2147483648, -2147483648, -2147483648, -2147483648, -2147483648, -2147483648, -1, -2147483648, 0, -2147483648, 0, -2147483648, 0, -1, 0, -2147483648, -2147483648, -2147483648, -2147483648, -2147483648, -2147483648, -1, -2147483648, 0, -2147483648, 0, -2147483648, 0, -1, 0, -2147483648, -2147483648, -2147483648, -2147483648, -2147483648, -2147483648, -1, -2147483648, 0, -2147483648, 0, -2147483648, 0, -1, 0, -2147483648, -2147483648, -2147483648, -2147483648, -2147483648, -2147483648, -1, -2147483648, 0, -2147483648, 0, -2147483648, 0, -1, 0, -2147483648, -2147483648, -2147483648, -2147483648, -2147483648, -2147483648, -1, -2147483648, 0, -2147483648, 0, -2147483648, 0, -1, 0, -2147483648, -2147483648, -2147483648, -2147483648, -2147483648, -2147483648, -1, -2147483648, 0, -2147483648, 0, -2147483648, 0, -1, 0, -2147483648, -2147483648, -2147483648, -2147483648, -2147483648, -2147483648, -1, -2147483648, -2147483648, 0, -1, -2147483648, -2147483648, 0, -1, -2147483648, -2147483648, 0, -1, -2147483648, -2147483648, 0, -1, -2147483648, -2147483648, 0, -1, -2147483648, -2147483648, 0, -1, 0, 0, -2147483648, -2147483648]
def zqH : List Int := [2147483647, 2147483647, 2147483647, 99, 2147483647, 3, 9, 1, 2147483647, 2147483647, 2147483647, 2147483647, 2147483647, 2147483647, 0, 2147483647, 2147483647, 2147483647, 99, 2147483647, 3, 9, 1, 2147483647, 2147483647, 2147483647, 2147483647, 2147483647, 2147483647, 0, 2147483647, 2147483647, 2147483647, 99, 2147483647, 3, 9, 1, 2147483647, 2147483647, 2147483647, 2147483647, 2147483647, 2147483647, 1, 2147483647, 2147483647, 2147483647, 99, 2147483647, 3, 9, 1, 2147483647, 2147483647, 2147483647, 2147483647, 2147483647, 2147483647, 2, 2147483647, 2147483647, 2147483647, 99, 2147483647, 3, 9, 1, 2147483647, 2147483647, 2147483647, 2147483647, 2147483647, 2147483647, 3, 2147483647, 2147483647, 2147483647, 99, 2147483647, 3, 9, 1, 2147483647, 2147483647, 2147483647, 2147483647, 2147483647, 2147483647, 4, 2147483647, 2147483647, 2147483647, 99, 2147483647, 3, 9, 1, 2147483647, 2147483647, 2147483647, 2147483647, 2147483647, 2147483647, 5, 2147483647, 2147483647, 2147483647, 99, 2147483647, 3, 9, 1, 2147483647, 2147483647, 2147483647, 2147483647, 2147483647, 2147483647, 6, 2147483647, 2147483647, 2147483647, 99, 2147483647, 3, 9, 1, 2147483647, 2147483647, 2147483647, 2147483647, 2147483647, 2147483647, 7, 2147483647, 2147483647, 2147483647, 99, 2147483647, 3, 9, 1, 2147483647, 2147483647, 2147483647, 2147483647, 2147483647, 2147483647, 8, 2147483647, 2147483647, 4, 4, 2147483647, 2147483647, 4, 4, 2147483647, 2147483647, 4, 4, 2147483647, 2147483647, 4, 4, 2147483647, 2147483647, 4, 4, 2147483647, 2147483647, 4, 4, 10, 1000000000, 2147483647, 2147483647]
def zql (i : Nat) : Int := zqL.getD i (-2147483648)
def zqh (i : Nat) : Int := zqH.getD i 2147483647
def zkh : List Int := [99, 99, 99, 99, 99, 3, 6]
def zrl (i : Nat) : Int := bif Nat.beq i 184 then 0 else bif Nat.beq i 185 then 0 else bif (Nat.ble 70 i && Nat.ble i 79) then 0 else (-2147483648)
def zrh (i : Nat) : Int := bif Nat.beq i 184 then 1000000000 else bif Nat.beq i 185 then 10 else bif (Nat.ble 70 i && Nat.ble i 79) then 1 else 2147483647
def zlo (k i : Nat) : Int := bif Nat.ble 107 k then (bif Nat.beq i 1001 then 0 else bif Nat.beq (k % 4) 1 then (-9223372036854775808) else bif Nat.beq (k % 4) 2 then 0 else (-2147483648)) else (bif Nat.ble k 53 then (bif Nat.ble k 26 then (bif Nat.ble k 13 then (bif Nat.ble k 6 then (bif Nat.ble k 3 then (bif Nat.ble k 1 then (bif Nat.ble k 0 then (bif Nat.beq i 12 then 0 else (bif Nat.beq i 13 then 0 else (bif Nat.beq i 14 then (-1) else (-2147483648)))) else (bif Nat.beq i 1 then 0 else (bif Nat.beq i 2 then 0 else (-2147483648)))) else (bif Nat.ble k 2 then 0 else (-2147483648))) else (bif Nat.ble k 5 then (bif Nat.ble k 4 then (bif Nat.beq i 3 then 0 else (bif Nat.beq i 4 then 0 else (-2147483648))) else (-2147483648)) else (-2147483648))) else (bif Nat.ble k 10 then (bif Nat.ble k 8 then (bif Nat.ble k 7 then 0 else zrl i) else (bif Nat.ble k 9 then (-2147483648) else (bif Nat.beq i 2 then 0 else (bif Nat.beq i 3 then 0 else (-2147483648))))) else (bif Nat.ble k 12 then (bif Nat.ble k 11 then 0 else (-2147483648)) else (bif Nat.beq i 3 then 0 else (bif Nat.beq i 4 then 0 else (-2147483648)))))) else (bif Nat.ble k 20 then (bif Nat.ble k 17 then (bif Nat.ble k 15 then (bif Nat.ble k 14 then (-2147483648) else (-2147483648)) else (bif Nat.ble k 16 then 0 else zrl i)) else (bif Nat.ble k 19 then (bif Nat.ble k 18 then (-2147483648) else (-2147483648)) else 0)) else (bif Nat.ble k 23 then (bif Nat.ble k 22 then (bif Nat.ble k 21 then (-2147483648) else (-2147483648)) else (bif Nat.beq i 4 then 0 else (bif Nat.beq i 5 then 0 else (bif Nat.beq i 6 then 0 else (bif Nat.beq i 7 then 0 else (bif Nat.beq i 8 then 0 else (-2147483648))))))) else (bif Nat.ble k 25 then (bif Nat.ble k 24 then (-2147483648) else zrl i) else zrl i)))) else (bif Nat.ble k 40 then (bif Nat.ble k 33 then (bif Nat.ble k 30 then (bif Nat.ble k 28 then (bif Nat.ble k 27 then zrl i else zrl i) else (bif Nat.ble k 29 then zrl i else zrl i)) else (bif Nat.ble k 32 then (bif Nat.ble k 31 then zrl i else zrl i) else zrl i)) else (bif Nat.ble k 37 then (bif Nat.ble k 35 then (bif Nat.ble k 34 then zrl i else zrl i) else (bif Nat.ble k 36 then zrl i else zrl i)) else (bif Nat.ble k 39 then (bif Nat.ble k 38 then zrl i else zrl i) else zrl i))) else (bif Nat.ble k 47 then (bif Nat.ble k 44 then (bif Nat.ble k 42 then (bif Nat.ble k 41 then zrl i else zrl i) else (bif Nat.ble k 43 then zrl i else zrl i)) else (bif Nat.ble k 46 then (bif Nat.ble k 45 then zrl i else zrl i) else zrl i)) else (bif Nat.ble k 50 then (bif Nat.ble k 49 then (bif Nat.ble k 48 then zrl i else zrl i) else zrl i) else (bif Nat.ble k 52 then (bif Nat.ble k 51 then zrl i else zrl i) else zrl i))))) else (bif Nat.ble k 80 then (bif Nat.ble k 67 then (bif Nat.ble k 60 then (bif Nat.ble k 57 then (bif Nat.ble k 55 then (bif Nat.ble k 54 then zrl i else zrl i) else (bif Nat.ble k 56 then zrl i else zrl i)) else (bif Nat.ble k 59 then (bif Nat.ble k 58 then zrl i else zrl i) else zrl i)) else (bif Nat.ble k 64 then (bif Nat.ble k 62 then (bif Nat.ble k 61 then zrl i else zrl i) else (bif Nat.ble k 63 then zrl i else zrl i)) else (bif Nat.ble k 66 then (bif Nat.ble k 65 then 0 else (-2147483648)) else zrl i))) else (bif Nat.ble k 74 then (bif Nat.ble k 71 then (bif Nat.ble k 69 then (bif Nat.ble k 68 then (bif Nat.beq i 0 then 0 else (bif Nat.beq i 1 then (-9223372036854775808) else (-2147483648))) else (-2147483648)) else (bif Nat.ble k 70 then zrl i else (-2147483648))) else (bif Nat.ble k 73 then (bif Nat.ble k 72 then (-2147483648) else (-2147483648)) else zrl i)) else (bif Nat.ble k 77 then (bif Nat.ble k 76 then (bif Nat.ble k 75 then (bif Nat.beq i 5 then 0 else (-2147483648)) else zrl i) else 0) else (bif Nat.ble k 79 then (bif Nat.ble k 78 then (-2147483648) else (bif Nat.beq i 0 then 0 else (bif Nat.beq i 5 then 80 else (bif Nat.beq i 6 then 0 else (bif Nat.beq i 7 then 0 else (bif Nat.beq i 8 then 0 else (bif Nat.beq i 9 then 0 else (bif Nat.beq i 10 then 0 else (bif Nat.beq i 12 then 0 else (bif Nat.beq i 17 then 0 else (bif Nat.beq i 26 then 0 else (bif Nat.beq i 27 then 0 else (bif Nat.beq i 28 then 0 else (bif Nat.beq i 29 then 0 else (bif Nat.beq i 30 then 0 else (bif Nat.beq i 33 then (-1) else (bif Nat.beq i 34 then 0 else (bif Nat.beq i 41 then (-1) else (bif Nat.beq i 42 then (-1) else (bif Nat.beq i 48 then 0 else (bif Nat.beq i 49 then 0 else (bif Nat.beq i 50 then (-9223372036854775808) else (bif Nat.beq i 53 then 0 else (bif Nat.beq i 57 then 0 else (-2147483648))))))))))))))))))))))))) else (-128))))) else (bif Nat.ble k 93 then (bif Nat.ble k 87 then (bif Nat.ble k 84 then (bif Nat.ble k 82 then (bif Nat.ble k 81 then (-128) else 0) else (bif Nat.ble k 83 then 0 else (-2147483648))) else (bif Nat.ble k 86 then (bif Nat.ble k 85 then (-2147483648) else 0) else (-2147483648))) else (bif Nat.ble k 90 then (bif Nat.ble k 89 then (bif Nat.ble k 88 then 0 else 0) else 0) else (bif Nat.ble k 92 then (bif Nat.ble k 91 then 0 else zql i) else zql i))) else (bif Nat.ble k 100 then (bif Nat.ble k 97 then (bif Nat.ble k 95 then (bif Nat.ble k 94 then (-2147483648) else (-2147483648)) else (bif Nat.ble k 96 then (-9223372036854775808) else (-2147483648))) else (bif Nat.ble k 99 then (bif Nat.ble k 98 then zql (i % 178) else (-2147483648)) else 0)) else (bif Nat.ble k 103 then (bif Nat.ble k 102 then (bif Nat.ble k 101 then (-2147483648) else (-2147483648)) else (-2147483648)) else (bif Nat.ble k 105 then (bif Nat.ble k 104 then (-2147483648) else zql i) else (-9223372036854775808)))))))
def zhi (k i : Nat) : Int := bif Nat.ble 107 k then (bif Nat.beq i 1001 then 240 else bif Nat.beq (k % 4) 1 then 9223372036854775807 else bif Nat.beq (k % 4) 2 then 2147483647 else 2147483647) else (bif Nat.ble k 53 then (bif Nat.ble k 26 then (bif Nat.ble k 13 then (bif Nat.ble k 6 then (bif Nat.ble k 3 then (bif Nat.ble k 1 then (bif Nat.ble k 0 then (bif Nat.beq i 12 then 1 else (bif Nat.beq i 13 then 4 else (bif Nat.beq i 14 then 3 else 2147483647))) else (bif Nat.beq i 1 then 240 else (bif Nat.beq i 2 then 240 else 2147483647))) else (bif Nat.ble k 2 then 255 else 2147483647)) else (bif Nat.ble k 5 then (bif Nat.ble k 4 then (bif Nat.beq i 3 then 5 else (bif Nat.beq i 4 then 6 else 2147483647)) else 2147483647) else 2147483647)) else (bif Nat.ble k 10 then (bif Nat.ble k 8 then (bif Nat.ble k 7 then 8 else zrh i) else (bif Nat.ble k 9 then 2147483647 else (bif Nat.beq i 2 then 240 else (bif Nat.beq i 3 then 1 else 2147483647)))) else (bif Nat.ble k 12 then (bif Nat.ble k 11 then 2147483647 else 2147483647) else (bif Nat.beq i 3 then 5 else (bif Nat.beq i 4 then 6 else 2147483647))))) else (bif Nat.ble k 20 then (bif Nat.ble k 17 then (bif Nat.ble k 15 then (bif Nat.ble k 14 then 2147483647 else 2147483647) else (bif Nat.ble k 16 then 8 else zrh i)) else (bif Nat.ble k 19 then (bif Nat.ble k 18 then 2147483647 else 2147483647) else 1)) else (bif Nat.ble k 23 then (bif Nat.ble k 22 then (bif Nat.ble k 21 then 2147483647 else 2147483647) else (bif Nat.beq i 4 then 1 else (bif Nat.beq i 5 then 40 else (bif Nat.beq i 6 then 39 else (bif Nat.beq i 7 then 100 else (bif Nat.beq i 8 then 99 else 2147483647)))))) else (bif Nat.ble k 25 then (bif Nat.ble k 24 then 2147483647 else zrh i) else zrh i)))) else (bif Nat.ble k 40 then (bif Nat.ble k 33 then (bif Nat.ble k 30 then (bif Nat.ble k 28 then (bif Nat.ble k 27 then zrh i else zrh i) else (bif Nat.ble k 29 then zrh i else zrh i)) else (bif Nat.ble k 32 then (bif Nat.ble k 31 then zrh i else zrh i) else zrh i)) else (bif Nat.ble k 37 then (bif Nat.ble k 35 then (bif Nat.ble k 34 then zrh i else zrh i) else (bif Nat.ble k 36 then zrh i else zrh i)) else (bif Nat.ble k 39 then (bif Nat.ble k 38 then zrh i else zrh i) else zrh i))) else (bif Nat.ble k 47 then (bif Nat.ble k 44 then (bif Nat.ble k 42 then (bif Nat.ble k 41 then zrh i else zrh i) else (bif Nat.ble k 43 then zrh i else zrh i)) else (bif Nat.ble k 46 then (bif Nat.ble k 45 then zrh i else zrh i) else zrh i)) else (bif Nat.ble k 50 then (bif Nat.ble k 49 then (bif Nat.ble k 48 then zrh i else zrh i) else zrh i) else (bif Nat.ble k 52 then (bif Nat.ble k 51 then zrh i else zrh i) else zrh i))))) else (bif Nat.ble k 80 then (bif Nat.ble k 67 then (bif Nat.ble k 60 then (bif Nat.ble k 57 then (bif Nat.ble k 55 then (bif Nat.ble k 54 then zrh i else zrh i) else (bif Nat.ble k 56 then zrh i else zrh i)) else (bif Nat.ble k 59 then (bif Nat.ble k 58 then zrh i else zrh i) else zrh i)) else (bif Nat.ble k 64 then (bif Nat.ble k 62 then (bif Nat.ble k 61 then zrh i else zrh i) else (bif Nat.ble k 63 then zrh i else zrh i)) else (bif Nat.ble k 66 then (bif Nat.ble k 65 then 1 else 2147483647) else zrh i))) else (bif Nat.ble k 74 then (bif Nat.ble k 71 then (bif Nat.ble k 69 then (bif Nat.ble k 68 then (bif Nat.beq i 0 then 99 else (bif Nat.beq i 1 then 9223372036854775807 else 2147483647)) else 2147483647) else (bif Nat.ble k 70 then zrh i else 2147483647)) else (bif Nat.ble k 73 then (bif Nat.ble k 72 then 2147483647 else 2147483647) else zrh i)) else (bif Nat.ble k 77 then (bif Nat.ble k 76 then (bif Nat.ble k 75 then (bif Nat.beq i 5 then 6 else 2147483647) else zrh i) else 6) else (bif Nat.ble k 79 then (bif Nat.ble k 78 then 2147483647 else (bif Nat.beq i 0 then 1 else (bif Nat.beq i 5 then 81 else (bif Nat.beq i 6 then 240 else (bif Nat.beq i 7 then 4 else (bif Nat.beq i 8 then 720 else (bif Nat.beq i 9 then 240 else (bif Nat.beq i 10 then 241 else (bif Nat.beq i 12 then 6 else (bif Nat.beq i 17 then 1 else (bif Nat.beq i 26 then 5 else (bif Nat.beq i 27 then 6 else (bif Nat.beq i 28 then 5 else (bif Nat.beq i 29 then 6 else (bif Nat.beq i 30 then 6 else (bif Nat.beq i 33 then 3 else (bif Nat.beq i 34 then 99 else (bif Nat.beq i 41 then 9 else (bif Nat.beq i 42 then 9 else (bif Nat.beq i 48 then 40 else (bif Nat.beq i 49 then 60 else (bif Nat.beq i 50 then 9223372036854775807 else (bif Nat.beq i 53 then 6 else (bif Nat.beq i 57 then 1 else 2147483647)))))))))))))))))))))))) else 127)))) else (bif Nat.ble k 93 then (bif Nat.ble k 87 then (bif Nat.ble k 84 then (bif Nat.ble k 82 then (bif Nat.ble k 81 then 127 else 240) else (bif Nat.ble k 83 then 2147483647 else 2147483647)) else (bif Nat.ble k 86 then (bif Nat.ble k 85 then 2147483647 else (zkh.getD (i % 7) 99)) else 2147483647)) else (bif Nat.ble k 90 then (bif Nat.ble k 89 then (bif Nat.ble k 88 then 4 else 4) else 8) else (bif Nat.ble k 92 then (bif Nat.ble k 91 then 8 else zqh i) else zqh i))) else (bif Nat.ble k 100 then (bif Nat.ble k 97 then (bif Nat.ble k 95 then (bif Nat.ble k 94 then 2147483647 else 2147483647) else (bif Nat.ble k 96 then 9223372036854775807 else 2147483647)) else (bif Nat.ble k 99 then (bif Nat.ble k 98 then zqh (i % 178) else 2147483647) else 1)) else (bif Nat.ble k 103 then (bif Nat.ble k 102 then (bif Nat.ble k 101 then 2147483647 else 2147483647) else 2147483647) else (bif Nat.ble k 105 then (bif Nat.ble k 104 then 2147483647 else zqh i) else 9223372036854775807))))))
def zB (m : zM) : Prop := ∀ p i, zlo p i ≤ m p i ∧ m p i ≤ zhi p i
/-- the TASTES: those learnt lie behind the hundred and seven; the one that is held is one of them -/
def zQk (p i : Nat) : Prop := (79 ≤ p ∧ p ≤ 105) ∨ (p = 68 ∧ i = 0) ∨ p = 2 ∨ (p = 1 ∧ i = 1) ∨ (p = 75 ∧ i = 5) ∨ (p = 0 ∧ i = 12)
def zFm (mM m : zM) : Prop := ∀ p i, zQk p i → m p i = mM p i
def zT9 (c : Nat × Nat) (mM m : zM) : Prop := (m 18 1 = 0 ∨ ((m 18 1 = 107 ∨ m 18 1 = 111 ∨ m 18 1 = 115 ∨ m 18 1 = 119) ∧ m 18 1 + 4 ≤ (c.1 : Int))) ∧ 107 + 4 * m 0 13 = (c.1 : Int) ∧ (∀ j : Nat, (j : Int) < m 0 13 → m 12 j = 107 + 4 * (j : Int)) ∧ zFm mM m
def zI (c : Nat × Nat) (mM m : zM) : Prop := zB m ∧ zT9 c mM m
def zOb (p i : Nat) : Prop := p ≠ 12 ∧ (p ≠ 18 ∨ i ≠ 1) ∧ (p ≠ 0 ∨ i ≠ 13)
def zOk (p i : Nat) : Prop := p ≠ 12 ∧ (p ≠ 18 ∨ i ≠ 1) ∧ (p ≠ 0 ∨ (i ≠ 12 ∧ i ≠ 13)) ∧ (p < 79 ∨ 105 < p) ∧ (p ≠ 68 ∨ i ≠ 0) ∧ p ≠ 2 ∧ (p ≠ 1 ∨ i ≠ 1) ∧ (p ≠ 75 ∨ i ≠ 5)
theorem zOk_p {p i : Nat} (h : p ≠ 0 ∧ p ≠ 1 ∧ p ≠ 2 ∧ p ≠ 12 ∧ p ≠ 18 ∧ p ≠ 68 ∧ p ≠ 75 ∧ p < 79) : zOk p i := by unfold zOk; omega
theorem zm_ne {m : zM} {p i q j : Nat} {v : Int} (h : q ≠ p ∨ j ≠ i) : zm_up m p i v q j = m q j := by
  unfold zm_up
  rw [if_neg (fun z => h.elim (fun w => w z.1) (fun w => w z.2))]
theorem zm_eq {m : zM} {p i : Nat} {v : Int} : zm_up m p i v p i = v := by
  unfold zm_up
  rw [if_pos ⟨rfl, rfl⟩]
theorem zI_up {c : Nat × Nat} {mM : zM} {m : zM} {p i : Nat} {v : Int} (h : zI c mM m) (hk : zOk p i) (hv : zlo p i ≤ v ∧ v ≤ zhi p i) : zI c mM (zm_up m p i v) := by
  refine ⟨fun p1 i1 => ?_, ?_⟩
  · unfold zm_up
    by_cases q : p1 = p ∧ i1 = i
    · rw [if_pos q, q.1, q.2]; exact hv
    · rw [if_neg q]; exact h.1 p1 i1
  · obtain ⟨k1, k2, k3, k4⟩ := hk
    obtain ⟨h1, h2, h3, h4⟩ := h.2
    have e1 : zm_up m p i v 18 1 = m 18 1 := zm_ne (k2.elim (fun w => Or.inl (fun e => w e.symm)) (fun w => Or.inr (fun e => w e.symm)))
    have e2 : zm_up m p i v 0 13 = m 0 13 := zm_ne (k3.elim (fun w => Or.inl (fun e => w e.symm)) (fun w => Or.inr (fun e => w.2 e.symm)))
    refine ⟨by rw [e1]; exact h1, by rw [e2]; exact h2, fun j hj => ?_, fun q j a => ?_⟩
    · rw [zm_ne (Or.inl (fun e => k1 e.symm))]
      exact h3 j (by rw [e2] at hj; exact hj)
    · rw [zm_ne (by unfold zQk at a; omega)]; exact h4 q j a
/-- a write where what is kept stands -/
theorem zI_upS {c : Nat × Nat} {mM : zM} {m1 : zM} {m : zM} {p i : Nat} {v : Int} (h : zI c mM m1) (hm : m = zm_up m1 p i v) (hk : zOb p i) (hv : zlo p i ≤ v ∧ v ≤ zhi p i) : zI c m m := by
  subst hm
  obtain ⟨k1, k2, k3⟩ := hk
  obtain ⟨h0, h1, h2, h3, h4⟩ := h
  refine ⟨fun p1 i1 => ?_, ?_, ?_, fun j hj => ?_, fun _ _ _ => rfl⟩
  · unfold zm_up
    by_cases q : p1 = p ∧ i1 = i
    · rw [if_pos q, q.1, q.2]; exact hv
    · rw [if_neg q]; exact h0 p1 i1
  · rw [zm_ne (by omega)]; exact h1
  · rw [zm_ne (by omega)]; exact h2
  · rw [zm_ne (by omega)]; rw [zm_ne (by omega)] at hj; exact h3 j hj
/-- a number kept in 32 bits -/
def zw (a : Int) : Int := Int.bmod a 4294967296
theorem zwR (a : Int) : -2147483648 ≤ zw a ∧ zw a ≤ 2147483647 := by
  have l1 := @Int.le_bmod a 4294967296 (by decide)
  have l2 := @Int.bmod_lt a 4294967296 (by decide)
  unfold zw
  omega
theorem zw_eq (a : Int) : Int32.ofInt a = Int32.ofInt (zw a) := by
  apply Int32.toInt_inj.mp
  rw [Int32.toInt_ofInt, Int32.toInt_ofInt]
  exact (Int.bmod_bmod_of_dvd (by decide)).symm
theorem zw_id {a : Int} (h : -2147483648 ≤ a ∧ a ≤ 2147483647) : zw a = a := by
  unfold zw
  apply Int.bmod_eq_of_le <;> omega
theorem zwI (a : Int) : (-2147483648 ≤ a ∧ a ≤ 2147483647) → zw a = a := zw_id
def zw8 (a : Int) : Int := Int.bmod a 18446744073709551616
theorem zw8R (a : Int) : -9223372036854775808 ≤ zw8 a ∧ zw8 a ≤ 9223372036854775807 := by
  have l1 := @Int.le_bmod a 18446744073709551616 (by decide)
  have l2 := @Int.bmod_lt a 18446744073709551616 (by decide)
  unfold zw8
  omega
theorem zw8_eq (a : Int) : Int64.ofInt a = Int64.ofInt (zw8 a) := by
  apply Int64.toInt_inj.mp
  rw [Int64.toInt_ofInt, Int64.toInt_ofInt]
  exact (Int.bmod_bmod_of_dvd (by decide)).symm
/-- a row of the class: HOUR, COUNT, LIVES are bounded -/
def zS (s : Nat) : Prop := zA 0 s 188 ∧ ∀ i, zlo s i = zrl i ∧ zhi s i = zrh i
theorem zr_lh (i : Nat) : -2147483648 ≤ zrl i ∧ zrl i ≤ 0 ∧ 0 ≤ zrh i ∧ zrh i ≤ 2147483647 := by
  unfold zrl zrh
  cases Nat.beq i 184 <;> cases Nat.beq i 185 <;> cases (Nat.ble 70 i && Nat.ble i 79) <;> decide
theorem zr_i {c : Nat × Nat} {mM : zM} {m : zM} {s : Nat} (h : zI c mM m) (hs : zS s) (i : Nat) : -2147483648 ≤ m s i ∧ m s i ≤ 2147483647 := by
  have h1 := h.1 s i
  rw [(hs.2 i).1, (hs.2 i).2] at h1
  have h2 := zr_lh i
  omega
theorem zr_h {c : Nat × Nat} {mM : zM} {m : zM} {s : Nat} (h : zI c mM m) (hs : zS s) : 0 ≤ m s 184 ∧ m s 184 ≤ 1000000000 := by
  have h1 := h.1 s 184
  rw [(hs.2 184).1, (hs.2 184).2] at h1
  exact h1
theorem zr_c {c : Nat × Nat} {mM : zM} {m : zM} {s : Nat} (h : zI c mM m) (hs : zS s) : 0 ≤ m s 185 ∧ m s 185 ≤ 10 := by
  have h1 := h.1 s 185
  rw [(hs.2 185).1, (hs.2 185).2] at h1
  exact h1
theorem z_bqf {a b : Nat} (h : a ≠ b) : Nat.beq a b = false := by
  cases hb : Nat.beq a b with
  | false => rfl
  | true => exact absurd (Nat.eq_of_beq_eq_true hb) h
theorem zr_in {i : Nat} (h : 70 ≤ i ∧ i ≤ 79) : zrl i = 0 ∧ zrh i = 1 := by
  have h1 : Nat.beq i 184 = false := z_bqf (by omega)
  have h2 : Nat.beq i 185 = false := z_bqf (by omega)
  unfold zrl zrh
  rw [h1, h2, Nat.ble_eq_true_of_le h.1, Nat.ble_eq_true_of_le h.2]
  exact ⟨rfl, rfl⟩
theorem zr_l {c : Nat × Nat} {mM : zM} {m : zM} {s i : Nat} (h : zI c mM m) (hs : zS s) (hi : 70 ≤ i ∧ i ≤ 79) : 0 ≤ m s i ∧ m s i ≤ 1 := by
  have h1 := h.1 s i
  rw [(hs.2 i).1, (hs.2 i).2, (zr_in hi).1, (zr_in hi).2] at h1
  exact h1
theorem zrw_h {s : Nat} {v : Int} (hs : zS s) (hv : 0 ≤ v ∧ v ≤ 1000000000) : zlo s 184 ≤ v ∧ v ≤ zhi s 184 := by
  rw [(hs.2 184).1, (hs.2 184).2]; exact hv
theorem zrw_c {s : Nat} {v : Int} (hs : zS s) (hv : 0 ≤ v ∧ v ≤ 10) : zlo s 185 ≤ v ∧ v ≤ zhi s 185 := by
  rw [(hs.2 185).1, (hs.2 185).2]; exact hv
theorem zrw_l {s i : Nat} {v : Int} (hs : zS s) (hi : 70 ≤ i ∧ i ≤ 79) (hv : 0 ≤ v ∧ v ≤ 1) : zlo s i ≤ v ∧ v ≤ zhi s i := by
  rw [(hs.2 i).1, (hs.2 i).2, (zr_in hi).1, (zr_in hi).2]; exact hv
theorem zrw_i {s i : Nat} {v : Int} (hs : zS s) (hi : i ≠ 184 ∧ i ≠ 185 ∧ (i < 70 ∨ 79 < i)) (hv : -2147483648 ≤ v ∧ v ≤ 2147483647) : zlo s i ≤ v ∧ v ≤ zhi s i := by
  rw [(hs.2 i).1, (hs.2 i).2]
  have h1 : Nat.beq i 184 = false := z_bqf hi.1
  have h2 : Nat.beq i 185 = false := z_bqf hi.2.1
  have h3 : (Nat.ble 70 i && Nat.ble i 79) = false := by
    rcases hi.2.2 with q | q
    · have : Nat.ble 70 i = false := by
        cases hb : Nat.ble 70 i with
        | false => rfl
        | true => have := Nat.le_of_ble_eq_true hb; omega
      rw [this]; rfl
    · have : Nat.ble i 79 = false := by
        cases hb : Nat.ble i 79 with
        | false => rfl
        | true => have := Nat.le_of_ble_eq_true hb; omega
      rw [this, Bool.and_false]
  unfold zrl zrh
  rw [h1, h2, h3]
  exact hv
theorem zr_f0 {s : Nat} (hs : zS s) (i : Nat) : zlo s i ≤ 0 ∧ 0 ≤ zhi s i := by
  rw [(hs.2 i).1, (hs.2 i).2]
  have h2 := zr_lh i
  omega
theorem zA_2 : zA 0 2 240 := fun _ => rfl
theorem zA_5 : zA 0 5 5 := fun _ => rfl
theorem zA_6 : zA 0 6 48 := fun _ => rfl
theorem zA_7 : zA 0 7 6 := fun _ => rfl
theorem zA_8 : zA 0 8 188 := fun _ => rfl
theorem zA_9 : zA 0 9 7 := fun _ => rfl
theorem zA_11 : zA 0 11 240 := fun _ => rfl
theorem zA_14 : zA 0 14 5 := fun _ => rfl
theorem zA_15 : zA 0 15 48 := fun _ => rfl
theorem zA_16 : zA 0 16 6 := fun _ => rfl
theorem zA_17 : zA 0 17 188 := fun _ => rfl
theorem zA_19 : zA 0 19 10 := fun _ => rfl
theorem zA_20 : zA 3 20 10 := fun _ => rfl
theorem zA_21 : zA 0 21 20 := fun _ => rfl
theorem zA_22 : zA 0 22 20 := fun _ => rfl
theorem zA_25 : zA 0 25 188 := fun _ => rfl
theorem zA_26 : zA 0 26 188 := fun _ => rfl
theorem zA_27 : zA 0 27 188 := fun _ => rfl
theorem zA_28 : zA 0 28 188 := fun _ => rfl
theorem zA_29 : zA 0 29 188 := fun _ => rfl
theorem zA_30 : zA 0 30 188 := fun _ => rfl
theorem zA_31 : zA 0 31 188 := fun _ => rfl
theorem zA_32 : zA 0 32 188 := fun _ => rfl
theorem zA_33 : zA 0 33 188 := fun _ => rfl
theorem zA_34 : zA 0 34 188 := fun _ => rfl
theorem zA_35 : zA 0 35 188 := fun _ => rfl
theorem zA_36 : zA 0 36 188 := fun _ => rfl
theorem zA_37 : zA 0 37 188 := fun _ => rfl
theorem zA_38 : zA 0 38 188 := fun _ => rfl
theorem zA_39 : zA 0 39 188 := fun _ => rfl
theorem zA_40 : zA 0 40 188 := fun _ => rfl
theorem zA_41 : zA 0 41 188 := fun _ => rfl
theorem zA_42 : zA 0 42 188 := fun _ => rfl
theorem zA_43 : zA 0 43 188 := fun _ => rfl
theorem zA_44 : zA 0 44 188 := fun _ => rfl
theorem zA_45 : zA 0 45 188 := fun _ => rfl
theorem zA_46 : zA 0 46 188 := fun _ => rfl
theorem zA_47 : zA 0 47 188 := fun _ => rfl
theorem zA_48 : zA 0 48 188 := fun _ => rfl
theorem zA_49 : zA 0 49 188 := fun _ => rfl
theorem zA_50 : zA 0 50 188 := fun _ => rfl
theorem zA_51 : zA 0 51 188 := fun _ => rfl
theorem zA_52 : zA 0 52 188 := fun _ => rfl
theorem zA_53 : zA 0 53 188 := fun _ => rfl
theorem zA_54 : zA 0 54 188 := fun _ => rfl
theorem zA_55 : zA 0 55 188 := fun _ => rfl
theorem zA_56 : zA 0 56 188 := fun _ => rfl
theorem zA_57 : zA 0 57 188 := fun _ => rfl
theorem zA_58 : zA 0 58 188 := fun _ => rfl
theorem zA_59 : zA 0 59 188 := fun _ => rfl
theorem zA_60 : zA 0 60 188 := fun _ => rfl
theorem zA_61 : zA 0 61 188 := fun _ => rfl
theorem zA_62 : zA 0 62 188 := fun _ => rfl
theorem zA_63 : zA 0 63 188 := fun _ => rfl
theorem zA_64 : zA 0 64 188 := fun _ => rfl
theorem zA_65 : zA 3 65 40 := fun _ => rfl
theorem zA_66 : zA 0 66 400 := fun _ => rfl
theorem zA_67 : zA 0 67 188 := fun _ => rfl
theorem zA_70 : zA 0 70 188 := fun _ => rfl
theorem zA_71 : zA 0 71 16 := fun _ => rfl
theorem zA_72 : zA 0 72 16 := fun _ => rfl
theorem zA_74 : zA 0 74 188 := fun _ => rfl
theorem zA_76 : zA 0 76 188 := fun _ => rfl
theorem zA_77 : zA 0 77 6 := fun _ => rfl
theorem zA_78 : zA 0 78 6 := fun _ => rfl
theorem zA_80 : zA 2 80 240 := fun _ => rfl
theorem zA_81 : zA 2 81 960 := fun _ => rfl
theorem zA_82 : zA 0 82 4 := fun _ => rfl
theorem zA_83 : zA 0 83 128 := fun _ => rfl
theorem zA_84 : zA 0 84 5 := fun _ => rfl
theorem zA_85 : zA 0 85 5 := fun _ => rfl
theorem zA_86 : zA 0 86 42 := fun _ => rfl
theorem zA_87 : zA 0 87 12 := fun _ => rfl
theorem zA_88 : zA 0 88 48 := fun _ => rfl
theorem zA_89 : zA 0 89 48 := fun _ => rfl
theorem zA_90 : zA 0 90 6 := fun _ => rfl
theorem zA_91 : zA 0 91 6 := fun _ => rfl
theorem zA_92 : zA 0 92 178 := fun _ => rfl
theorem zA_93 : zA 0 93 178 := fun _ => rfl
theorem zA_94 : zA 0 94 10 := fun _ => rfl
theorem zA_95 : zA 0 95 10 := fun _ => rfl
theorem zA_96 : zAL 96 8191 := fun _ => rfl
theorem zA_97 : zA 0 97 8191 := fun _ => rfl
theorem zA_98 : zA 0 98 7120 := fun _ => rfl
theorem zA_99 : zA 0 99 240 := fun _ => rfl
theorem zA_100 : zA 3 100 40 := fun _ => rfl
theorem zA_101 : zA 0 101 6 := fun _ => rfl
theorem zA_102 : zA 0 102 6 := fun _ => rfl
theorem zA_103 : zA 0 103 16 := fun _ => rfl
theorem zA_104 : zA 0 104 16 := fun _ => rfl
theorem zA_105 : zA 0 105 178 := fun _ => rfl
theorem zA_106 : zAL 106 1 := fun _ => rfl
theorem zS_8 : zS 8 := ⟨zA_8, fun _ => ⟨rfl, rfl⟩⟩
theorem zS_17 : zS 17 := ⟨zA_17, fun _ => ⟨rfl, rfl⟩⟩
theorem zS_67 : zS 67 := ⟨zA_67, fun _ => ⟨rfl, rfl⟩⟩
theorem zS_70 : zS 70 := ⟨zA_70, fun _ => ⟨rfl, rfl⟩⟩
theorem zS_74 : zS 74 := ⟨zA_74, fun _ => ⟨rfl, rfl⟩⟩
theorem zS_76 : zS 76 := ⟨zA_76, fun _ => ⟨rfl, rfl⟩⟩
theorem zS_25 : zS 25 := ⟨zA_25, fun _ => ⟨rfl, rfl⟩⟩
theorem zS_26 : zS 26 := ⟨zA_26, fun _ => ⟨rfl, rfl⟩⟩
theorem zS_27 : zS 27 := ⟨zA_27, fun _ => ⟨rfl, rfl⟩⟩
theorem zS_28 : zS 28 := ⟨zA_28, fun _ => ⟨rfl, rfl⟩⟩
theorem zS_29 : zS 29 := ⟨zA_29, fun _ => ⟨rfl, rfl⟩⟩
theorem zS_30 : zS 30 := ⟨zA_30, fun _ => ⟨rfl, rfl⟩⟩
theorem zS_31 : zS 31 := ⟨zA_31, fun _ => ⟨rfl, rfl⟩⟩
theorem zS_32 : zS 32 := ⟨zA_32, fun _ => ⟨rfl, rfl⟩⟩
theorem zS_33 : zS 33 := ⟨zA_33, fun _ => ⟨rfl, rfl⟩⟩
theorem zS_34 : zS 34 := ⟨zA_34, fun _ => ⟨rfl, rfl⟩⟩
theorem zS_35 : zS 35 := ⟨zA_35, fun _ => ⟨rfl, rfl⟩⟩
theorem zS_36 : zS 36 := ⟨zA_36, fun _ => ⟨rfl, rfl⟩⟩
theorem zS_37 : zS 37 := ⟨zA_37, fun _ => ⟨rfl, rfl⟩⟩
theorem zS_38 : zS 38 := ⟨zA_38, fun _ => ⟨rfl, rfl⟩⟩
theorem zS_39 : zS 39 := ⟨zA_39, fun _ => ⟨rfl, rfl⟩⟩
theorem zS_40 : zS 40 := ⟨zA_40, fun _ => ⟨rfl, rfl⟩⟩
theorem zS_41 : zS 41 := ⟨zA_41, fun _ => ⟨rfl, rfl⟩⟩
theorem zS_42 : zS 42 := ⟨zA_42, fun _ => ⟨rfl, rfl⟩⟩
theorem zS_43 : zS 43 := ⟨zA_43, fun _ => ⟨rfl, rfl⟩⟩
theorem zS_44 : zS 44 := ⟨zA_44, fun _ => ⟨rfl, rfl⟩⟩
theorem zS_45 : zS 45 := ⟨zA_45, fun _ => ⟨rfl, rfl⟩⟩
theorem zS_46 : zS 46 := ⟨zA_46, fun _ => ⟨rfl, rfl⟩⟩
theorem zS_47 : zS 47 := ⟨zA_47, fun _ => ⟨rfl, rfl⟩⟩
theorem zS_48 : zS 48 := ⟨zA_48, fun _ => ⟨rfl, rfl⟩⟩
theorem zS_49 : zS 49 := ⟨zA_49, fun _ => ⟨rfl, rfl⟩⟩
theorem zS_50 : zS 50 := ⟨zA_50, fun _ => ⟨rfl, rfl⟩⟩
theorem zS_51 : zS 51 := ⟨zA_51, fun _ => ⟨rfl, rfl⟩⟩
theorem zS_52 : zS 52 := ⟨zA_52, fun _ => ⟨rfl, rfl⟩⟩
theorem zS_53 : zS 53 := ⟨zA_53, fun _ => ⟨rfl, rfl⟩⟩
theorem zS_54 : zS 54 := ⟨zA_54, fun _ => ⟨rfl, rfl⟩⟩
theorem zS_55 : zS 55 := ⟨zA_55, fun _ => ⟨rfl, rfl⟩⟩
theorem zS_56 : zS 56 := ⟨zA_56, fun _ => ⟨rfl, rfl⟩⟩
theorem zS_57 : zS 57 := ⟨zA_57, fun _ => ⟨rfl, rfl⟩⟩
theorem zS_58 : zS 58 := ⟨zA_58, fun _ => ⟨rfl, rfl⟩⟩
theorem zS_59 : zS 59 := ⟨zA_59, fun _ => ⟨rfl, rfl⟩⟩
theorem zS_60 : zS 60 := ⟨zA_60, fun _ => ⟨rfl, rfl⟩⟩
theorem zS_61 : zS 61 := ⟨zA_61, fun _ => ⟨rfl, rfl⟩⟩
theorem zS_62 : zS 62 := ⟨zA_62, fun _ => ⟨rfl, rfl⟩⟩
theorem zS_63 : zS 63 := ⟨zA_63, fun _ => ⟨rfl, rfl⟩⟩
theorem zS_64 : zS 64 := ⟨zA_64, fun _ => ⟨rfl, rfl⟩⟩
def zfl (m : zM) (p n : Nat) (v : Int) : zM := fun q i => if q = p ∧ i < n then v else m q i
theorem S_fill (zn : Bool) (d : Nat) {c : Nat × Nat} {mM : zM} (hN : 107 ≤ c.1) (hC : c.1 < z_RO) {p n : Nat} (hp : zA 0 p n) (hlt : p < 79 ∧ p ≠ 12 ∧ p ≠ 18 ∧ p ≠ 0 ∧ p ≠ 68 ∧ p ≠ 2 ∧ p ≠ 1 ∧ p ≠ 75) (hn : n ≤ 2000000000) {v : Int} (m : zM) (hI : zI c mM m) (hv : ∀ i, i < n → zlo p i ≤ v ∧ v ≤ zhi p i) :
    ∃ m1, z_sem zn (d + 1) 28 [.ref p, .int (Int32.ofInt v)] (zk c m) none (zk c m1) ∧ zI c mM m1 ∧ (∀ q i, q ≠ p → m1 q i = m q i) ∧ ∀ i, i < n → m1 p i = v := by
  refine ⟨zfl m p n v, ?_, ?_, ?_, ?_⟩
  · have h := zf_fill zn d (N := c.1) (sl := c.2) (a := p) (n := n) (g := (zk c m).2.2) (f := fun j => Int32.ofInt (m p j)) (v := Int32.ofInt v) (hp _) (Nat.ble_eq_true_of_le (Nat.lt_of_lt_of_le hlt.1 (Nat.le_trans (by decide) hN))) (Nat.ble_eq_true_of_le hC) hn
    have e : ((c.1, c.2, va_up (zk c m).2.2 p (.inl (0, n, .inl (zfillf (fun j => Int32.ofInt (m p j)) (Int32.ofInt v) n)))) : z_H) = zk c (zfl m p n v) := by
      unfold zk
      congr 2
      funext k
      unfold va_up
      by_cases h : k = p
      · subst h
        rw [if_pos rfl, hp]
        congr 4
        funext j
        unfold zfillf zfl
        by_cases hj : j < n
        · simp [hj]
        · simp [hj]
      · rw [if_neg h]
        show zm_sh k (m k) = zm_sh k (zfl m p n v k)
        congr 1
        funext j
        unfold zfl
        rw [if_neg (fun q => h q.1)]
    rw [e] at h
    exact h
  · refine ⟨fun p1 i1 => ?_, ?_⟩
    · unfold zfl
      by_cases q : p1 = p ∧ i1 < n
      · rw [if_pos q, q.1]; exact hv i1 q.2
      · rw [if_neg q]; exact hI.1 p1 i1
    · obtain ⟨h1, h2, h3, h4⟩ := hI.2
      have e : ∀ q i, q ≠ p → zfl m p n v q i = m q i := fun q i hq => by unfold zfl; rw [if_neg (fun z => hq z.1)]
      refine ⟨by rw [e 18 1 (fun e => hlt.2.2.1 e.symm)]; exact h1, by rw [e 0 13 (fun e => hlt.2.2.2.1 e.symm)]; exact h2, fun j hj => ?_, fun q j a => ?_⟩
      · rw [e 12 j (fun e => hlt.2.1 e.symm)]
        exact h3 j (by rw [e 0 13 (fun e => hlt.2.2.2.1 e.symm)] at hj; exact hj)
      · rw [e q j (by unfold zQk at a; omega)]; exact h4 q j a
  · intro q i hq
    show (if q = p ∧ i < n then v else m q i) = _
    rw [if_neg (fun z => hq z.1)]
  · intro i hi
    show (if p = p ∧ i < n then v else m p i) = _
    rw [if_pos ⟨rfl, hi⟩]
theorem zT_stk {c : Nat × Nat} {mM : zM} {m : zM} {k i : Nat} (hI : zI c mM m) (h : zTp k) : -9223372036854775808 ≤ m (k + 2) i ∧ m (k + 2) i ≤ 9223372036854775807 := by
  have h1 := hI.1 (k + 2) i
  have hl : -9223372036854775808 ≤ zlo (k + 2) i ∧ zhi (k + 2) i ≤ 9223372036854775807 := by
    rcases h with h | h | h | h
    · subst h
      have e1 : zlo (107 + 2) i = (bif Nat.beq i 1001 then (0 : Int) else (-9223372036854775808)) := rfl
      have e2 : zhi (107 + 2) i = (bif Nat.beq i 1001 then (240 : Int) else 9223372036854775807) := rfl
      rw [e1, e2]
      cases Nat.beq i 1001 <;> decide
    · subst h
      have e1 : zlo (111 + 2) i = (bif Nat.beq i 1001 then (0 : Int) else (-9223372036854775808)) := rfl
      have e2 : zhi (111 + 2) i = (bif Nat.beq i 1001 then (240 : Int) else 9223372036854775807) := rfl
      rw [e1, e2]
      cases Nat.beq i 1001 <;> decide
    · subst h
      have e1 : zlo (115 + 2) i = (bif Nat.beq i 1001 then (0 : Int) else (-9223372036854775808)) := rfl
      have e2 : zhi (115 + 2) i = (bif Nat.beq i 1001 then (240 : Int) else 9223372036854775807) := rfl
      rw [e1, e2]
      cases Nat.beq i 1001 <;> decide
    · subst h
      have e1 : zlo (119 + 2) i = (bif Nat.beq i 1001 then (0 : Int) else (-9223372036854775808)) := rfl
      have e2 : zhi (119 + 2) i = (bif Nat.beq i 1001 then (240 : Int) else 9223372036854775807) := rfl
      rw [e1, e2]
      cases Nat.beq i 1001 <;> decide
  omega
theorem zT_int {c : Nat × Nat} {mM : zM} {m : zM} {k i : Nat} (hI : zI c mM m) (h : zTp k) (d : Nat) (hd : d = 0 ∨ d = 1) : -2147483648 ≤ m (k + d) i ∧ m (k + d) i ≤ 2147483647 := by
  have h1 := hI.1 (k + d) i
  have hl : -2147483648 ≤ zlo (k + d) i ∧ zhi (k + d) i ≤ 2147483647 := by
    rcases hd with hd | hd
    · subst hd
      rcases h with h | h | h | h
      · subst h
        have e1 : zlo (107 + 0) i = (bif Nat.beq i 1001 then (0 : Int) else (-2147483648)) := rfl
        have e2 : zhi (107 + 0) i = (bif Nat.beq i 1001 then (240 : Int) else 2147483647) := rfl
        rw [e1, e2]
        cases Nat.beq i 1001 <;> decide
      · subst h
        have e1 : zlo (111 + 0) i = (bif Nat.beq i 1001 then (0 : Int) else (-2147483648)) := rfl
        have e2 : zhi (111 + 0) i = (bif Nat.beq i 1001 then (240 : Int) else 2147483647) := rfl
        rw [e1, e2]
        cases Nat.beq i 1001 <;> decide
      · subst h
        have e1 : zlo (115 + 0) i = (bif Nat.beq i 1001 then (0 : Int) else (-2147483648)) := rfl
        have e2 : zhi (115 + 0) i = (bif Nat.beq i 1001 then (240 : Int) else 2147483647) := rfl
        rw [e1, e2]
        cases Nat.beq i 1001 <;> decide
      · subst h
        have e1 : zlo (119 + 0) i = (bif Nat.beq i 1001 then (0 : Int) else (-2147483648)) := rfl
        have e2 : zhi (119 + 0) i = (bif Nat.beq i 1001 then (240 : Int) else 2147483647) := rfl
        rw [e1, e2]
        cases Nat.beq i 1001 <;> decide
    · subst hd
      rcases h with h | h | h | h
      · subst h
        have e1 : zlo (107 + 1) i = (bif Nat.beq i 1001 then (0 : Int) else (-2147483648)) := rfl
        have e2 : zhi (107 + 1) i = (bif Nat.beq i 1001 then (240 : Int) else 2147483647) := rfl
        rw [e1, e2]
        cases Nat.beq i 1001 <;> decide
      · subst h
        have e1 : zlo (111 + 1) i = (bif Nat.beq i 1001 then (0 : Int) else (-2147483648)) := rfl
        have e2 : zhi (111 + 1) i = (bif Nat.beq i 1001 then (240 : Int) else 2147483647) := rfl
        rw [e1, e2]
        cases Nat.beq i 1001 <;> decide
      · subst h
        have e1 : zlo (115 + 1) i = (bif Nat.beq i 1001 then (0 : Int) else (-2147483648)) := rfl
        have e2 : zhi (115 + 1) i = (bif Nat.beq i 1001 then (240 : Int) else 2147483647) := rfl
        rw [e1, e2]
        cases Nat.beq i 1001 <;> decide
      · subst h
        have e1 : zlo (119 + 1) i = (bif Nat.beq i 1001 then (0 : Int) else (-2147483648)) := rfl
        have e2 : zhi (119 + 1) i = (bif Nat.beq i 1001 then (240 : Int) else 2147483647) := rfl
        rw [e1, e2]
        cases Nat.beq i 1001 <;> decide
  omega
theorem zT_code {c : Nat × Nat} {mM : zM} {m : zM} {k i : Nat} (hI : zI c mM m) (h : zTp k) : 0 ≤ m (k + 3) i ∧ m (k + 3) i ≤ 2147483647 := by
  have h1 := hI.1 (k + 3) i
  have hl : 0 ≤ zlo (k + 3) i ∧ zhi (k + 3) i ≤ 2147483647 := by
    rcases h with h | h | h | h
    · subst h
      have e1 : zlo (107 + 3) i = (bif Nat.beq i 1001 then (0 : Int) else (0)) := rfl
      have e2 : zhi (107 + 3) i = (bif Nat.beq i 1001 then (240 : Int) else 2147483647) := rfl
      rw [e1, e2]
      cases Nat.beq i 1001 <;> decide
    · subst h
      have e1 : zlo (111 + 3) i = (bif Nat.beq i 1001 then (0 : Int) else (0)) := rfl
      have e2 : zhi (111 + 3) i = (bif Nat.beq i 1001 then (240 : Int) else 2147483647) := rfl
      rw [e1, e2]
      cases Nat.beq i 1001 <;> decide
    · subst h
      have e1 : zlo (115 + 3) i = (bif Nat.beq i 1001 then (0 : Int) else (0)) := rfl
      have e2 : zhi (115 + 3) i = (bif Nat.beq i 1001 then (240 : Int) else 2147483647) := rfl
      rw [e1, e2]
      cases Nat.beq i 1001 <;> decide
    · subst h
      have e1 : zlo (119 + 3) i = (bif Nat.beq i 1001 then (0 : Int) else (0)) := rfl
      have e2 : zhi (119 + 3) i = (bif Nat.beq i 1001 then (240 : Int) else 2147483647) := rfl
      rw [e1, e2]
      cases Nat.beq i 1001 <;> decide
  omega
theorem zT_len {c : Nat × Nat} {mM : zM} {m : zM} {k : Nat} (hI : zI c mM m) (h : zTp k) : 0 ≤ m (k + 3) 1001 ∧ m (k + 3) 1001 ≤ 240 := by
  have h1 := hI.1 (k + 3) 1001
  rcases h with h | h | h | h <;> (subst h; exact h1)
theorem zTw_stk {k i : Nat} {v : Int} (h : zTp k) (hi : i ≠ 1001) (hv : -9223372036854775808 ≤ v ∧ v ≤ 9223372036854775807) : zlo (k + 2) i ≤ v ∧ v ≤ zhi (k + 2) i := by
  have e := z_bqf hi
  rcases h with h | h | h | h
  · subst h
    have e1 : zlo (107 + 2) i = (bif Nat.beq i 1001 then (0 : Int) else (-9223372036854775808)) := rfl
    have e2 : zhi (107 + 2) i = (bif Nat.beq i 1001 then (240 : Int) else 9223372036854775807) := rfl
    rw [e1, e2]
    rw [e]; exact hv
  · subst h
    have e1 : zlo (111 + 2) i = (bif Nat.beq i 1001 then (0 : Int) else (-9223372036854775808)) := rfl
    have e2 : zhi (111 + 2) i = (bif Nat.beq i 1001 then (240 : Int) else 9223372036854775807) := rfl
    rw [e1, e2]
    rw [e]; exact hv
  · subst h
    have e1 : zlo (115 + 2) i = (bif Nat.beq i 1001 then (0 : Int) else (-9223372036854775808)) := rfl
    have e2 : zhi (115 + 2) i = (bif Nat.beq i 1001 then (240 : Int) else 9223372036854775807) := rfl
    rw [e1, e2]
    rw [e]; exact hv
  · subst h
    have e1 : zlo (119 + 2) i = (bif Nat.beq i 1001 then (0 : Int) else (-9223372036854775808)) := rfl
    have e2 : zhi (119 + 2) i = (bif Nat.beq i 1001 then (240 : Int) else 9223372036854775807) := rfl
    rw [e1, e2]
    rw [e]; exact hv
theorem zTw_int {k i : Nat} {v : Int} (h : zTp k) (hi : i ≠ 1001) (hv : -2147483648 ≤ v ∧ v ≤ 2147483647) : zlo (k + 1) i ≤ v ∧ v ≤ zhi (k + 1) i := by
  have e := z_bqf hi
  rcases h with h | h | h | h
  · subst h
    have e1 : zlo (107 + 1) i = (bif Nat.beq i 1001 then (0 : Int) else (-2147483648)) := rfl
    have e2 : zhi (107 + 1) i = (bif Nat.beq i 1001 then (240 : Int) else 2147483647) := rfl
    rw [e1, e2]
    rw [e]; exact hv
  · subst h
    have e1 : zlo (111 + 1) i = (bif Nat.beq i 1001 then (0 : Int) else (-2147483648)) := rfl
    have e2 : zhi (111 + 1) i = (bif Nat.beq i 1001 then (240 : Int) else 2147483647) := rfl
    rw [e1, e2]
    rw [e]; exact hv
  · subst h
    have e1 : zlo (115 + 1) i = (bif Nat.beq i 1001 then (0 : Int) else (-2147483648)) := rfl
    have e2 : zhi (115 + 1) i = (bif Nat.beq i 1001 then (240 : Int) else 2147483647) := rfl
    rw [e1, e2]
    rw [e]; exact hv
  · subst h
    have e1 : zlo (119 + 1) i = (bif Nat.beq i 1001 then (0 : Int) else (-2147483648)) := rfl
    have e2 : zhi (119 + 1) i = (bif Nat.beq i 1001 then (240 : Int) else 2147483647) := rfl
    rw [e1, e2]
    rw [e]; exact hv
/-- rows that last; rows at all -/
def zQ (p : Nat) : Prop := p = 8 ∨ p = 17 ∨ (25 ≤ p ∧ p ≤ 64) ∨ p = 67
def zRow (p : Nat) : Prop := p = 8 ∨ p = 17 ∨ (25 ≤ p ∧ p ≤ 64) ∨ p = 67 ∨ p = 70 ∨ p = 74 ∨ p = 76
/-- HOURs that stay: of all rows; of all that last but s; of s -/
def zN (m m1 : zM) : Prop := ∀ p, zRow p → m1 p 184 = m p 184
def zF (s : Nat) (m m1 : zM) : Prop := ∀ p, zQ p → p ≠ s → m1 p 184 = m p 184
def zG (s : Nat) (m m1 : zM) : Prop := m1 s 184 = m s 184
theorem zN_rf {m : zM} : zN m m := fun _ _ => rfl
theorem zF_rf {s : Nat} {m : zM} : zF s m m := fun _ _ _ => rfl
theorem zG_rf {s : Nat} {m : zM} : zG s m m := rfl
theorem zN_up {m M : zM} {p i : Nat} {v : Int} (h : zN m M) (q : ¬ zRow p ∨ i ≠ 184) : zN m (zm_up M p i v) := fun r hr => by
  rw [zm_ne (q.elim (fun w => Or.inl (fun e : r = p => w (by rw [← e]; exact hr))) (fun w => Or.inr (fun e => w e.symm)))]
  exact h r hr
theorem zF_up {s : Nat} {m M : zM} {p i : Nat} {v : Int} (h : zF s m M) (q : p = s ∨ ¬ zQ p ∨ i ≠ 184) : zF s m (zm_up M p i v) := fun r hr hs => by
  rw [zm_ne]
  · exact h r hr hs
  · rcases q with q | q | q
    · exact Or.inl (fun e => hs (e.trans q))
    · exact Or.inl (fun e : r = p => q (by rw [← e]; exact hr))
    · exact Or.inr (fun e => q e.symm)
theorem zG_up {s : Nat} {m M : zM} {p i : Nat} {v : Int} (h : zG s m M) (q : p ≠ s ∨ i ≠ 184) : zG s m (zm_up M p i v) := by
  unfold zG
  rw [zm_ne (q.elim (fun w => Or.inl (fun e => w e.symm)) (fun w => Or.inr (fun e => w e.symm)))]
  exact h
theorem zN_tr {a b c : zM} (h : zN a b) (h2 : zN b c) : zN a c := fun p hp => (h2 p hp).trans (h p hp)
theorem zQ_row {p : Nat} (h : zQ p) : zRow p := by unfold zQ at h; unfold zRow; omega
theorem zF_trN {s : Nat} {a b c : zM} (h : zF s a b) (h2 : zN b c) : zF s a c := fun p hp hs => (h2 p (zQ_row hp)).trans (h p hp hs)
theorem zG_trN {s : Nat} {a b c : zM} (h : zG s a b) (h2 : zN b c) (hs : zRow s) : zG s a c := (h2 s hs).trans h
theorem zF_tr {s s2 : Nat} {a b c : zM} (h : zF s a b) (h2 : zF s2 b c) (q : s2 = s ∨ ¬ zQ s2) : zF s a c := fun p hp hs => (h2 p hp (q.elim (fun e => by rw [e]; exact hs) (fun w (e : p = s2) => w (by rw [← e]; exact hp)))).trans (h p hp hs)
theorem zG_tr {s : Nat} {a b c : zM} (h : zG s a b) (h2 : zG s b c) : zG s a c := h2.trans h
theorem zG_c {s : Nat} {M M1 : zM} {x : Int} (h : zG s M M1) (e : M s 184 = x) : M1 s 184 = x := h.trans e
theorem zN_c {s : Nat} {M M1 : zM} {x : Int} (h : zN M M1) (hs : zRow s) (e : M s 184 = x) : M1 s 184 = x := (h s hs).trans e
theorem zN_fl {a b c : zM} {p : Nat} (h : zN a b) (h2 : ∀ q i, q ≠ p → c q i = b q i) (w : ¬ zRow p) : zN a c := fun r hr => (h2 r 184 (fun (e : r = p) => w (by rw [← e]; exact hr))).trans (h r hr)
theorem zF_fl {s : Nat} {a b c : zM} {p : Nat} (h : zF s a b) (h2 : ∀ q i, q ≠ p → c q i = b q i) (w : ¬ zQ p) : zF s a c := fun r hr hs => (h2 r 184 (fun (e : r = p) => w (by rw [← e]; exact hr))).trans (h r hr hs)
theorem zG_fl {s : Nat} {a b c : zM} {p : Nat} (h : zG s a b) (h2 : ∀ q i, q ≠ p → c q i = b q i) (w : p ≠ s) : zG s a c := (h2 s 184 (fun e => w e.symm)).trans h
/-- System.arraycopy from a place's first rows to another's -/
def zm_cp (m : zM) (a b k : Nat) : zM := fun p i => if p = a ∧ i < k then m b i else m p i
theorem zm_cp_ne {m : zM} {a b k p i : Nat} (h : p ≠ a ∨ k ≤ i) : zm_cp m a b k p i = m p i := by
  unfold zm_cp
  rw [if_neg (fun z => h.elim (fun w => w z.1) (fun w => absurd z.2 (Nat.not_lt.mpr w)))]
theorem zm_cp_eq {m : zM} {a b k i : Nat} (h : i < k) : zm_cp m a b k a i = m b i := by
  unfold zm_cp
  rw [if_pos ⟨rfl, h⟩]
theorem zk_acp (c : Nat × Nat) (m : zM) {a b n1 : Nat} {k : Int} {x y z : Int32} (ha : zA 0 a n1) (hx : x = Int32.ofInt 0) (hy : y = Int32.ofInt 0) (hz : z = Int32.ofInt k) (hk : zR k) :
    z_hup (zk c m) a (.inl (0, n1, .inl (va_cpy (fun j => Int32.ofInt (m b j)) (fun j => Int32.ofInt (m a j)) x.toNatClampNeg y.toNatClampNeg z.toNatClampNeg))) = zk c (zm_cp m a b k.toNat) := by
  have e0 : (Int32.ofInt 0).toNatClampNeg = 0 := by decide
  rw [hx, hy, e0, zi_nat hz hk]
  unfold z_hup zk
  dsimp only
  congr 2
  funext q
  unfold va_up
  by_cases h : q = a
  · subst h
    rw [if_pos rfl]
    show _ = zm_sh q (zm_cp m q b k.toNat q)
    rw [ha]
    congr 4
    funext j
    unfold va_cpy zm_cp
    by_cases hj : j < k.toNat
    · rw [if_pos ⟨Nat.zero_le _, by omega⟩, if_pos ⟨rfl, hj⟩]
      congr 2
      omega
    · rw [if_neg (fun w => hj (by omega)), if_neg (fun w => hj w.2)]
  · rw [if_neg h]
    show zm_sh q (m q) = zm_sh q (zm_cp m a b k.toNat q)
    congr 1
    funext j
    rw [zm_cp_ne (Or.inl h)]
theorem zI_cp {c : Nat × Nat} {mM : zM} {m : zM} {a b k : Nat} (h : zI c mM m) (hk : a ≠ 12 ∧ a ≠ 18 ∧ a ≠ 0 ∧ a ≠ 68 ∧ a < 79 ∧ a ≠ 2 ∧ a ≠ 1 ∧ a ≠ 75) (hb : ∀ i, i < k → zlo a i ≤ zlo b i ∧ zhi b i ≤ zhi a i) : zI c mM (zm_cp m a b k) := by
  refine ⟨fun p i => ?_, ?_⟩
  · by_cases q : p = a ∧ i < k
    · rw [q.1, zm_cp_eq q.2]
      have h1 := hb i q.2
      have h2 := h.1 b i
      omega
    · unfold zm_cp
      rw [if_neg q]
      exact h.1 p i
  · obtain ⟨h1, h2, h3, h4⟩ := h.2
    refine ⟨by rw [zm_cp_ne (Or.inl (fun e => hk.2.1 e.symm))]; exact h1, by rw [zm_cp_ne (Or.inl (fun e => hk.2.2.1 e.symm))]; exact h2, fun j hj => ?_, fun q j x => ?_⟩
    · rw [zm_cp_ne (Or.inl (fun e => hk.1 e.symm))]
      exact h3 j (by rw [zm_cp_ne (Or.inl (fun e => hk.2.2.1 e.symm))] at hj; exact hj)
    · rw [zm_cp_ne (Or.inl (by unfold zQk at x; omega))]; exact h4 q j x
theorem zS_cp {a b : Nat} (ha : zS a) (hb : zS b) (i : Nat) : zlo a i ≤ zlo b i ∧ zhi b i ≤ zhi a i := by
  rw [(ha.2 i).1, (ha.2 i).2, (hb.2 i).1, (hb.2 i).2]
  exact ⟨Int.le_refl _, Int.le_refl _⟩
theorem zk_tasl {c : Nat × Nat} {mM : zM} {m : zM} (hI : zI c mM m) {x : Int32} {a : Int} (hx : x = Int32.ofInt a) (ra : zR a) (h : 0 ≤ a ∧ a < m 0 13) {T : Nat} (hT : T = 107 + 4 * a.toNat) : zm_ro (m 12 x.toNatClampNeg) = some T := by
  rw [zi_nat hx ra, hI.2.2.2.1 a.toNat (by omega)]
  unfold zm_ro
  rw [if_neg (by omega)]
  congr 1
  omega
theorem zI_tas {c : Nat × Nat} {mM : zM} {m : zM} {v : Int} (h : zI c mM m) (hv : v = 0 ∨ ((v = 107 ∨ v = 111 ∨ v = 115 ∨ v = 119) ∧ v + 4 ≤ (c.1 : Int))) : zI c mM (zm_up m 18 1 v) := by
  refine ⟨fun p i => ?_, ?_⟩
  · unfold zm_up
    by_cases q : p = 18 ∧ i = 1
    · rw [if_pos q, q.1, q.2]
      have e1 : zlo 18 1 = -2147483648 := rfl
      have e2 : zhi 18 1 = 2147483647 := rfl
      omega
    · rw [if_neg q]; exact h.1 p i
  · obtain ⟨h1, h2, h3, h4⟩ := h.2
    refine ⟨by rw [zm_eq]; exact hv, by rw [zm_ne (by omega)]; exact h2, fun j hj => ?_, fun q j x => ?_⟩
    · rw [zm_ne (by omega)]
      exact h3 j (by rw [zm_ne (by omega)] at hj; exact hj)
    · rw [zm_ne (by unfold zQk at x; omega)]; exact h4 q j x
/-- what is copied comes out of a static array -/
def zm_cs (m : zM) (a K k : Nat) : zM := fun p i => if p = a ∧ i < k then zst9 K i else m p i
theorem zm_cs_ne {m : zM} {a K k p i : Nat} (h : p ≠ a ∨ k ≤ i) : zm_cs m a K k p i = m p i := by
  unfold zm_cs
  rw [if_neg (fun z => h.elim (fun w => w z.1) (fun w => by omega))]
theorem zk_acs (c : Nat × Nat) (m : zM) {a K n1 : Nat} {k : Int} {x y z : Int32} (ha : zA 0 a n1) (hx : x = Int32.ofInt 0) (hy : y = Int32.ofInt 0) (hz : z = Int32.ofInt k) (hk : zR k) :
    z_hup (zk c m) a (.inl (0, n1, .inl (va_cpy (fun j => (z_sta.getD K []).getD j 0) (fun j => Int32.ofInt (m a j)) x.toNatClampNeg y.toNatClampNeg z.toNatClampNeg))) = zk c (zm_cs m a K k.toNat) := by
  have e0 : (Int32.ofInt 0).toNatClampNeg = 0 := by decide
  rw [hx, hy, e0, zi_nat hz hk]
  unfold z_hup zk
  dsimp only
  congr 2
  funext q
  unfold va_up
  by_cases h : q = a
  · subst h
    rw [if_pos rfl]
    show _ = zm_sh q (zm_cs m q K k.toNat q)
    rw [ha]
    congr 4
    funext j
    unfold va_cpy zm_cs
    by_cases hj : j < k.toNat
    · rw [if_pos ⟨Nat.zero_le _, by omega⟩, if_pos ⟨rfl, hj⟩, zst9, Int32.ofInt_toInt]
      congr 1
      omega
    · rw [if_neg (fun w => hj (by omega)), if_neg (fun w => hj w.2)]
  · rw [if_neg h]
    show zm_sh q (m q) = zm_sh q (zm_cs m a K k.toNat q)
    congr 1
    funext j
    rw [zm_cs_ne (Or.inl h)]
theorem zI_cs {c : Nat × Nat} {mM : zM} {m : zM} {a K k : Nat} (h : zI c mM m) (hk : a ≠ 12 ∧ a ≠ 18 ∧ a ≠ 0 ∧ a ≠ 68 ∧ a < 79 ∧ a ≠ 2 ∧ a ≠ 1 ∧ a ≠ 75) (hb : ∀ i, i < k → zlo a i ≤ zst9 K i ∧ zst9 K i ≤ zhi a i) : zI c mM (zm_cs m a K k) := by
  refine ⟨fun p i => ?_, ?_⟩
  · unfold zm_cs
    by_cases q : p = a ∧ i < k
    · rw [if_pos q, q.1]; exact hb i q.2
    · rw [if_neg q]; exact h.1 p i
  · obtain ⟨h1, h2, h3, h4⟩ := h.2
    refine ⟨by rw [zm_cs_ne (Or.inl (fun e => hk.2.1 e.symm))]; exact h1, by rw [zm_cs_ne (Or.inl (fun e => hk.2.2.1 e.symm))]; exact h2, fun j hj => ?_, fun q j x => ?_⟩
    · rw [zm_cs_ne (Or.inl (fun e => hk.1 e.symm))]
      exact h3 j (by rw [zm_cs_ne (Or.inl (fun e => hk.2.2.1 e.symm))] at hj; exact hj)
    · rw [zm_cs_ne (Or.inl (by unfold zQk at x; omega))]; exact h4 q j x
theorem zN_cs {a K k : Nat} {m M : zM} (h : zN m M) (q : ¬ zRow a) : zN m (zm_cs M a K k) := fun r hr => by
  rw [zm_cs_ne (Or.inl (fun e : r = a => q (by rw [← e]; exact hr)))]
  exact h r hr
theorem zF_cp {s a b k : Nat} {m M : zM} (h : zF s m M) (q : a = s ∨ ¬ zQ a ∨ k ≤ 184) : zF s m (zm_cp M a b k) := fun r hr hs => by
  rw [zm_cp_ne]
  · exact h r hr hs
  · rcases q with q | q | q
    · exact Or.inl (fun e => hs (e.trans q))
    · exact Or.inl (fun e : r = a => q (by rw [← e]; exact hr))
    · exact Or.inr q
theorem zN_cp {a b k : Nat} {m M : zM} (h : zN m M) (q : ¬ zRow a ∨ k ≤ 184) : zN m (zm_cp M a b k) := fun r hr => by
  rw [zm_cp_ne (q.elim (fun w => Or.inl (fun e : r = a => w (by rw [← e]; exact hr))) Or.inr)]
  exact h r hr
theorem zG_cp {s a b k : Nat} {m M : zM} (h : zG s m M) (q : a ≠ s ∨ k ≤ 184) : zG s m (zm_cp M a b k) := by
  unfold zG
  rw [zm_cp_ne (q.elim (fun w => Or.inl (fun e => w e.symm)) Or.inr)]
  exact h
/-- the HOURs of all rows that last are at most t -/
def zH (t : Int) (m : zM) : Prop := ∀ p, zQ p → m p 184 ≤ t
theorem zH_up {t : Int} {m : zM} {p i : Nat} {v : Int} (h : zH t m) (q : ¬ zQ p ∨ i ≠ 184 ∨ v ≤ t) : zH t (zm_up m p i v) := fun r hr => by
  unfold zm_up
  split
  · next w =>
    rcases q with q | q | q
    · exact absurd (by rw [← w.1]; exact hr) q
    · exact absurd w.2.symm q
    · exact q
  · exact h r hr
theorem zH_cp {t : Int} {m : zM} {a b k : Nat} (h : zH t m) (q : ¬ zQ a ∨ k ≤ 184 ∨ m b 184 ≤ t) : zH t (zm_cp m a b k) := fun r hr => by
  unfold zm_cp
  split
  · next w =>
    rcases q with q | q | q
    · exact absurd (by rw [← w.1]; exact hr) q
    · exact absurd w.2 (Nat.not_lt.mpr q)
    · exact q
  · exact h r hr
theorem zH_N {t : Int} {m m1 : zM} (h : zH t m) (h2 : zN m m1) : zH t m1 := fun p hp => by rw [h2 p (zQ_row hp)]; exact h p hp
theorem zH_F {t : Int} {s : Nat} {m m1 : zM} (h : zH t m) (h2 : zF s m m1) (h3 : ¬ zQ s ∨ m1 s 184 ≤ t) : zH t m1 := fun p hp => by
  by_cases e : p = s
  · rcases h3 with q | q
    · exact absurd (by rw [← e]; exact hp) q
    · rw [e]; exact q
  · rw [h2 p hp e]; exact h p hp
theorem zH_fl {t : Int} {m m1 : zM} {p n : Nat} {v : Int} (h : zH t m) (h2 : ∀ q i, q ≠ p → m1 q i = m q i) (h3 : ∀ i, i < n → m1 p i = v) (w : ¬ zQ p ∨ (184 < n ∧ v ≤ t)) : zH t m1 := fun r hr => by
  by_cases e : r = p
  · rcases w with w | w
    · exact absurd (e ▸ hr) w
    · rw [e, h3 184 w.1]; exact w.2
  · rw [h2 r 184 e]; exact h r hr
theorem zH_le {t t1 : Int} {m : zM} (h : zH t m) (hl : t ≤ t1) : zH t1 m := fun p hp => Int.le_trans (h p hp) hl
theorem zS_w {w : Nat} (h : 25 ≤ w ∧ w ≤ 64) : zS w := by
  have h1 : w = 25 ∨ w = 26 ∨ w = 27 ∨ w = 28 ∨ w = 29 ∨ w = 30 ∨ w = 31 ∨ w = 32 ∨ w = 33 ∨ w = 34 ∨ w = 35 ∨ w = 36 ∨ w = 37 ∨ w = 38 ∨ w = 39 ∨ w = 40 ∨ w = 41 ∨ w = 42 ∨ w = 43 ∨ w = 44 ∨ w = 45 ∨ w = 46 ∨ w = 47 ∨ w = 48 ∨ w = 49 ∨ w = 50 ∨ w = 51 ∨ w = 52 ∨ w = 53 ∨ w = 54 ∨ w = 55 ∨ w = 56 ∨ w = 57 ∨ w = 58 ∨ w = 59 ∨ w = 60 ∨ w = 61 ∨ w = 62 ∨ w = 63 ∨ w = 64 := by omega
  rcases h1 with h1 | h1 | h1 | h1 | h1 | h1 | h1 | h1 | h1 | h1 | h1 | h1 | h1 | h1 | h1 | h1 | h1 | h1 | h1 | h1 | h1 | h1 | h1 | h1 | h1 | h1 | h1 | h1 | h1 | h1 | h1 | h1 | h1 | h1 | h1 | h1 | h1 | h1 | h1 | h1
  · subst h1; exact zS_25
  · subst h1; exact zS_26
  · subst h1; exact zS_27
  · subst h1; exact zS_28
  · subst h1; exact zS_29
  · subst h1; exact zS_30
  · subst h1; exact zS_31
  · subst h1; exact zS_32
  · subst h1; exact zS_33
  · subst h1; exact zS_34
  · subst h1; exact zS_35
  · subst h1; exact zS_36
  · subst h1; exact zS_37
  · subst h1; exact zS_38
  · subst h1; exact zS_39
  · subst h1; exact zS_40
  · subst h1; exact zS_41
  · subst h1; exact zS_42
  · subst h1; exact zS_43
  · subst h1; exact zS_44
  · subst h1; exact zS_45
  · subst h1; exact zS_46
  · subst h1; exact zS_47
  · subst h1; exact zS_48
  · subst h1; exact zS_49
  · subst h1; exact zS_50
  · subst h1; exact zS_51
  · subst h1; exact zS_52
  · subst h1; exact zS_53
  · subst h1; exact zS_54
  · subst h1; exact zS_55
  · subst h1; exact zS_56
  · subst h1; exact zS_57
  · subst h1; exact zS_58
  · subst h1; exact zS_59
  · subst h1; exact zS_60
  · subst h1; exact zS_61
  · subst h1; exact zS_62
  · subst h1; exact zS_63
  · subst h1; exact zS_64
theorem zk_row {x : Int32} {a : Int} {w : Nat} (hx : x = Int32.ofInt a) (h : 0 ≤ a ∧ a < 40) (hw : w = 25 + a.toNat) : (fun j => if j < 40 then some (25 + j) else none) x.toNatClampNeg = some w := by
  have e := zi_nat hx (show zR a by unfold zR; omega)
  show (if x.toNatClampNeg < 40 then some (25 + x.toNatClampNeg) else none) = some w
  rw [e, if_pos (by omega), hw]
/-! THE MODEL'S PLACES (79 to 105): what holds of them -/
theorem zgd9 (l : List Int) (i : Nat) (d : Int) (h : l.length ≤ i) : l.getD i d = d := by
  rw [List.getD_eq_getElem?_getD, List.getElem?_eq_none h]; rfl
def zV (s : Nat) : Prop := zA 0 s 178 ∧ ∀ i, zlo s i = zql i ∧ zhi s i = zqh i
theorem zq_c : ∀ c : Fin 10, (zql (15 * c.val + 1) = 0 ∧ zqh (15 * c.val + 1) = 2147483647) ∧ (zql (15 * c.val + 5) = 0 ∧ zqh (15 * c.val + 5) = 3) ∧ (zql (15 * c.val + 6) = -1 ∧ zqh (15 * c.val + 6) = 9) ∧ (zql (15 * c.val + 7) = 0 ∧ zqh (15 * c.val + 7) = 1) ∧ (zql (15 * c.val + 14) = -1 ∧ zqh (15 * c.val + 14) ≤ c.val ∧ (1 ≤ c.val → zqh (15 * c.val + 14) = c.val - 1) ∧ 0 ≤ zqh (15 * c.val + 14)) := by decide +kernel
theorem zq_c3 : ∀ c : Fin 10, zql (15 * c.val + 3) = 0 ∧ zqh (15 * c.val + 3) = 99 := by decide +kernel
theorem zq_p : ∀ c : Fin 6, (zql (150 + 4 * c.val + 2) = 0 ∧ zqh (150 + 4 * c.val + 2) = 4) ∧ (zql (150 + 4 * c.val + 3) = -1 ∧ zqh (150 + 4 * c.val + 3) = 4) := by decide +kernel
theorem zq_f : ∀ i : Fin 178, -2147483648 ≤ zql i.val ∧ zql i.val ≤ 0 ∧ 0 ≤ zqh i.val ∧ zqh i.val ≤ 2147483647 := by decide +kernel
theorem zq_all (i : Nat) : -2147483648 ≤ zql i ∧ zql i ≤ 0 ∧ 0 ≤ zqh i ∧ zqh i ≤ 2147483647 := by
  by_cases h : i < 178
  · exact zq_f ⟨i, h⟩
  · have e1 : zql i = -2147483648 := zgd9 zqL i _ (by have : zqL.length = 178 := rfl; omega)
    have e2 : zqh i = 2147483647 := zgd9 zqH i _ (by have : zqH.length = 178 := rfl; omega)
    rw [e1, e2]; decide
theorem zq_i : ∀ c : Fin 10, ∀ k : Fin 15, (k.val ≠ 1 ∧ k.val ≠ 3 ∧ k.val ≠ 5 ∧ k.val ≠ 6 ∧ k.val ≠ 7 ∧ k.val ≠ 14) → zql (15 * c.val + k.val) = -2147483648 ∧ zqh (15 * c.val + k.val) = 2147483647 := by decide +kernel
theorem zq_pi : ∀ c : Fin 6, ∀ k : Fin 2, zql (150 + 4 * c.val + k.val) = -2147483648 ∧ zqh (150 + 4 * c.val + k.val) = 2147483647 := by decide +kernel
theorem zv_i {m : zM} {s : Nat} (hI : zB m) (hs : zV s) (i : Nat) : -2147483648 ≤ m s i ∧ m s i ≤ 2147483647 := by
  have h1 := hI s i
  rw [(hs.2 i).1, (hs.2 i).2] at h1
  have h2 := zq_all i
  omega
theorem zv_k {m : zM} {s : Nat} (hI : zB m) (hs : zV s) {c : Int} (h : 0 ≤ c ∧ c ≤ 9) (k : Nat) {lo hi : Int} (hq : zql (15 * c.toNat + k) = lo ∧ zqh (15 * c.toNat + k) = hi) : lo ≤ m s (15 * c + (k : Int)).toNat ∧ m s (15 * c + (k : Int)).toNat ≤ hi := by
  have e : (15 * c + (k : Int)).toNat = 15 * c.toNat + k := by omega
  have h1 := hI s (15 * c.toNat + k)
  rw [(hs.2 _).1, (hs.2 _).2, hq.1, hq.2] at h1
  rw [e]; exact h1
theorem zv_1 {m : zM} {s : Nat} (hI : zB m) (hs : zV s) {c : Int} (h : 0 ≤ c ∧ c ≤ 9) : 0 ≤ m s (15 * c + 1).toNat ∧ m s (15 * c + 1).toNat ≤ 2147483647 := zv_k hI hs h 1 (zq_c ⟨c.toNat, by omega⟩).1
theorem zv_3 {m : zM} {s : Nat} (hI : zB m) (hs : zV s) {c : Int} (h : 0 ≤ c ∧ c ≤ 9) : 0 ≤ m s (15 * c + 3).toNat ∧ m s (15 * c + 3).toNat ≤ 99 := zv_k hI hs h 3 (zq_c3 ⟨c.toNat, by omega⟩)
theorem zv_5 {m : zM} {s : Nat} (hI : zB m) (hs : zV s) {c : Int} (h : 0 ≤ c ∧ c ≤ 9) : 0 ≤ m s (15 * c + 5).toNat ∧ m s (15 * c + 5).toNat ≤ 3 := zv_k hI hs h 5 (zq_c ⟨c.toNat, by omega⟩).2.1
theorem zv_6 {m : zM} {s : Nat} (hI : zB m) (hs : zV s) {c : Int} (h : 0 ≤ c ∧ c ≤ 9) : -1 ≤ m s (15 * c + 6).toNat ∧ m s (15 * c + 6).toNat ≤ 9 := zv_k hI hs h 6 (zq_c ⟨c.toNat, by omega⟩).2.2.1
theorem zv_7 {m : zM} {s : Nat} (hI : zB m) (hs : zV s) {c : Int} (h : 0 ≤ c ∧ c ≤ 9) : 0 ≤ m s (15 * c + 7).toNat ∧ m s (15 * c + 7).toNat ≤ 1 := zv_k hI hs h 7 (zq_c ⟨c.toNat, by omega⟩).2.2.2.1
theorem zv_14 {m : zM} {s : Nat} (hI : zB m) (hs : zV s) {c : Int} (h : 0 ≤ c ∧ c ≤ 9) : -1 ≤ m s (15 * c + 14).toNat ∧ m s (15 * c + 14).toNat ≤ c ∧ (1 ≤ c → m s (15 * c + 14).toNat ≤ c - 1) := by
  have q := (zq_c ⟨c.toNat, by omega⟩).2.2.2.2
  have h1 := zv_k hI hs h 14 ⟨q.1, rfl⟩
  have e : ((⟨c.toNat, by omega⟩ : Fin 10).val : Int) = c := by show ((c.toNat : Nat) : Int) = c; omega
  dsimp only at q
  have e3 : ((c.toNat : Nat) : Int) = c := by omega
  rw [e3] at q
  refine ⟨h1.1, Int.le_trans h1.2 q.2.1, fun h9 => Int.le_trans h1.2 (Int.le_of_eq (q.2.2.1 (by omega)))⟩
theorem zv_p {m : zM} {s : Nat} (hI : zB m) (hs : zV s) {c : Int} (h : 0 ≤ c ∧ c ≤ 5) (k : Nat) {lo hi : Int} (hq : zql (150 + 4 * c.toNat + k) = lo ∧ zqh (150 + 4 * c.toNat + k) = hi) : lo ≤ m s (150 + 4 * c + (k : Int)).toNat ∧ m s (150 + 4 * c + (k : Int)).toNat ≤ hi := by
  have e : (150 + 4 * c + (k : Int)).toNat = 150 + 4 * c.toNat + k := by omega
  have h1 := hI s (150 + 4 * c.toNat + k)
  rw [(hs.2 _).1, (hs.2 _).2, hq.1, hq.2] at h1
  rw [e]; exact h1
theorem zv_p2 {m : zM} {s : Nat} (hI : zB m) (hs : zV s) {c : Int} (h : 0 ≤ c ∧ c ≤ 5) : 0 ≤ m s (150 + 4 * c + 2).toNat ∧ m s (150 + 4 * c + 2).toNat ≤ 4 := zv_p hI hs h 2 (zq_p ⟨c.toNat, by omega⟩).1
theorem zv_p3 {m : zM} {s : Nat} (hI : zB m) (hs : zV s) {c : Int} (h : 0 ≤ c ∧ c ≤ 5) : -1 ≤ m s (150 + 4 * c + 3).toNat ∧ m s (150 + 4 * c + 3).toNat ≤ 4 := zv_p hI hs h 3 (zq_p ⟨c.toNat, by omega⟩).2
theorem zv_174 {m : zM} {s : Nat} (hI : zB m) (hs : zV s) : 0 ≤ m s 174 ∧ m s 174 ≤ 10 := by
  have h1 := hI s 174
  rw [(hs.2 174).1, (hs.2 174).2] at h1
  exact h1
theorem zv_175 {m : zM} {s : Nat} (hI : zB m) (hs : zV s) : 0 ≤ m s 175 ∧ m s 175 ≤ 1000000000 := by
  have h1 := hI s 175
  rw [(hs.2 175).1, (hs.2 175).2] at h1
  exact h1
theorem zvw_k {s : Nat} (hs : zV s) {v : Int} {c : Int} (k : Nat) (h : 0 ≤ c ∧ c ≤ 9) {lo hi : Int} (hq : zql (15 * c.toNat + k) = lo ∧ zqh (15 * c.toNat + k) = hi) (hv : lo ≤ v ∧ v ≤ hi) : zlo s (15 * c + (k : Int)).toNat ≤ v ∧ v ≤ zhi s (15 * c + (k : Int)).toNat := by
  have e : (15 * c + (k : Int)).toNat = 15 * c.toNat + k := by omega
  rw [e, (hs.2 _).1, (hs.2 _).2, hq.1, hq.2]; exact hv
theorem zvw_1 {s : Nat} (hs : zV s) {v : Int} {c : Int} (h : 0 ≤ c ∧ c ≤ 9) (hv : 0 ≤ v ∧ v ≤ 2147483647) : zlo s (15 * c + 1).toNat ≤ v ∧ v ≤ zhi s (15 * c + 1).toNat := zvw_k hs 1 h (zq_c ⟨c.toNat, by omega⟩).1 hv
theorem zvw_3 {s : Nat} (hs : zV s) {v : Int} {c : Int} (h : 0 ≤ c ∧ c ≤ 9) (hv : 0 ≤ v ∧ v ≤ 99) : zlo s (15 * c + 3).toNat ≤ v ∧ v ≤ zhi s (15 * c + 3).toNat := zvw_k hs 3 h (zq_c3 ⟨c.toNat, by omega⟩) hv
theorem zvw_5 {s : Nat} (hs : zV s) {v : Int} {c : Int} (h : 0 ≤ c ∧ c ≤ 9) (hv : 0 ≤ v ∧ v ≤ 3) : zlo s (15 * c + 5).toNat ≤ v ∧ v ≤ zhi s (15 * c + 5).toNat := zvw_k hs 5 h (zq_c ⟨c.toNat, by omega⟩).2.1 hv
theorem zvw_6 {s : Nat} (hs : zV s) {v : Int} {c : Int} (h : 0 ≤ c ∧ c ≤ 9) (hv : -1 ≤ v ∧ v ≤ 9) : zlo s (15 * c + 6).toNat ≤ v ∧ v ≤ zhi s (15 * c + 6).toNat := zvw_k hs 6 h (zq_c ⟨c.toNat, by omega⟩).2.2.1 hv
theorem zvw_7 {s : Nat} (hs : zV s) {v : Int} {c : Int} (h : 0 ≤ c ∧ c ≤ 9) (hv : 0 ≤ v ∧ v ≤ 1) : zlo s (15 * c + 7).toNat ≤ v ∧ v ≤ zhi s (15 * c + 7).toNat := zvw_k hs 7 h (zq_c ⟨c.toNat, by omega⟩).2.2.2.1 hv
theorem zvw_14 {s : Nat} (hs : zV s) {v : Int} {c : Int} (h : 1 ≤ c ∧ c ≤ 9) (hv : -1 ≤ v ∧ v ≤ c - 1) : zlo s (15 * c + 14).toNat ≤ v ∧ v ≤ zhi s (15 * c + 14).toNat := by
  have q := (zq_c ⟨c.toNat, by omega⟩).2.2.2.2
  dsimp only at q
  have e3 : ((c.toNat : Nat) : Int) = c := by omega
  rw [e3] at q
  exact zvw_k hs 14 (by omega) ⟨q.1, q.2.2.1 (by omega)⟩ hv
theorem zvw_14n {s : Nat} (hs : zV s) {v : Int} {c : Int} (h : 0 ≤ c ∧ c ≤ 9) (hv : v = -1 ∨ v = 0) : zlo s (15 * c + 14).toNat ≤ v ∧ v ≤ zhi s (15 * c + 14).toNat := by
  have q := (zq_c ⟨c.toNat, by omega⟩).2.2.2.2
  exact zvw_k hs 14 (by omega) ⟨q.1, rfl⟩ ⟨by omega, Int.le_trans (by omega) q.2.2.2⟩
/-- columns without bounds -/
theorem zvw_i {s : Nat} (hs : zV s) {v : Int} {c : Int} (k : Nat) (h : 0 ≤ c ∧ c ≤ 9) (hk : k < 15 ∧ k ≠ 1 ∧ k ≠ 3 ∧ k ≠ 5 ∧ k ≠ 6 ∧ k ≠ 7 ∧ k ≠ 14) (hv : -2147483648 ≤ v ∧ v ≤ 2147483647) : zlo s (15 * c + (k : Int)).toNat ≤ v ∧ v ≤ zhi s (15 * c + (k : Int)).toNat :=
  zvw_k hs k h (zq_i ⟨c.toNat, by omega⟩ ⟨k, hk.1⟩ hk.2) hv
theorem zvw_0 {s : Nat} (hs : zV s) {v : Int} {c : Int} (h : 0 ≤ c ∧ c ≤ 9) (hv : -2147483648 ≤ v ∧ v ≤ 2147483647) : zlo s (15 * c).toNat ≤ v ∧ v ≤ zhi s (15 * c).toNat := by
  have := zvw_i hs (v := v) (c := c) 0 h (by decide) hv
  rw [show (15 * c + ((0 : Nat) : Int)) = 15 * c by omega] at this
  exact this
theorem zvw_p {s : Nat} (hs : zV s) {v : Int} {c : Int} (h : 0 ≤ c ∧ c ≤ 5) (k : Nat) {lo hi : Int} (hq : zql (150 + 4 * c.toNat + k) = lo ∧ zqh (150 + 4 * c.toNat + k) = hi) (hv : lo ≤ v ∧ v ≤ hi) : zlo s (150 + 4 * c + (k : Int)).toNat ≤ v ∧ v ≤ zhi s (150 + 4 * c + (k : Int)).toNat := by
  have e : (150 + 4 * c + (k : Int)).toNat = 150 + 4 * c.toNat + k := by omega
  rw [e, (hs.2 _).1, (hs.2 _).2, hq.1, hq.2]; exact hv
theorem zvw_p1 {s : Nat} (hs : zV s) {v : Int} {c : Int} (h : 0 ≤ c ∧ c ≤ 5) (hv : -2147483648 ≤ v ∧ v ≤ 2147483647) : zlo s (150 + 4 * c + 1).toNat ≤ v ∧ v ≤ zhi s (150 + 4 * c + 1).toNat := zvw_p hs h 1 (zq_pi ⟨c.toNat, by omega⟩ 1) hv
theorem zvw_p2 {s : Nat} (hs : zV s) {v : Int} {c : Int} (h : 0 ≤ c ∧ c ≤ 5) (hv : 0 ≤ v ∧ v ≤ 4) : zlo s (150 + 4 * c + 2).toNat ≤ v ∧ v ≤ zhi s (150 + 4 * c + 2).toNat := zvw_p hs h 2 (zq_p ⟨c.toNat, by omega⟩).1 hv
theorem zvw_p3 {s : Nat} (hs : zV s) {v : Int} {c : Int} (h : 0 ≤ c ∧ c ≤ 5) (hv : -1 ≤ v ∧ v ≤ 4) : zlo s (150 + 4 * c + 3).toNat ≤ v ∧ v ≤ zhi s (150 + 4 * c + 3).toNat := zvw_p hs h 3 (zq_p ⟨c.toNat, by omega⟩).2 hv
theorem zvw_p0 {s : Nat} (hs : zV s) {v : Int} {c : Int} (h : 0 ≤ c ∧ c ≤ 5) (hv : -2147483648 ≤ v ∧ v ≤ 2147483647) : zlo s (150 + 4 * c).toNat ≤ v ∧ v ≤ zhi s (150 + 4 * c).toNat := by
  have := zvw_p hs h 0 (zq_pi ⟨c.toNat, by omega⟩ 0) hv
  rw [show (150 + 4 * c + ((0 : Nat) : Int)) = 150 + 4 * c by omega] at this
  exact this
theorem zvw_174 {s : Nat} (hs : zV s) {v : Int} (hv : 0 ≤ v ∧ v ≤ 10) : zlo s 174 ≤ v ∧ v ≤ zhi s 174 := by rw [(hs.2 174).1, (hs.2 174).2]; exact hv
theorem zvw_175 {s : Nat} (hs : zV s) {v : Int} (hv : 0 ≤ v ∧ v ≤ 1000000000) : zlo s 175 ≤ v ∧ v ≤ zhi s 175 := by rw [(hs.2 175).1, (hs.2 175).2]; exact hv
theorem zvw_176 {s : Nat} (hs : zV s) {v : Int} (hv : -2147483648 ≤ v ∧ v ≤ 2147483647) : zlo s 176 ≤ v ∧ v ≤ zhi s 176 := by rw [(hs.2 176).1, (hs.2 176).2]; exact hv
theorem zvw_177 {s : Nat} (hs : zV s) {v : Int} (hv : -2147483648 ≤ v ∧ v ≤ 2147483647) : zlo s 177 ≤ v ∧ v ≤ zhi s 177 := by rw [(hs.2 177).1, (hs.2 177).2]; exact hv
/-- a row is good up to the HOUR t -/
def zqP (r : Nat → Int) (t : Int) : Prop := r 175 ≤ t ∧ (r 174 = 0 ∨ r 14 = -1) ∧ ∀ c : Int, 0 ≤ c → c ≤ 9 → (0 ≤ r (15 * c + 2).toNat ∧ r (15 * c + 2).toNat ≤ 1073741824) ∧ (0 ≤ r (15 * c + 12).toNat ∧ r (15 * c + 12).toNat ≤ t) ∧ (r (15 * c + 7).toNat = 1 → 1 ≤ r (15 * c + 4).toNat)
def zsen (j : Nat) : Prop := j = 175 ∨ j = 174 ∨ j = 14 ∨ (j < 150 ∧ (j % 15 = 2 ∨ j % 15 = 12 ∨ j % 15 = 7 ∨ j % 15 = 4))
theorem zqP_eq {r r1 : Nat → Int} {t : Int} (h : zqP r t) (e : ∀ j, zsen j → r1 j = r j) : zqP r1 t := by
  obtain ⟨h1, h2, h3⟩ := h
  refine ⟨by rw [e 175 (by unfold zsen; omega)]; exact h1, by rw [e 174 (by unfold zsen; omega), e 14 (by unfold zsen; omega)]; exact h2, fun c c0 c9 => ?_⟩
  rw [e _ (show zsen (15 * c + 2).toNat by unfold zsen; omega), e _ (show zsen (15 * c + 12).toNat by unfold zsen; omega), e _ (show zsen (15 * c + 7).toNat by unfold zsen; omega), e _ (show zsen (15 * c + 4).toNat by unfold zsen; omega)]
  exact h3 c c0 c9
theorem zqP_le {r : Nat → Int} {t t1 : Int} (h : zqP r t) (hl : t ≤ t1) : zqP r t1 := by
  obtain ⟨h1, h2, h3⟩ := h
  refine ⟨by omega, h2, fun c c0 c9 => ?_⟩
  obtain ⟨a, b, d⟩ := h3 c c0 c9
  exact ⟨a, by omega, d⟩
def zcn (m : zM) : Nat → Int
  | 0 => 0
  | k + 1 => zcn m k + m 100 k
theorem zcn_eq {m m1 : zM} : ∀ n : Nat, (∀ k, k < n → m1 100 k = m 100 k) → zcn m1 n = zcn m n
  | 0, _ => rfl
  | n + 1, h => by
    show zcn m1 n + m1 100 n = zcn m n + m 100 n
    rw [zcn_eq n (fun k hk => h k (by omega)), h n (by omega)]
def zL (t : Int) (e : Nat) (m : zM) : Prop := (e = 92 ∨ e = 99 ∨ zqP (m 92) t) ∧ (e = 105 ∨ zqP (m 105) t) ∧ (e = 98 ∨ e = 99 ∨ ((∀ k : Nat, k < 40 → zqP (fun j => m 98 (178 * k + j)) t) ∧ zcn m (m 79 48).toNat ≤ m 79 49 + (if e = 92 then 1 else 0)))
def zTB (m : zM) : Prop := (m 79 5 = 80 ∧ m 79 8 = 0) ∨ (m 79 5 = 81 ∧ m 79 8 ≤ 720)
def zJ (mC : zM) (t : Int) (e : Nat) (m : zM) : Prop := zB m ∧ (∀ p i, (p < 79 ∨ 105 < p ∨ p = 80 ∨ (p = 79 ∧ (i = 34 ∨ i = 6 ∨ i = 7 ∨ i = 26 ∨ i = 53))) → m p i = mC p i) ∧ zTB m ∧ (m 79 27 = 0 ∨ 1 ≤ m 79 26) ∧ zL t e m
def zOj (e p i : Nat) : Prop := (79 ≤ p ∧ p ≠ 80) ∧ p ≤ 105 ∧ (p = 98 ∨ p = 100 ∨ (p = 79 ∧ (i = 48 ∨ i = 49)) → e = 98 ∨ e = 99) ∧ (p ≠ 105 ∨ e = 105) ∧ (p ≠ 79 ∨ (i ≠ 5 ∧ i ≠ 8 ∧ i ≠ 26 ∧ i ≠ 27 ∧ i ≠ 34 ∧ i ≠ 6 ∧ i ≠ 7 ∧ i ≠ 53)) ∧ (p ≠ 92 ∨ e = 92 ∨ e = 99 ∨ ¬ zsen i)
def zOjb (e p i : Nat) : Prop := (p = 98 ∨ p = 100 ∨ (p = 79 ∧ (i = 48 ∨ i = 49)) → e = 98 ∨ e = 99) ∧ (p ≠ 105 ∨ e = 105) ∧ (p ≠ 79 ∨ (i ≠ 5 ∧ i ≠ 8 ∧ i ≠ 26 ∧ i ≠ 27)) ∧ (p ≠ 92 ∨ e = 92 ∨ e = 99 ∨ ¬ zsen i)
theorem zB_up {m : zM} {p i : Nat} {v : Int} (h : zB m) (hv : zlo p i ≤ v ∧ v ≤ zhi p i) : zB (zm_up m p i v) := fun p1 i1 => by
  unfold zm_up
  by_cases q : p1 = p ∧ i1 = i
  · rw [if_pos q, q.1, q.2]; exact hv
  · rw [if_neg q]; exact h p1 i1
theorem zJ_upS {mC : zM} {t : Int} {e : Nat} {M m : zM} {p i : Nat} {v : Int} (h : zJ mC t e M) (hm : m = zm_up M p i v) (hk : zOjb e p i) (hv : zlo p i ≤ v ∧ v ≤ zhi p i) : zJ m t e m := by
  subst hm
  obtain ⟨h1, h2, h3, h4, h5, h6, h7⟩ := h
  obtain ⟨k3, k4, k6, k7⟩ := hk
  have n79 : ∀ j, (p ≠ 79 ∨ i ≠ j) → zm_up M p i v 79 j = M 79 j := fun j hj => zm_ne (by omega)
  refine ⟨zB_up h1 hv, fun q j hq => ?_, ?_, ?_, ?_, ?_, ?_⟩
  · rfl
  · unfold zTB; rw [n79 5 (by omega), n79 8 (by omega)]; exact h3
  · rw [n79 27 (by omega), n79 26 (by omega)]; exact h4
  · rcases h5 with q | q | q
    · exact Or.inl q
    · exact Or.inr (Or.inl q)
    · rcases k7 with w | w | w | w
      · exact Or.inr (Or.inr (zqP_eq q (fun j _ => zm_ne (by omega))))
      · exact Or.inl w
      · exact Or.inr (Or.inl w)
      · exact Or.inr (Or.inr (zqP_eq q (fun j hj => zm_ne (Or.inr (fun e9 => w (e9 ▸ hj))))))
  · rcases h6 with q | q
    · exact Or.inl q
    · rcases k4 with w | w
      · exact Or.inr (zqP_eq q (fun j _ => zm_ne (by omega)))
      · exact Or.inl w
  · rcases h7 with q | q | q
    · exact Or.inl q
    · exact Or.inr (Or.inl q)
    · by_cases w : e = 98 ∨ e = 99
      · exact w.imp id Or.inl
      · have w2 : ¬ (p = 98 ∨ p = 100 ∨ (p = 79 ∧ (i = 48 ∨ i = 49))) := fun z => w (k3 z)
        refine Or.inr (Or.inr ⟨fun k hk => zqP_eq (q.1 k hk) (fun j _ => zm_ne (by omega)), ?_⟩)
        rw [n79 48 (by omega), n79 49 (by omega), zcn_eq _ (fun k _ => zm_ne (by omega))]
        exact q.2
theorem zJ_upE {mC : zM} {t : Int} {e : Nat} {M m : zM} {p i : Nat} {v : Int} (h : zJ mC t e M) (hm : m = zm_up M p i v) (hk : zOj e p i) (hv : zlo p i ≤ v ∧ v ≤ zhi p i) : zJ mC t e m := by
  subst hm
  obtain ⟨h1, h2, h3, h4, h5, h6, h7⟩ := h
  obtain ⟨k1, k2, k3, k4, k6, k7⟩ := hk
  have n79 : ∀ j, (p ≠ 79 ∨ i ≠ j) → zm_up M p i v 79 j = M 79 j := fun j hj => zm_ne (by omega)
  refine ⟨zB_up h1 hv, fun q j hq => ?_, ?_, ?_, ?_, ?_, ?_⟩
  · rw [zm_ne (by omega)]; exact h2 q j hq
  · unfold zTB; rw [n79 5 (by omega), n79 8 (by omega)]; exact h3
  · rw [n79 27 (by omega), n79 26 (by omega)]; exact h4
  · rcases h5 with q | q | q
    · exact Or.inl q
    · exact Or.inr (Or.inl q)
    · rcases k7 with w | w | w | w
      · exact Or.inr (Or.inr (zqP_eq q (fun j _ => zm_ne (by omega))))
      · exact Or.inl w
      · exact Or.inr (Or.inl w)
      · exact Or.inr (Or.inr (zqP_eq q (fun j hj => zm_ne (Or.inr (fun e9 => w (e9 ▸ hj))))))
  · rcases h6 with q | q
    · exact Or.inl q
    · rcases k4 with w | w
      · exact Or.inr (zqP_eq q (fun j _ => zm_ne (by omega)))
      · exact Or.inl w
  · rcases h7 with q | q | q
    · exact Or.inl q
    · exact Or.inr (Or.inl q)
    · by_cases w : e = 98 ∨ e = 99
      · exact w.imp id Or.inl
      · have w2 : ¬ (p = 98 ∨ p = 100 ∨ (p = 79 ∧ (i = 48 ∨ i = 49))) := fun z => w (k3 z)
        refine Or.inr (Or.inr ⟨fun k hk => zqP_eq (q.1 k hk) (fun j _ => zm_ne (by omega)), ?_⟩)
        rw [n79 48 (by omega), n79 49 (by omega), zcn_eq _ (fun k _ => zm_ne (by omega))]
        exact q.2
theorem zJ_le {mC : zM} {t t1 : Int} {e : Nat} {m : zM} (h : zJ mC t e m) (hl : t ≤ t1) : zJ mC t1 e m := by
  obtain ⟨h1, h2, h3, h4, h5, h6, h7⟩ := h
  exact ⟨h1, h2, h3, h4, h5.imp id (Or.imp id (fun q => zqP_le q hl)), h6.imp id (fun q => zqP_le q hl), h7.imp id (Or.imp id (fun q => ⟨fun k hk => zqP_le (q.1 k hk) hl, q.2⟩))⟩
theorem zJ_now {mC : zM} {t : Int} {m : zM} (h : zJ mC t 0 m) : zqP (m 92) t := h.2.2.2.2.1.elim (fun q => absurd q (by decide)) (fun q => q.elim (fun q => absurd q (by decide)) id)
theorem zJ_img {mC : zM} {t : Int} {m : zM} (h : zJ mC t 0 m) : zqP (m 105) t := h.2.2.2.2.2.1.elim (fun q => absurd q (by decide)) id
theorem zJ_und {mC : zM} {t : Int} {m : zM} (h : zJ mC t 0 m) : (∀ k : Nat, k < 40 → zqP (fun j => m 98 (178 * k + j)) t) ∧ zcn m (m 79 48).toNat ≤ m 79 49 := by
  rcases h.2.2.2.2.2.2 with q | q | q
  · exact absurd q (by decide)
  · exact absurd q (by decide)
  · refine ⟨q.1, ?_⟩
    have := q.2
    rw [if_neg (by decide)] at this
    omega
theorem zJ_und92 {mC : zM} {t : Int} {m : zM} (h : zJ mC t 92 m) : (∀ k : Nat, k < 40 → zqP (fun j => m 98 (178 * k + j)) t) ∧ zcn m (m 79 48).toNat ≤ m 79 49 + 1 := by
  rcases h.2.2.2.2.2.2 with q | q | q
  · exact absurd q (by decide)
  · exact absurd q (by decide)
  · refine ⟨q.1, ?_⟩
    have := q.2
    rw [if_pos rfl] at this
    omega
/-- the parts together -/
theorem zJ_mk {mC : zM} {t : Int} {e e1 : Nat} {m : zM} (h : zJ mC t e m) (h92 : e1 = 92 ∨ e1 = 99 ∨ zqP (m 92) t) (h105 : e1 = 105 ∨ zqP (m 105) t) (hu : e1 = 98 ∨ e1 = 99 ∨ ((∀ k : Nat, k < 40 → zqP (fun j => m 98 (178 * k + j)) t) ∧ zcn m (m 79 48).toNat ≤ m 79 49 + (if e1 = 92 then 1 else 0))) : zJ mC t e1 m := ⟨h.1, h.2.1, h.2.2.1, h.2.2.2.1, h92, h105, hu⟩
theorem zJ_mk0 {mC : zM} {t : Int} {e : Nat} {m : zM} (h : zJ mC t e m) (h92 : zqP (m 92) t) (h105 : zqP (m 105) t) (hu : (∀ k : Nat, k < 40 → zqP (fun j => m 98 (178 * k + j)) t) ∧ zcn m (m 79 48).toNat ≤ m 79 49) : zJ mC t 0 m :=
  zJ_mk h (Or.inr (Or.inr h92)) (Or.inr h105) (Or.inr (Or.inr ⟨hu.1, by rw [if_neg (by decide)]; have := hu.2; omega⟩))
theorem zJ_out {mC : zM} {t : Int} {m : zM} (h : zJ mC t 0 m) : zJ mC t 92 m := zJ_mk h (Or.inl rfl) (Or.inr (zJ_img h)) (Or.inr (Or.inr ⟨(zJ_und h).1, by rw [if_pos rfl]; have := (zJ_und h).2; omega⟩))
theorem zJ_93 {mC : zM} {t : Int} {m : zM} (h : zJ mC t 0 m) : zJ mC t 93 m := zJ_mk h (Or.inr (Or.inr (zJ_now h))) (Or.inr (zJ_img h)) (Or.inr (Or.inr ⟨(zJ_und h).1, by rw [if_neg (by decide)]; have := (zJ_und h).2; omega⟩))
theorem zJ_105 {mC : zM} {t : Int} {m : zM} (h : zJ mC t 0 m) : zJ mC t 105 m := zJ_mk h (Or.inr (Or.inr (zJ_now h))) (Or.inl rfl) (Or.inr (Or.inr ⟨(zJ_und h).1, by rw [if_neg (by decide)]; have := (zJ_und h).2; omega⟩))
theorem zJ_98 {mC : zM} {t : Int} {m : zM} (h : zJ mC t 0 m) : zJ mC t 98 m := zJ_mk h (Or.inr (Or.inr (zJ_now h))) (Or.inr (zJ_img h)) (Or.inl rfl)
theorem zJ_99 {mC : zM} {t : Int} {m : zM} (h : zJ mC t 0 m) : zJ mC t 99 m := zJ_mk h (Or.inr (Or.inl rfl)) (Or.inr (zJ_img h)) (Or.inr (Or.inl rfl))
theorem zJ_39 {mC : zM} {t : Int} {m : zM} (h : zJ mC t 93 m) : zJ mC t 0 m := by
  obtain ⟨h1, h2, h3, h4, h5, h6, h7⟩ := h
  refine ⟨h1, h2, h3, h4, h5.imp (fun q => absurd q (by decide)) (Or.imp (fun q => absurd q (by decide)) id), h6.imp (fun q => absurd q (by decide)) id, ?_⟩
  rcases h7 with q | q | q
  · exact absurd q (by decide)
  · exact absurd q (by decide)
  · refine Or.inr (Or.inr ⟨q.1, ?_⟩)
    have := q.2
    rw [if_neg (by decide)] at this ⊢
    exact this
theorem zJ_tb {mC : zM} {t : Int} {e : Nat} {m : zM} (h : zJ mC t e m) : (m 79 5 = 80 ∧ m 79 8 = 0) ∨ (m 79 5 = 81 ∧ m 79 8 ≤ 720) := h.2.2.1
theorem zJ_rp {mC : zM} {t : Int} {e : Nat} {m : zM} (h : zJ mC t e m) : m 79 27 = 0 ∨ 1 ≤ m 79 26 := h.2.2.2.1
/-- the text that is read: the tape, or those that are learnt -/
theorem zA_tx {X n : Nat} (h : X = 80 ∧ n = 240 ∨ X = 81 ∧ n = 960) : zA 2 X n := by
  rcases h with ⟨h, q⟩ | ⟨h, q⟩ <;> (subst h; subst q; exact fun _ => rfl)
theorem zx_tx {m : zM} (h : zB m) : ∃ X n : Nat, m 79 5 = (X : Int) ∧ (X = 80 ∧ n = 240 ∨ X = 81 ∧ n = 960) ∧ zA 2 X n := by
  have h1 := h 79 5
  have e1 : zlo 79 5 = 80 := rfl
  have e2 : zhi 79 5 = 81 := rfl
  rcases (show m 79 5 = 80 ∨ m 79 5 = 81 by omega) with q | q
  · exact ⟨80, 240, q, Or.inl ⟨rfl, rfl⟩, zA_tx (Or.inl ⟨rfl, rfl⟩)⟩
  · exact ⟨81, 960, q, Or.inr ⟨rfl, rfl⟩, zA_tx (Or.inr ⟨rfl, rfl⟩)⟩
theorem zx_b {m : zM} (h : zB m) {X : Nat} (hx : X = 80 ∨ X = 81) (i : Nat) : -128 ≤ m X i ∧ m X i ≤ 127 := by
  have h1 := h X i
  rcases hx with q | q
  · subst q; exact h1
  · subst q; exact h1
def zch (m : zM) : Int := m (m 79 5).toNat (m 79 8 + m 79 10).toNat
theorem zch_eq {m : zM} {X : Nat} (h : m 79 5 = (X : Int)) : zch m = m X (m 79 8 + m 79 10).toNat := by
  unfold zch
  rw [h]; rfl
theorem zb_and255 (a : Int) : 0 ≤ a ∧ a ≤ 127 → zb_and a 255 = a := by
  intro h
  have h1 : ∀ k : Fin 128, zb_and (k.val : Int) 255 = (k.val : Int) := by decide +kernel
  have h2 := h1 ⟨a.toNat, by omega⟩
  have e : ((a.toNat : Nat) : Int) = a := by omega
  rw [show (((⟨a.toNat, by omega⟩ : Fin 128).val : Nat) : Int) = a from e] at h2
  exact h2
theorem zbt9_all : ∀ k : Fin 6, ∀ i : Fin 7, 0 ≤ zbt9 k i ∧ zbt9 k i ≤ 122 := by decide +kernel
theorem zbt9_c (k i : Nat) (hk : k < 6) (hi : i < 7) : 0 ≤ zbt9 k i ∧ zbt9 k i ≤ 122 := zbt9_all ⟨k, hk⟩ ⟨i, hi⟩
/-- what stays: rows, the table of clocks that is read, how many are read -/
def zYs (p i : Nat) : Prop := p = 86 ∨ (92 ≤ p ∧ p ≤ 95) ∨ (p = 79 ∧ (i = 7 ∨ (26 ≤ i ∧ i ≤ 30)))
def zY (m m1 : zM) : Prop := ∀ p i, zYs p i → m1 p i = m p i
def zV9 (m m1 : zM) : Prop := ∀ p i, ((92 ≤ p ∧ p ≤ 95) ∨ (p = 79 ∧ (i = 7 ∨ (26 ≤ i ∧ i ≤ 27)))) → m1 p i = m p i
def zU (m m1 : zM) : Prop := ∀ i, (28 ≤ i ∧ i ≤ 30) → m1 79 i = m 79 i
def zZ (s : Nat) (m m1 : zM) : Prop := (s ≠ 92 → ∀ i, m1 92 i = m 92 i) ∧ ∀ i, (26 ≤ i ∧ i ≤ 27) → m1 79 i = m 79 i
theorem zY_rf {m : zM} : zY m m := fun _ _ _ => rfl
theorem zV9_rf {m : zM} : zV9 m m := fun _ _ _ => rfl
theorem zU_rf {m : zM} : zU m m := fun _ _ => rfl
theorem zZ_rf {s : Nat} {m : zM} : zZ s m m := ⟨fun _ _ => rfl, fun _ _ => rfl⟩
theorem zY_up {m M : zM} {p i : Nat} {v : Int} (h : zY m M) (q : ¬ zYs p i) : zY m (zm_up M p i v) := fun r j hr => by
  rw [zm_ne (Classical.byContradiction fun w => q (by have w1 : r = p ∧ j = i := by omega
                                                      rw [← w1.1, ← w1.2]; exact hr))]
  exact h r j hr
theorem zV9_up {m M : zM} {p i : Nat} {v : Int} (h : zV9 m M) (q : ¬ ((92 ≤ p ∧ p ≤ 95) ∨ (p = 79 ∧ (i = 7 ∨ (26 ≤ i ∧ i ≤ 27))))) : zV9 m (zm_up M p i v) := fun r j hr => by
  rw [zm_ne (by omega)]; exact h r j hr
theorem zU_up {m M : zM} {p i : Nat} {v : Int} (h : zU m M) (q : ¬ (p = 79 ∧ 28 ≤ i ∧ i ≤ 30)) : zU m (zm_up M p i v) := fun j hr => by
  rw [zm_ne (by omega)]; exact h j hr
theorem zZ_up {s : Nat} {m M : zM} {p i : Nat} {v : Int} (h : zZ s m M) (q : (p ≠ 92 ∨ p = s) ∧ (p ≠ 79 ∨ i < 26 ∨ 27 < i)) : zZ s m (zm_up M p i v) :=
  ⟨fun hs j => by rw [zm_ne (Or.inl (by omega))]; exact h.1 hs j, fun j hj => by rw [zm_ne (by omega)]; exact h.2 j hj⟩
theorem zY_tr {a b c : zM} (h : zY a b) (h2 : zY b c) : zY a c := fun p i hp => (h2 p i hp).trans (h p i hp)
theorem zY_V {a b : zM} (h : zY a b) : zV9 a b := fun p i hp => h p i (by unfold zYs; omega)
theorem zY_U {a b : zM} (h : zY a b) : zU a b := fun i hp => h 79 i (by unfold zYs; omega)
theorem zV9_tr {a b c : zM} (h : zV9 a b) (h2 : zV9 b c) : zV9 a c := fun p i hp => (h2 p i hp).trans (h p i hp)
theorem zU_tr {a b c : zM} (h : zU a b) (h2 : zU b c) : zU a c := fun i hp => (h2 i hp).trans (h i hp)
theorem zZ_tr {s : Nat} {a b c : zM} (h : zZ s a b) (h2 : zZ s b c) : zZ s a c := ⟨fun hs i => (h2.1 hs i).trans (h.1 hs i), fun i hi => (h2.2 i hi).trans (h.2 i hi)⟩
theorem zZ_trV {s : Nat} {a b c : zM} (h : zZ s a b) (h2 : zV9 b c) : zZ s a c := ⟨fun hs i => (h2 92 i (by omega)).trans (h.1 hs i), fun i hi => (h2 79 i (by omega)).trans (h.2 i hi)⟩
/-- a row's good state as it goes on -/
theorem zP_up {t : Int} {m : zM} {s p i : Nat} {v : Int} (h : zqP (m s) t) (q : p ≠ s ∨ ¬ zsen i) : zqP (zm_up m p i v s) t := zqP_eq h (fun j hj => zm_ne (q.elim (fun w => Or.inl (fun e => w e.symm)) (fun w => Or.inr (fun e => w (e ▸ hj)))))
theorem zP_V {t : Int} {m m1 : zM} {s : Nat} (h : zqP (m s) t) (h2 : zV9 m m1) (hs : 92 ≤ s ∧ s ≤ 95) : zqP (m1 s) t := zqP_eq h (fun j _ => h2 s j (Or.inl hs))
theorem zqP_fs {r : Nat → Int} {t : Int} (h : zqP r t) {c : Int} (hc : 0 ≤ c ∧ c ≤ 9) : (0 ≤ r (15 * c + 2).toNat ∧ r (15 * c + 2).toNat ≤ 1073741824) ∧ (0 ≤ r (15 * c + 12).toNat ∧ r (15 * c + 12).toNat ≤ t) ∧ (r (15 * c + 7).toNat = 1 → 1 ≤ r (15 * c + 4).toNat) := h.2.2 c hc.1 hc.2

theorem zV_92 : zV 92 := ⟨zA_92, fun _ => ⟨rfl, rfl⟩⟩
theorem zV_93 : zV 93 := ⟨zA_93, fun _ => ⟨rfl, rfl⟩⟩
theorem zV_105 : zV 105 := ⟨zA_105, fun _ => ⟨rfl, rfl⟩⟩
theorem zv_14b {mC : zM} {t : Int} {m : zM} (h : zJ mC t 0 m) (h1 : 0 < m 92 174) {c : Int} (hc : 0 ≤ c ∧ c ≤ 9) : -1 ≤ m 92 (15 * c + 14).toNat ∧ m 92 (15 * c + 14).toNat ≤ c - 1 := by
  have q := zv_14 h.1 zV_92 hc
  have w := (zJ_now h).2.1
  refine ⟨q.1, ?_⟩
  by_cases e : c = 0
  · subst e
    rcases w with w | w
    · omega
    · show m 92 14 ≤ 0 - 1
      omega
  · exact q.2.2 (by omega)
theorem zmulf (a b : Int) : 1 ≤ a → 1 ≤ b ∧ b ≤ 10 → 1 ≤ a * b ∧ a * b ≤ 10 * a := by
  intro ha hb
  have h1 : a * b ≤ a * 10 := Int.mul_le_mul_of_nonneg_left hb.2 (by omega)
  have h2 : a * 1 ≤ a * b := Int.mul_le_mul_of_nonneg_left hb.1 (by omega)
  omega
/-- how many bytes of a number are put -/
def zbn (v k : Int) : Int := if zb_and (zb_shr v k) 255 = 0 then 0 else 1
def zbs (v k : Int) : Int := (if k < 24 then zbn v 24 else 0) + (if k < 16 then zbn v 16 else 0) + (if k < 8 then zbn v 8 else 0) + (if k < 0 then zbn v 0 else 0)
theorem zbn_b (v k : Int) : 0 ≤ zbn v k ∧ zbn v k ≤ 1 := by unfold zbn; split <;> decide
theorem zbs_b (v k : Int) : 0 ≤ zbs v k ∧ zbs v k ≤ 4 := by
  have h1 := zbn_b v 24
  have h2 := zbn_b v 16
  have h3 := zbn_b v 8
  have h4 := zbn_b v 0
  unfold zbs
  split <;> split <;> split <;> split <;> omega
theorem zbs_e (v k : Int) : k < 0 → zbs v k = zbs v (-8) := by
  intro h
  unfold zbs
  rw [if_pos (by omega), if_pos (by omega), if_pos (by omega), if_pos h, if_pos (by decide), if_pos (by decide), if_pos (by decide), if_pos (by decide)]
theorem zbs_0 (v : Int) : zbs v 24 = 0 := by
  unfold zbs
  rw [if_neg (by decide), if_neg (by decide), if_neg (by decide), if_neg (by decide)]
  decide
theorem zbs_m (v k : Int) : zbs v k ≤ zbs v (-8) := by
  have h1 := zbn_b v 24
  have h2 := zbn_b v 16
  have h3 := zbn_b v 8
  have h4 := zbn_b v 0
  have e : zbs v (-8) = zbn v 24 + zbn v 16 + zbn v 8 + zbn v 0 := by
    unfold zbs
    rw [if_pos (by decide), if_pos (by decide), if_pos (by decide), if_pos (by decide)]
  rw [e]
  unfold zbs
  split <;> split <;> split <;> split <;> omega
theorem zbs_s (v k : Int) (h : k = 24 ∨ k = 16 ∨ k = 8 ∨ k = 0) : zbs v (k - 8) = zbs v k + zbn v k := by
  rcases h with h | h | h | h <;> subst h
  · unfold zbs; rw [if_pos (by decide), if_neg (by decide), if_neg (by decide), if_neg (by decide), if_neg (by decide), if_neg (by decide), if_neg (by decide), if_neg (by decide)]; omega
  · unfold zbs; rw [if_pos (by decide), if_pos (by decide), if_neg (by decide), if_neg (by decide), if_pos (by decide), if_neg (by decide), if_neg (by decide), if_neg (by decide)]; omega
  · unfold zbs; rw [if_pos (by decide), if_pos (by decide), if_pos (by decide), if_neg (by decide), if_pos (by decide), if_pos (by decide), if_neg (by decide), if_neg (by decide)]; omega
  · unfold zbs; rw [if_pos (by decide), if_pos (by decide), if_pos (by decide), if_pos (by decide), if_pos (by decide), if_pos (by decide), if_pos (by decide), if_neg (by decide)]; omega
theorem zbs_f (v k : Int) (h : k = 24 ∨ k = 16 ∨ k = 8 ∨ k = 0) : (zb_and (zb_shr v k) 255 = 0 → zbs v (k - 8) = zbs v k) ∧ (zb_and (zb_shr v k) 255 ≠ 0 → zbs v (k - 8) = zbs v k + 1) ∧ zbs v (k - 8) ≤ zbs v (-8) := by
  have h1 := zbs_s v k h
  refine ⟨fun q => ?_, fun q => ?_, zbs_m v (k - 8)⟩
  · rw [h1]; unfold zbn; rw [if_pos q]; omega
  · rw [h1]; unfold zbn; rw [if_neg q]
/-- clocks that are read: STRIKE isn't 0 -/
def zK (m : zM) (n : Int) : Prop := ∀ c : Int, 0 ≤ c → c < n → 1 ≤ m 86 (7 * c + 4).toNat
def zK2 (m : zM) (n x : Int) : Prop := zK m n ∧ (x ≤ 4 ∨ 1 ≤ m 86 (7 * n + 4).toNat)
def zKp (m m1 : zM) (place least : Int) : Prop := ∀ j : Nat, m1 86 j = m 86 j ∨ (j = place.toNat ∧ least ≤ m1 86 j)
theorem zK_Y {m m1 : zM} {n : Int} (h : zK m n) (h2 : zY m m1) : zK m1 n := fun c h0 h1 => by rw [h2 86 _ (Or.inl rfl)]; exact h c h0 h1
theorem zK_up {M : zM} {n v : Int} {p i : Nat} (h : zK M n) (q : p ≠ 86) : zK (zm_up M p i v) n := fun c h0 h1 => by rw [zm_ne (Or.inl (fun e => q e.symm))]; exact h c h0 h1
theorem zK_cg {m : zM} {n n1 : Int} (h : zK m n) (e : n1 ≤ n) : zK m n1 := fun c h0 h1 => h c h0 (by omega)
theorem zK_0 {m : zM} {n : Int} (h : n ≤ 0) : zK m n := fun c h0 h1 => by omega
theorem zK2_0 {m : zM} {n : Int} (h : zK m n) : zK2 m n 0 := ⟨h, Or.inl (by decide)⟩
theorem zK2_s {m : zM} {n x : Int} (h : zK2 m n x) (hx : 4 < x) : zK m (n + 1) := fun c h0 h1 => by
  by_cases e : c = n
  · subst e; exact h.2.resolve_left (by omega)
  · exact h.1 c h0 (by omega)
theorem zK2_up {M m : zM} {n x v row : Int} (h : zK2 M n x) (hm : m = zm_up M 86 (row + x).toNat v) (hr : row = 7 * n) (h0 : 0 ≤ n ∧ 0 ≤ x) (hv : x = 4 → 1 ≤ v) : zK2 m n (x + 1) := by
  subst hm
  refine ⟨fun c c0 c1 => ?_, ?_⟩
  · rw [zm_ne (by omega)]; exact h.1 c c0 c1
  · by_cases e : x = 4
    · right
      rw [show (row + x).toNat = (7 * n + 4).toNat by omega, zm_eq]; exact hv e
    · rcases h.2 with q | q
      · left; omega
      · right; rw [zm_ne (by omega)]; exact q
theorem zK_p {m m1 : zM} {n place least : Int} (h : zK m n) (hp : zKp m m1 place least) (h0 : 0 ≤ place) (hc : ∀ c : Int, 0 ≤ c → c < n → place = 7 * c + 4 → 1 ≤ least) : zK m1 n := fun c c0 c1 => by
  rcases hp (7 * c + 4).toNat with q | q
  · rw [q]; exact h c c0 c1
  · have := hc c c0 c1 (by omega)
    omega
theorem zKp_rf {m m1 : zM} {place least : Int} (h : zY m m1) : zKp m m1 place least := fun j => Or.inl (h 86 j (Or.inl rfl))
theorem zKp_up {m M m1 : zM} {place least v : Int} (h : zY m M) (hm : m1 = zm_up M 86 place.toNat v) (hv : least ≤ v) : zKp m m1 place least := fun j => by
  subst hm
  by_cases e : j = place.toNat
  · subst e; exact Or.inr ⟨rfl, by rw [zm_eq]; exact hv⟩
  · left; rw [zm_ne (Or.inr e)]; exact h 86 j (Or.inl rfl)
theorem zk86 {m : zM} (h : zB m) (i : Nat) : (0 : Int) ≤ m 86 i ∧ m 86 i ≤ 99 ∧ (i % 7 = 6 → m 86 i ≤ 6) ∧ (i % 7 = 5 → m 86 i ≤ 3) := by
  have h1 := h 86 i
  have e1 : zlo 86 i = 0 := rfl
  have e2 : zhi 86 i = zkh.getD (i % 7) 99 := rfl
  rw [e1, e2] at h1
  have h2 : ∀ k : Fin 7, zkh.getD k.val 99 ≤ 99 ∧ (k.val = 6 → zkh.getD k.val 99 ≤ 6) ∧ (k.val = 5 → zkh.getD k.val 99 ≤ 3) := by decide +kernel
  obtain ⟨a, b, d⟩ := h2 ⟨i % 7, Nat.mod_lt _ (by decide)⟩
  exact ⟨h1.1, Int.le_trans h1.2 a, fun q => Int.le_trans h1.2 (b q), fun q => Int.le_trans h1.2 (d q)⟩
/-- what may be put in column k of a clock that is read -/
theorem zk86_w {c k : Int} (hc : 0 ≤ c ∧ c ≤ 5) (hk : 0 ≤ k ∧ k ≤ 6) {v w : Int} (hv : 0 ≤ v) (hw : w ≤ 99 ∧ (k = 5 → w ≤ 3) ∧ (k = 6 → w ≤ 6)) : zlo 86 (7 * c + k).toNat ≤ v ∧ w ≤ zhi 86 (7 * c + k).toNat := by
  have e1 : zlo 86 (7 * c + k).toNat = 0 := rfl
  have e2 : zhi 86 (7 * c + k).toNat = zkh.getD ((7 * c + k).toNat % 7) 99 := rfl
  have e3 : (7 * c + k).toNat % 7 = k.toNat := by omega
  rw [e1, e2, e3]
  refine ⟨hv, ?_⟩
  have h2 : ∀ k : Fin 7, zkh.getD k.val 99 = if k.val = 5 then 3 else if k.val = 6 then 6 else 99 := by decide +kernel
  have h3 := h2 ⟨k.toNat, by omega⟩
  dsimp only at h3
  rw [h3]
  split
  · exact hw.2.1 (by omega)
  · split
    · exact hw.2.2 (by omega)
    · exact hw.1
theorem zJ_upTB {mC : zM} {t : Int} {e : Nat} {M m1 m : zM} {a b : Int} (h : zJ mC t e M) (h1 : m1 = zm_up M 79 5 a) (h2 : m = zm_up m1 79 8 b) (hab : (a = 80 ∧ b = 0) ∨ (a = 81 ∧ 0 ≤ b ∧ b ≤ 720)) : zJ mC t e m := by
  subst h1
  subst h2
  obtain ⟨k1, k2, k3, k4, k5, k6, k7⟩ := h
  have n79 : ∀ j, j ≠ 5 → j ≠ 8 → zm_up (zm_up M 79 5 a) 79 8 b 79 j = M 79 j := fun j hj hk => by rw [zm_ne (by omega), zm_ne (by omega)]
  have nr : ∀ p i, p ≠ 79 → zm_up (zm_up M 79 5 a) 79 8 b p i = M p i := fun p i hp => by rw [zm_ne (by omega), zm_ne (by omega)]
  refine ⟨zB_up (zB_up k1 ?_) ?_, fun q j hq => ?_, ?_, ?_, ?_, ?_, ?_⟩
  · show (80 : Int) ≤ a ∧ a ≤ 81; omega
  · show (0 : Int) ≤ b ∧ b ≤ 720; omega
  · by_cases e9 : q = 79
    · subst e9; rw [n79 j (by omega) (by omega)]; exact k2 79 j hq
    · rw [nr q j e9]; exact k2 q j hq
  · unfold zTB
    have e1 : zm_up (zm_up M 79 5 a) 79 8 b 79 5 = a := by rw [zm_ne (by omega), zm_eq]
    have e2 : zm_up (zm_up M 79 5 a) 79 8 b 79 8 = b := zm_eq
    rw [e1, e2]; omega
  · rw [n79 27 (by decide) (by decide), n79 26 (by decide) (by decide)]; exact k4
  · exact k5.imp id (Or.imp id (fun q => zqP_eq q (fun j _ => nr 92 j (by decide))))
  · exact k6.imp id (fun q => zqP_eq q (fun j _ => nr 105 j (by decide)))
  · refine k7.imp id (Or.imp id fun q => ⟨fun k hk => zqP_eq (q.1 k hk) (fun j _ => nr 98 _ (by decide)), ?_⟩)
    rw [n79 48 (by decide) (by decide), n79 49 (by decide) (by decide), zcn_eq _ (fun k _ => nr 100 k (by decide))]
    exact q.2
theorem zv_cp {m : zM} {a b i : Nat} (h : zB m) (ha : zV a) (hb : zV b) : zlo b i ≤ m a i ∧ m a i ≤ zhi b i := by
  have h1 := h a i
  rw [(ha.2 i).1, (ha.2 i).2] at h1
  rw [(hb.2 i).1, (hb.2 i).2]
  exact h1
/-- a row in an HOUR: of clocks before n the count since the last strike may be one more; those from a to b may be fat -/
def zU9 (r : Nat → Int) (t n a b : Int) : Prop := (0 ≤ r 175 ∧ r 175 ≤ t) ∧ (r 174 = 0 ∨ r 14 = -1) ∧ ∀ c : Int, 0 ≤ c → c ≤ 9 → (0 ≤ r (15 * c + 2).toNat ∧ (r (15 * c + 2).toNat ≤ 1073741824 ∨ (r (15 * c + 7).toNat = 1 ∧ a ≤ c ∧ c < b))) ∧ (0 ≤ r (15 * c + 12).toNat ∧ r (15 * c + 12).toNat ≤ t + 1 ∧ (c < n ∨ r (15 * c + 12).toNat ≤ t)) ∧ (r (15 * c + 7).toNat = 1 → 1 ≤ r (15 * c + 4).toNat)
theorem zU9_0 {r : Nat → Int} {t : Int} (h : zqP r t) (h0 : 0 ≤ r 175) : zU9 r t 0 0 0 := by
  obtain ⟨h1, h2, h3⟩ := h
  refine ⟨⟨h0, h1⟩, h2, fun c c0 c9 => ?_⟩
  obtain ⟨a, b, d⟩ := h3 c c0 c9
  exact ⟨⟨a.1, Or.inl a.2⟩, ⟨b.1, by omega, Or.inr b.2⟩, d⟩
theorem zU9_eq {r r1 : Nat → Int} {t n a b : Int} (h : zU9 r t n a b) (e : ∀ j, zsen j → r1 j = r j) : zU9 r1 t n a b := by
  obtain ⟨h1, h2, h3⟩ := h
  refine ⟨by rw [e 175 (by unfold zsen; omega)]; exact h1, by rw [e 174 (by unfold zsen; omega), e 14 (by unfold zsen; omega)]; exact h2, fun c c0 c9 => ?_⟩
  rw [e _ (show zsen (15 * c + 2).toNat by unfold zsen; omega), e _ (show zsen (15 * c + 12).toNat by unfold zsen; omega), e _ (show zsen (15 * c + 7).toNat by unfold zsen; omega), e _ (show zsen (15 * c + 4).toNat by unfold zsen; omega)]
  exact h3 c c0 c9
theorem zU9_V {m m1 : zM} {s : Nat} {t n a b : Int} (h : zU9 (m s) t n a b) (h2 : zV9 m m1) (hs : 92 ≤ s ∧ s ≤ 95) : zU9 (m1 s) t n a b := zU9_eq h (fun j _ => h2 s j (Or.inl hs))
theorem zU9_up {M m : zM} {s p i : Nat} {v t n a b : Int} (h : zU9 (M s) t n a b) (hm : m = zm_up M p i v) (q : p ≠ s ∨ ¬ zsen i) : zU9 (m s) t n a b := by
  subst hm
  exact zU9_eq h (fun j hj => zm_ne (q.elim (fun w => Or.inl (fun e => w e.symm)) (fun w => Or.inr (fun e => w (e ▸ hj)))))
/-- the block of clock a alone is changed -/
def zBk (s : Nat) (a : Int) (m m1 : zM) : Prop := ∀ j : Nat, (j < (15 * a).toNat ∨ (15 * a).toNat + 15 ≤ j) → m1 s j = m s j
theorem zBk_rf {s : Nat} {a : Int} {m : zM} : zBk s a m m := fun _ _ => rfl
theorem zBk_up {s : Nat} {a : Int} {m M : zM} {p i : Nat} {v : Int} (h : zBk s a m M) (q : p ≠ s ∨ ((15 * a).toNat ≤ i ∧ i < (15 * a).toNat + 15)) : zBk s a m (zm_up M p i v) := fun j hj => by
  rw [zm_ne (by omega)]; exact h j hj
theorem zU9_mono {r : Nat → Int} {t n n1 a b b1 : Int} (h : zU9 r t n a b) (hn : n ≤ n1) (hb : b ≤ b1) : zU9 r t n1 a b1 := by
  obtain ⟨h1, h2, h3⟩ := h
  refine ⟨h1, h2, fun c c0 c9 => ?_⟩
  obtain ⟨x, y, z⟩ := h3 c c0 c9
  exact ⟨⟨x.1, x.2.imp id (fun q => ⟨q.1, q.2.1, by omega⟩)⟩, ⟨y.1, y.2.1, y.2.2.imp (fun q => by omega) id⟩, z⟩
theorem zU9_feed {m m1 : zM} {s : Nat} {t a : Int} (h : zU9 (m s) t a 0 a) (hf : zBk s a m m1) (ha : 0 ≤ a ∧ a ≤ 9) (h14 : m s 174 = 0 ∨ m1 s 14 = -1)
    (f : 0 ≤ m1 s (15 * a + 2).toNat ∧ (m1 s (15 * a + 2).toNat ≤ 1073741824 ∨ m1 s (15 * a + 7).toNat = 1)) (g : 0 ≤ m1 s (15 * a + 12).toNat ∧ m1 s (15 * a + 12).toNat ≤ t + 1) (k : m1 s (15 * a + 7).toNat = 1 → 1 ≤ m1 s (15 * a + 4).toNat) : zU9 (m1 s) t (a + 1) 0 (a + 1) := by
  obtain ⟨h1, h2, h3⟩ := h
  refine ⟨by rw [hf 175 (by omega)]; exact h1, by rw [hf 174 (by omega)]; exact h14, fun c c0 c9 => ?_⟩
  by_cases e : c = a
  · subst e
    exact ⟨⟨f.1, f.2.imp id (fun q => ⟨q, by omega, by omega⟩)⟩, ⟨g.1, g.2, Or.inl (by omega)⟩, k⟩
  · obtain ⟨x, y, z⟩ := h3 c c0 c9
    rw [hf (15 * c + 2).toNat (by omega), hf (15 * c + 7).toNat (by omega), hf (15 * c + 12).toNat (by omega), hf (15 * c + 4).toNat (by omega)]
    exact ⟨⟨x.1, x.2.imp id (fun q => ⟨q.1, q.2.1, by omega⟩)⟩, ⟨y.1, y.2.1, y.2.2.imp (fun q => by omega) id⟩, z⟩
theorem zU9_go {r : Nat → Int} {t n b : Int} (h : zU9 r t n 0 b) : zU9 r t 10 0 b := by
  obtain ⟨h1, h2, h3⟩ := h
  refine ⟨h1, h2, fun c c0 c9 => ?_⟩
  obtain ⟨x, y, z⟩ := h3 c c0 c9
  exact ⟨x, ⟨y.1, y.2.1, Or.inl (by omega)⟩, z⟩
/-- clock a isn't fat -/
theorem zU9_nx {r : Nat → Int} {t n a b : Int} (h : zU9 r t n a b) (hf : 0 ≤ a ∧ a ≤ 9 → r (15 * a + 2).toNat ≤ 1073741824) : zU9 r t n (a + 1) b := by
  obtain ⟨h1, h2, h3⟩ := h
  refine ⟨h1, h2, fun c c0 c9 => ?_⟩
  obtain ⟨x, y, z⟩ := h3 c c0 c9
  refine ⟨⟨x.1, ?_⟩, y, z⟩
  by_cases e : c = a
  · subst e; exact Or.inl (hf ⟨c0, c9⟩)
  · exact x.2.imp id (fun q => ⟨q.1, by omega, q.2.2⟩)
theorem zU9_w2 {M m : zM} {s : Nat} {v t n a b : Int} (h : zU9 (M s) t n a b) (hm : m = zm_up M s (15 * a + 2).toNat v) (ha : 0 ≤ a ∧ a ≤ 9) (hv : 0 ≤ v ∧ v ≤ 1073741824) : zU9 (m s) t n (a + 1) b := by
  subst hm
  obtain ⟨h1, h2, h3⟩ := h
  refine ⟨by rw [zm_ne (by omega)]; exact h1, by rw [zm_ne (by omega), zm_ne (by omega)]; exact h2, fun c c0 c9 => ?_⟩
  obtain ⟨x, y, z⟩ := h3 c c0 c9
  rw [zm_ne (show _ ≠ _ ∨ (15 * c + 7).toNat ≠ _ by omega), zm_ne (show _ ≠ _ ∨ (15 * c + 12).toNat ≠ _ by omega), zm_ne (show _ ≠ _ ∨ (15 * c + 4).toNat ≠ _ by omega)]
  refine ⟨?_, y, z⟩
  by_cases e : c = a
  · subst e; rw [zm_eq]; exact ⟨hv.1, Or.inl hv.2⟩
  · rw [zm_ne (by omega)]; exact ⟨x.1, x.2.imp id (fun q => ⟨q.1, by omega, q.2.2⟩)⟩
/-- column k of a clock c that is born -/
theorem zU9_k {M m : zM} {s : Nat} {v t a b k c : Int} (h : zU9 (M s) t 10 a b) (hm : m = zm_up M s (15 * c + k).toNat v) (hc : 1 ≤ c ∧ c ≤ 9 ∧ b ≤ c) (hk : 0 ≤ k ∧ k ≤ 14) (h2 : k = 2 → 0 ≤ v ∧ v ≤ 1073741824) (h12 : k = 12 → v = 0) (h7 : k = 7 → v = 0 ∨ 1 ≤ M s (15 * c + 4).toNat) (h4 : k = 4 → 1 ≤ v) : zU9 (m s) t 10 a b := by
  subst hm
  obtain ⟨g1, g2, g3⟩ := h
  refine ⟨by rw [zm_ne (by omega)]; exact g1, by rw [zm_ne (by omega), zm_ne (by omega)]; exact g2, fun d d0 d9 => ?_⟩
  obtain ⟨x, y, z⟩ := g3 d d0 d9
  by_cases e : d = c
  · subst e
    have x2 : M s (15 * d + 2).toNat ≤ 1073741824 := x.2.elim id (fun q => by omega)
    by_cases k2 : k = 2
    · subst k2
      rw [zm_eq, zm_ne (show _ ≠ _ ∨ (15 * d + 7).toNat ≠ _ by omega), zm_ne (show _ ≠ _ ∨ (15 * d + 12).toNat ≠ _ by omega), zm_ne (show _ ≠ _ ∨ (15 * d + 4).toNat ≠ _ by omega)]
      exact ⟨⟨(h2 rfl).1, Or.inl (h2 rfl).2⟩, y, z⟩
    · rw [zm_ne (show _ ≠ _ ∨ (15 * d + 2).toNat ≠ _ by omega)]
      refine ⟨⟨x.1, Or.inl x2⟩, ?_, ?_⟩
      · by_cases k12 : k = 12
        · subst k12
          rw [zm_eq, h12 rfl]
          exact ⟨by decide, by omega, Or.inr (by omega)⟩
        · rw [zm_ne (by omega)]; exact y
      · by_cases k7 : k = 7
        · subst k7
          rw [zm_eq, zm_ne (by omega)]
          intro q
          rcases h7 rfl with w | w
          · omega
          · exact w
        · rw [zm_ne (show _ ≠ _ ∨ (15 * d + 7).toNat ≠ _ by omega)]
          by_cases k4 : k = 4
          · subst k4; rw [zm_eq]; exact fun _ => h4 rfl
          · rw [zm_ne (by omega)]; exact z
  · rw [zm_ne (show _ ≠ _ ∨ (15 * d + 2).toNat ≠ _ by omega), zm_ne (show _ ≠ _ ∨ (15 * d + 7).toNat ≠ _ by omega), zm_ne (show _ ≠ _ ∨ (15 * d + 12).toNat ≠ _ by omega), zm_ne (show _ ≠ _ ∨ (15 * d + 4).toNat ≠ _ by omega)]
    exact ⟨x, y, z⟩
theorem zU9_174 {M m : zM} {s : Nat} {v t n a b : Int} (h : zU9 (M s) t n a b) (hm : m = zm_up M s 174 v) (h0 : M s 174 ≠ 0) : zU9 (m s) t n a b := by
  subst hm
  obtain ⟨g1, g2, g3⟩ := h
  refine ⟨by rw [zm_ne (by omega)]; exact g1, Or.inr (by rw [zm_ne (by omega)]; exact g2.resolve_left h0), fun d d0 d9 => ?_⟩
  rw [zm_ne (by omega), zm_ne (by omega), zm_ne (by omega), zm_ne (by omega)]
  exact g3 d d0 d9
theorem zU9_h {M m : zM} {s : Nat} {v t a b : Int} (h : zU9 (M s) t 10 a b) (hm : m = zm_up M s 175 v) (hab : b ≤ a) (hv : v ≤ t + 1) : zqP (m s) (t + 1) := by
  subst hm
  obtain ⟨g1, g2, g3⟩ := h
  refine ⟨by rw [zm_eq]; exact hv, by rw [zm_ne (by omega), zm_ne (by omega)]; exact g2, fun d d0 d9 => ?_⟩
  obtain ⟨x, y, z⟩ := g3 d d0 d9
  rw [zm_ne (show _ ≠ _ ∨ (15 * d + 2).toNat ≠ _ by omega), zm_ne (show _ ≠ _ ∨ (15 * d + 7).toNat ≠ _ by omega), zm_ne (show _ ≠ _ ∨ (15 * d + 12).toNat ≠ _ by omega), zm_ne (show _ ≠ _ ∨ (15 * d + 4).toNat ≠ _ by omega)]
  exact ⟨⟨x.1, x.2.elim id (fun q => by omega)⟩, ⟨y.1, y.2.1⟩, z⟩
theorem zP_upE {t : Int} {m M : zM} {s p i : Nat} {v : Int} (h : zqP (M s) t) (hm : m = zm_up M p i v) (q : p ≠ s ∨ ¬ zsen i) : zqP (m s) t := by subst hm; exact zP_up h q
theorem zk86_w9 {c k row : Int} (hr : row = 7 * c) (hc : 0 ≤ c ∧ c ≤ 5) (hk : 0 ≤ k ∧ k ≤ 6) {v w : Int} (hv : 0 ≤ v) (hw : w ≤ 99 ∧ (k = 5 → w ≤ 3) ∧ (k = 6 → w ≤ 6)) : zlo 86 (row + k).toNat ≤ v ∧ w ≤ zhi 86 (row + k).toNat := by
  rw [hr]; exact zk86_w hc hk hv hw
def zPv (zn : Bool) (d y : Nat) (args : List Value) (c : Nat × Nat) (m : zM) (Q : Prop) : Prop := z_sem zn d y args (zk c m) none (zk c m) ∧ Q
theorem zPv.of {zn : Bool} {d y : Nat} {args : List Value} {c : Nat × Nat} {m : zM} {Q : Prop} (hu : z_useok y = true) (hl : c.1 < z_RO) (ha : (z_as args).length ≤ z_ml y)
    (h : zW zn d y c (0, z_args (z_ml y) args, [], zk c m) (fun v h' => v = none ∧ h' = zk c m ∧ Q)) : zPv zn (d + 1) y args c m Q := by
  obtain ⟨st2, v, h', a1, a2, rfl, rfl, a3⟩ := h
  exact ⟨z_sem_of hu hl ha a1 a2, a3⟩
theorem z_narC {x : Int32} {v : Int} (hx : x = Int32.ofInt v) (h : 0 ≤ v ∧ v ≤ 65535) : narrow .char (.int x) = .int x := by
  show Value.int ((x.toUInt32 % 65536).toInt32) = .int x
  rw [zi_i2c hx, Int.emod_eq_of_lt h.1 (by omega), hx]
theorem zml9 (a b : Int) (ha : -2147483648 ≤ a ∧ a ≤ 2147483648) (hb : -2147483648 ≤ b ∧ b ≤ 2147483648) : -4611686018427387904 ≤ a * b ∧ a * b ≤ 4611686018427387904 := by
  have h1 : (a * b).natAbs = a.natAbs * b.natAbs := Int.natAbs_mul a b
  have h2 : a.natAbs * b.natAbs ≤ 2147483648 * 2147483648 := Nat.mul_le_mul (by omega) (by omega)
  omega
theorem ztdn9 (a b : Int) : (-2147483648 ≤ a ∧ a ≤ 2147483648) → -2147483648 ≤ Int.tdiv a b ∧ Int.tdiv a b ≤ 2147483648 := by
  intro h
  have h1 : (Int.tdiv a b).natAbs = a.natAbs / b.natAbs := Int.natAbs_tdiv a b
  have h2 : a.natAbs / b.natAbs ≤ a.natAbs := Nat.div_le_self _ _
  omega
theorem zvw_z {s : Nat} (hs : zV s) (i : Nat) : zlo s i ≤ 0 ∧ 0 ≤ zhi s i := by
  rw [(hs.2 _).1, (hs.2 _).2]
  have := zq_all i
  omega
theorem zq_same : ∀ a c : Fin 10, ∀ k : Fin 14, zql (15 * a.val + k.val) = zql (15 * c.val + k.val) ∧ zqh (15 * a.val + k.val) = zqh (15 * c.val + k.val) := by decide +kernel
theorem zvw_same {m : zM} {s : Nat} (hs : zV s) (hI : zB m) {a c k : Int} (ha : 0 ≤ a ∧ a ≤ 9) (hc : 0 ≤ c ∧ c ≤ 9) (hk : 0 ≤ k ∧ k ≤ 13) : zlo s (15 * c + k).toNat ≤ m s (15 * a + k).toNat ∧ m s (15 * a + k).toNat ≤ zhi s (15 * c + k).toNat := by
  have h1 := hI s (15 * a + k).toNat
  rw [(hs.2 _).1, (hs.2 _).2] at h1 ⊢
  have h2 := zq_same ⟨a.toNat, by omega⟩ ⟨c.toNat, by omega⟩ ⟨k.toNat, by omega⟩
  have e1 : 15 * a.toNat + k.toNat = (15 * a + k).toNat := by omega
  have e2 : 15 * c.toNat + k.toNat = (15 * c + k).toNat := by omega
  dsimp only at h2
  rw [e1, e2] at h2
  rw [← h2.1, ← h2.2]
  exact h1
theorem zbk4 {M m : zM} {s : Nat} {c x v : Int} (h : x ≤ 4 ∨ 1 ≤ M s (15 * c + 4).toNat) (hm : m = zm_up M s (15 * c + x).toNat v) (h0 : 0 ≤ c ∧ 0 ≤ x) (hv : x = 4 → 1 ≤ v) : x + 1 ≤ 4 ∨ 1 ≤ m s (15 * c + 4).toNat := by
  subst hm
  by_cases e : x = 4
  · subst e; right; rw [zm_eq]; exact hv rfl
  · rcases h with q | q
    · left; omega
    · right; rw [zm_ne (by omega)]; exact q
theorem zne9 {s q : Nat} (h : s = 92 ∨ s = 93) (hq : q ≠ 92 ∧ q ≠ 93) : s ≠ q := by omega
theorem zne8 {s q : Nat} (h : s = 92 ∨ s = 93) (hq : q ≠ 92 ∧ q ≠ 93) : q ≠ s := by omega
theorem zne15 {a : Int} (h : 0 ≤ a) {k k1 : Nat} (hk : k ≠ k1) : (15 * a + (k : Int)).toNat ≠ (15 * a + (k1 : Int)).toNat := by omega
theorem zOj_79 {e i : Nat} (h : i ≠ 5 ∧ i ≠ 8 ∧ i ≠ 26 ∧ i ≠ 27 ∧ i ≠ 34 ∧ i ≠ 48 ∧ i ≠ 49 ∧ i ≠ 6 ∧ i ≠ 7 ∧ i ≠ 53) : zOj e 79 i := by unfold zOj; omega
theorem zOj_p {e p i : Nat} (h : 79 ≤ p ∧ p ≤ 105 ∧ p ≠ 79 ∧ p ≠ 80 ∧ p ≠ 92 ∧ p ≠ 98 ∧ p ≠ 100 ∧ p ≠ 105) : zOj e p i := by unfold zOj; omega
theorem zOj_s {s i : Nat} (h : s = 92 ∨ s = 93) : zOj s s i := by unfold zOj; omega
theorem zYs_p {p i : Nat} (h : p ≠ 86 ∧ ¬ (92 ≤ p ∧ p ≤ 95) ∧ p ≠ 79) : ¬ zYs p i := by unfold zYs; omega
theorem zYs_79 {i : Nat} (h : ¬ (i = 7 ∨ (26 ≤ i ∧ i ≤ 30))) : ¬ zYs 79 i := by unfold zYs; omega
theorem ztdR (a b : Int) (ha : -2147483648 ≤ a ∧ a ≤ 2147483647) (hb : 1 ≤ b) : -2147483648 ≤ Int.tdiv a b ∧ Int.tdiv a b ≤ 2147483647 := by
  have h := ztd a b (by omega)
  by_cases q : 0 ≤ a
  · have := h.1 q; omega
  · have := h.2 (by omega); omega
theorem ztmR (a b : Int) (hb : 1 ≤ b) (hr : b ≤ 2147483647) : -2147483648 ≤ Int.tmod a b ∧ Int.tmod a b ≤ 2147483647 := by
  have h := ztm a b (by omega)
  omega
/-- all stays but what is in S -/
def zD9 (S : Nat → Nat → Prop) (m m1 : zM) : Prop := ∀ p i, ¬ S p i → m1 p i = m p i
theorem zD9_rf {S : Nat → Nat → Prop} {m : zM} : zD9 S m m := fun _ _ _ => rfl
theorem zD9_up {S : Nat → Nat → Prop} {m M : zM} {p i : Nat} {v : Int} (h : zD9 S m M) (q : S p i) : zD9 S m (zm_up M p i v) := fun r j hr => by
  rw [zm_ne (Classical.byContradiction fun w => hr (by have w1 : r = p ∧ j = i := by omega
                                                       rw [w1.1, w1.2]; exact q))]
  exact h r j hr
theorem zD9_tr {S : Nat → Nat → Prop} {a b c : zM} (h : zD9 S a b) (h2 : zD9 S b c) : zD9 S a c := fun p i hp => (h2 p i hp).trans (h p i hp)
theorem zv98_i {m : zM} (h : zB m) (i : Nat) : -2147483648 ≤ m 98 i ∧ m 98 i ≤ 2147483647 := by
  have h1 : zql (i % 178) ≤ m 98 i ∧ m 98 i ≤ zqh (i % 178) := h 98 i
  have h2 := zq_all (i % 178)
  omega
/-- out of a row of now or image into the rows kept, and back -/
theorem zv98_w {m : zM} {p a b : Nat} (h : zB m) (hp : p = 92 ∧ b < 178) (e : a % 178 = b) : zlo 98 a ≤ m p b ∧ m p b ≤ zhi 98 a := by
  have h1 := h p b
  rw [hp.1] at h1 ⊢
  have e1 : zlo 98 a = zql (a % 178) := rfl
  have e2 : zhi 98 a = zqh (a % 178) := rfl
  rw [e1, e2, e]; exact h1
theorem zv98_s {m : zM} {a b : Nat} (h : zB m) (e : a % 178 = b % 178) : zlo 98 a ≤ m 98 b ∧ m 98 b ≤ zhi 98 a := by
  have h1 := h 98 b
  have e1 : zlo 98 a = zql (a % 178) := rfl
  have e2 : zhi 98 a = zqh (a % 178) := rfl
  have e3 : zlo 98 b = zql (b % 178) := rfl
  have e4 : zhi 98 b = zqh (b % 178) := rfl
  rw [e3, e4] at h1
  rw [e1, e2, e]; exact h1
theorem zv98_r {m : zM} {a b : Nat} (h : zB m) (hb : b < 178) (e : a % 178 = b) : zlo 92 b ≤ m 98 a ∧ m 98 a ≤ zhi 92 b := by
  have h1 := h 98 a
  have e1 : zlo 98 a = zql (a % 178) := rfl
  have e2 : zhi 98 a = zqh (a % 178) := rfl
  rw [e1, e2, e] at h1
  rw [(zV_92.2 b).1, (zV_92.2 b).2]; exact h1
/-- what may be put into now by hand -/
def zWs (i : Nat) (v : Int) : Prop := ∀ (r : Nat → Int) (t : Int), zqP r t → zqP (fun j => if j = i then v else r j) t
theorem zWs_i {i : Nat} {v : Int} (h : ¬ zsen i) : zWs i v := fun r t hr => zqP_eq hr (fun j hj => by
  show (if j = i then v else r j) = r j
  rw [if_neg (fun e : j = i => h (e ▸ hj))])
theorem zWs_2 {c v : Int} (hc : 0 ≤ c ∧ c ≤ 9) (hv : 0 ≤ v ∧ v ≤ 1073741824) : zWs (15 * c + 2).toNat v := fun r t hr => by
  obtain ⟨h1, h2, h3⟩ := hr
  have g : ∀ F : Nat → Int, (∀ j, j ≠ (15 * c + 2).toNat → F j = r j) → F (15 * c + 2).toNat = v → zqP F t := fun F f1 f2 => by
    refine ⟨by rw [f1 175 (by omega)]; exact h1, by rw [f1 174 (by omega), f1 14 (by omega)]; exact h2, fun d d0 d9 => ?_⟩
    obtain ⟨x, y, z⟩ := h3 d d0 d9
    rw [f1 (15 * d + 12).toNat (by omega), f1 (15 * d + 7).toNat (by omega), f1 (15 * d + 4).toNat (by omega)]
    refine ⟨?_, y, z⟩
    by_cases e : d = c
    · subst e; rw [f2]; exact hv
    · rw [f1 _ (by omega)]; exact x
  refine g _ (fun j hj => ?_) ?_
  · show (if j = _ then v else r j) = r j
    rw [if_neg hj]
  · show (if _ = _ then v else _) = v
    rw [if_pos rfl]
theorem zJ_upW {mC : zM} {t : Int} {M m : zM} {i : Nat} {v : Int} (h : zJ mC t 0 M) (hm : m = zm_up M 92 i v) (hw : zWs i v) (hv : zlo 92 i ≤ v ∧ v ≤ zhi 92 i) : zJ mC t 0 m := by
  subst hm
  have h9 : zJ mC t 99 (zm_up M 92 i v) := zJ_upE (zJ_99 h) rfl (by unfold zOj; omega) hv
  refine zJ_mk0 h9 ?_ ?_ ?_
  · refine zqP_eq (hw _ _ (zJ_now h)) (fun j _ => ?_)
    show (if _ then _ else _) = (if _ then _ else _)
    by_cases e : j = i
    · rw [if_pos ⟨rfl, e⟩, if_pos e]
    · rw [if_neg (fun z => e z.2), if_neg e]
  · exact zqP_eq (zJ_img h) (fun j _ => zm_ne (by omega))
  · refine ⟨fun k hk => zqP_eq ((zJ_und h).1 k hk) (fun j _ => zm_ne (by omega)), ?_⟩
    rw [zm_ne (by omega), zm_ne (by omega), zcn_eq _ (fun k _ => zm_ne (by omega))]
    exact (zJ_und h).2
theorem zcn_nn {m : zM} (h : zB m) : ∀ n : Nat, 0 ≤ zcn m n
  | 0 => Int.le_refl 0
  | n + 1 => by
    have h1 := zcn_nn h n
    have h2 : (0 : Int) ≤ m 100 n := (h 100 n).1
    show 0 ≤ zcn m n + m 100 n
    omega
theorem zcn_le {m : zM} (h : zB m) : ∀ n : Nat, zcn m n ≤ n
  | 0 => Int.le_refl 0
  | n + 1 => by
    have h1 := zcn_le h n
    have h2 : m 100 n ≤ (1 : Int) := (h 100 n).2
    show zcn m n + m 100 n ≤ ((n + 1 : Nat) : Int)
    omega
theorem zcn_sh {m m1 : zM} : ∀ n : Nat, (∀ k, k < n → m1 100 k = m 100 (k + 1)) → zcn m1 n = zcn m (n + 1) - m 100 0
  | 0, _ => by show (0 : Int) = (0 + m 100 0) - m 100 0; omega
  | n + 1, h => by
    have h1 := zcn_sh n (fun k hk => h k (by omega))
    show zcn m1 n + m1 100 n = zcn m (n + 1) + m 100 (n + 1) - m 100 0
    rw [h1, h n (by omega)]; omega
/-- an ACT put by: the rows kept go one down; the row of now on top -/
def zRA (m0 m : zM) (x : Int) : Prop := (∀ i : Nat, (i : Int) < x → m 98 i = m0 98 (i + 178)) ∧ ∀ i : Nat, x ≤ (i : Int) → m 98 i = m0 98 i
def zRU (m0 m : zM) (x : Int) : Prop := (∀ i : Nat, (i : Int) + 1 < x → m 100 i = m0 100 (i + 1)) ∧ ∀ i : Nat, x ≤ (i : Int) + 1 → m 100 i = m0 100 i
def zRB (m0 m : zM) (a : Nat) : Prop := a ≤ 39 ∧ ((m0 79 48 = 40 ∧ a = 39 ∧ (∀ i : Nat, i < 6942 → m 98 i = m0 98 (i + 178)) ∧ ∀ i : Nat, i < 39 → m 100 i = m0 100 (i + 1)) ∨ (m0 79 48 = (a : Int) ∧ (∀ i : Nat, (i < 178 * a ∨ 178 * a + 178 ≤ i) → m 98 i = m0 98 i) ∧ ∀ i : Nat, i < a → m 100 i = m0 100 i))
def zRM (m0 m : zM) (b : Int) : Prop := ∃ a : Nat, m 79 48 = (a : Int) + 1 ∧ m 100 a = b ∧ (∀ j : Nat, j < 178 → m 98 (178 * a + j) = m0 92 j) ∧ zRB m0 m a
theorem zRA_up {m0 M m : zM} {x v : Int} (h : zRA m0 M x) (hm : m = zm_up M 98 x.toNat v) (hx : 0 ≤ x) (hv : v = M 98 (x + 178).toNat) : zRA m0 m (x + 1) := by
  subst hm
  refine ⟨fun i hi => ?_, fun i hi => ?_⟩
  · by_cases e : i = x.toNat
    · subst e
      rw [zm_eq, hv, h.2 _ (by omega), show (x + 178).toNat = x.toNat + 178 by omega]
    · rw [zm_ne (by omega)]; exact h.1 i (by omega)
  · rw [zm_ne (by omega)]; exact h.2 i (by omega)
theorem zRU_0 {m0 m : zM} (h : ∀ i, m 100 i = m0 100 i) : zRU m0 m 1 := ⟨fun i hi => by omega, fun i _ => h i⟩
theorem zRU_up {m0 M m : zM} {x v : Int} (h : zRU m0 M x) (hm : m = zm_up M 100 (x - 1).toNat v) (hx : 1 ≤ x) (hv : v = M 100 x.toNat) : zRU m0 m (x + 1) := by
  subst hm
  refine ⟨fun i hi => ?_, fun i hi => ?_⟩
  · by_cases e : i = (x - 1).toNat
    · rw [e, zm_eq, hv, h.2 _ (by omega), show x.toNat = (x - 1).toNat + 1 by omega]
    · rw [zm_ne (by omega)]; exact h.1 i (by omega)
  · rw [zm_ne (by omega)]; exact h.2 i (by omega)
theorem zRB_0 {m : zM} (h : 0 ≤ m 79 48 ∧ m 79 48 ≤ 39) : zRB m m (m 79 48).toNat := ⟨by omega, Or.inr ⟨by omega, fun _ _ => rfl, fun _ _ => rfl⟩⟩
theorem zRB_s {m0 M m : zM} {x v : Int} (qa : ∀ i : Nat, i < 6942 → M 98 i = m0 98 (i + 178)) (qu : zRU m0 M x) (hm : m = zm_up M 79 48 v) (hx : 40 ≤ x) (h0 : m0 79 48 = 40) (hv : v = 39) : zRB m0 m (m 79 48).toNat := by
  have e : m 79 48 = 39 := by rw [hm, zm_eq, hv]
  rw [e]
  refine ⟨by decide, Or.inl ⟨h0, rfl, fun i hi => ?_, fun i hi => ?_⟩⟩
  · rw [hm, zm_ne (by omega)]; exact qa i hi
  · rw [hm, zm_ne (by omega)]; exact qu.1 i (by omega)
theorem zRB_up {m0 M m : zM} {x v : Int} (h : zRB m0 M (M 79 48).toNat) (hm : m = zm_up M 98 (178 * M 79 48 + x).toNat v) (hx : 0 ≤ x ∧ x < 178) (ha : 0 ≤ M 79 48 ∧ M 79 48 ≤ 39) : zRB m0 m (m 79 48).toNat := by
  have e : m 79 48 = M 79 48 := by rw [hm, zm_ne (by omega)]
  rw [e]
  obtain ⟨h1, h2⟩ := h
  refine ⟨h1, h2.imp (fun q => ⟨q.1, q.2.1, fun i hi => ?_, fun i hi => ?_⟩) (fun q => ⟨q.1, fun i hi => ?_, fun i hi => ?_⟩)⟩
  · rw [hm, zm_ne (by omega)]; exact q.2.2.1 i hi
  · rw [hm, zm_ne (by omega)]; exact q.2.2.2 i hi
  · rw [hm, zm_ne (by omega)]; exact q.2.1 i hi
  · rw [hm, zm_ne (by omega)]; exact q.2.2 i hi
theorem zRC_up {m0 M m : zM} {x v : Int} (h : ∀ j : Nat, (j : Int) < x → M 98 (178 * (M 79 48).toNat + j) = m0 92 j) (hm : m = zm_up M 98 (178 * M 79 48 + x).toNat v) (hx : 0 ≤ x ∧ x < 178) (ha : 0 ≤ M 79 48 ∧ M 79 48 ≤ 39) (hv : v = m0 92 x.toNat) : ∀ j : Nat, (j : Int) < x + 1 → m 98 (178 * (m 79 48).toNat + j) = m0 92 j := by
  intro j hj
  have e : m 79 48 = M 79 48 := by rw [hm, zm_ne (by omega)]
  rw [e]
  by_cases e9 : j = x.toNat
  · subst e9
    rw [hm, show 178 * (M 79 48).toNat + x.toNat = (178 * M 79 48 + x).toNat by omega, zm_eq]; exact hv
  · rw [hm, zm_ne (by omega)]; exact h j (by omega)
theorem zRM_mk {m0 M m1 m2 : zM} {b x w : Int} (rb : zRB m0 M (M 79 48).toNat) (cp : ∀ j : Nat, (j : Int) < x → M 98 (178 * (M 79 48).toNat + j) = m0 92 j) (hx : 178 ≤ x) (ha : 0 ≤ M 79 48) (h1 : m1 = zm_up M 100 (M 79 48).toNat b) (h2 : m2 = zm_up m1 79 48 w) (hw : w = m1 79 48 + 1) : zRM m0 m2 b := by
  have e1 : m1 79 48 = M 79 48 := by rw [h1, zm_ne (by omega)]
  have f98 : ∀ i, m2 98 i = M 98 i := fun i => by rw [h2, zm_ne (by omega), h1, zm_ne (by omega)]
  have f100 : ∀ i, i ≠ (M 79 48).toNat → m2 100 i = M 100 i := fun i hi => by rw [h2, zm_ne (by omega), h1, zm_ne (by omega)]
  refine ⟨(M 79 48).toNat, by rw [h2, zm_eq, hw, e1]; omega, by rw [h2, zm_ne (by omega), h1, zm_eq], fun j hj => by rw [f98]; exact cp j (by omega), rb.1, rb.2.imp (fun q => ⟨q.1, q.2.1, fun i hi => ?_, fun i hi => ?_⟩) (fun q => ⟨q.1, fun i hi => ?_, fun i hi => ?_⟩)⟩
  · rw [f98]; exact q.2.2.1 i hi
  · rw [f100 i (by omega)]; exact q.2.2.2 i hi
  · rw [f98]; exact q.2.1 i hi
  · rw [f100 i (by omega)]; exact q.2.2 i hi
theorem zJ_rem {mC : zM} {t : Int} {m m1 : zM} {b : Int} (hI : zJ mC t 0 m) (hJ : zJ mC t 98 m1) (hD : zD9 (fun p i => p = 98 ∨ p = 100 ∨ (p = 79 ∧ i = 48)) m m1) (hr : zRM m m1 b) :
    (∀ k : Nat, k < 40 → zqP (fun j => m1 98 (178 * k + j)) t) ∧ zcn m1 (m1 79 48).toNat ≤ m1 79 49 + b ∧ zqP (m1 92) t ∧ zqP (m1 105) t := by
  obtain ⟨a, ha, hb, hc, h39, hx⟩ := hr
  have hn := zJ_now hI
  have hu := zJ_und hI
  refine ⟨fun k hk => ?_, ?_, zqP_eq hn (fun j _ => hD 92 j (by omega)), zqP_eq (zJ_img hI) (fun j _ => hD 105 j (by omega))⟩
  · by_cases e : k = a
    · subst e; exact zqP_eq hn (fun j hj => hc j (by unfold zsen at hj; omega))
    · rcases hx with ⟨x1, x2, x3, x4⟩ | ⟨x1, x2, x3⟩
      · refine zqP_eq (hu.1 (k + 1) (by omega)) (fun j hj => ?_)
        have hj2 : j < 178 := by unfold zsen at hj; omega
        show m1 98 (178 * k + j) = m 98 (178 * (k + 1) + j)
        rw [x3 _ (by omega), show 178 * k + j + 178 = 178 * (k + 1) + j by omega]
      · refine zqP_eq (hu.1 k hk) (fun j hj => x2 _ ?_)
        have hj2 : j < 178 := by unfold zsen at hj; omega
        omega
  · have e49 : m1 79 49 = m 79 49 := hD 79 49 (by omega)
    have e48 : (m1 79 48).toNat = a + 1 := by omega
    rw [e48, e49]
    show zcn m1 a + m1 100 a ≤ _
    rw [hb]
    rcases hx with ⟨x1, x2, x3, x4⟩ | ⟨x1, x2, x3⟩
    · subst x2
      have h1 : zcn m1 39 = zcn m 40 - m 100 0 := zcn_sh (m := m) (m1 := m1) 39 (fun k hk => x4 k hk)
      have h2 : zcn m 40 ≤ m 79 49 := by have := hu.2; rw [x1] at this; exact this
      have h3 : (0 : Int) ≤ m 100 0 := (hI.1 100 0).1
      omega
    · have h1 := zcn_eq (m := m) (m1 := m1) a (fun k hk => x3 k hk)
      have h2 : zcn m a ≤ m 79 49 := by have := hu.2; rw [x1] at this; exact this
      omega
theorem zJ_undo {mC : zM} {t : Int} {m m1 : zM} (hI : zJ mC t 0 m) (hJ : zJ mC t 99 m1) (hD : zD9 (fun p i => p = 92 ∨ (p = 79 ∧ (i = 0 ∨ i = 48 ∨ i = 49))) m m1)
    (hu : (m 79 48 = 0 ∧ (∀ i, m1 92 i = m 92 i) ∧ m1 79 48 = 0 ∧ m1 79 49 = m 79 49) ∨ (1 ≤ m 79 48 ∧ m1 79 48 = m 79 48 - 1 ∧ (∀ j : Nat, j < 178 → m1 92 j = m 98 (178 * (m1 79 48).toNat + j)) ∧ m1 79 49 = m 79 49 - m 100 (m1 79 48).toNat)) : zJ mC t 0 m1 := by
  have hw := zJ_und hI
  have hb : m 79 48 ≤ (40 : Int) := (hI.1 79 48).2
  refine zJ_mk0 hJ ?_ (zqP_eq (zJ_img hI) (fun j _ => hD 105 j (by omega))) ⟨fun k hk => zqP_eq (hw.1 k hk) (fun j _ => hD 98 _ (by omega)), ?_⟩
  · rcases hu with u | u
    · exact zqP_eq (zJ_now hI) (fun j _ => u.2.1 j)
    · exact zqP_eq (hw.1 (m1 79 48).toNat (by omega)) (fun j hj => u.2.2.1 j (by unfold zsen at hj; omega))
  · rw [zcn_eq _ (fun k _ => hD 100 k (by omega))]
    rcases hu with u | u
    · rw [u.2.2.1, u.2.2.2, ← u.1]; exact hw.2
    · have e : (m 79 48).toNat = (m1 79 48).toNat + 1 := by omega
      have h2 := hw.2
      rw [e] at h2
      have h3 : zcn m (m1 79 48).toNat + m 100 (m1 79 48).toNat ≤ m 79 49 := h2
      omega
theorem zJ_wr {mC : zM} {t : Int} {m m1 : zM} (hI : zJ mC t 92 m) (hP : zqP (m 92) t) (hJ : zJ mC t 98 m1) (hD : zD9 (fun p i => p = 99 ∨ (p = 79 ∧ i = 49)) m m1) (hl : (m 79 49 = 60 ∧ m1 79 49 = 60) ∨ (m 79 49 < 60 ∧ m1 79 49 = m 79 49 + 1)) : zJ mC t 0 m1 := by
  have hw := zJ_und92 hI
  have hb : m 79 48 ≤ (40 : Int) ∧ (0 : Int) ≤ m 79 48 := ⟨(hI.1 79 48).2, (hI.1 79 48).1⟩
  have h105 : zqP (m 105) t := hI.2.2.2.2.2.1.resolve_left (by decide)
  refine zJ_mk0 hJ (zqP_eq hP (fun j _ => hD 92 j (by omega))) (zqP_eq h105 (fun j _ => hD 105 j (by omega))) ⟨fun k hk => zqP_eq (hw.1 k hk) (fun j _ => hD 98 _ (by omega)), ?_⟩
  rw [zcn_eq _ (fun k _ => hD 100 k (by omega)), hD 79 48 (by omega)]
  have h3 := zcn_le hI.1 (m 79 48).toNat
  omega
theorem zJ_image {mC : zM} {t : Int} {m m1 : zM} (hI : zJ mC t 0 m) (hJ : zJ mC t 105 m1) (hq : ∀ j : Nat, j < 178 → m1 105 j = m 92 j) (hD : zD9 (fun p _ => p = 105) m m1) : zJ mC t 0 m1 := by
  have hw := zJ_und hI
  refine zJ_mk0 hJ (zqP_eq (zJ_now hI) (fun j _ => hD 92 j (by omega))) (zqP_eq (zJ_now hI) (fun j hj => hq j (by unfold zsen at hj; omega))) ⟨fun k hk => zqP_eq (hw.1 k hk) (fun j _ => hD 98 _ (by omega)), ?_⟩
  rw [zcn_eq _ (fun k _ => hD 100 k (by omega)), hD 79 48 (by omega), hD 79 49 (by omega)]
  exact hw.2
theorem zJ_back {mC : zM} {t : Int} {m m1 m2 : zM} (hI : zJ mC t 0 m) (hq : ∀ j : Nat, j < 178 → m1 92 j = m 105 j) (hD : zD9 (fun p _ => p = 92) m m1) (hm : m2 = zm_up m1 79 48 0) (hJ : zJ mC t 99 m2) : zJ mC t 0 m2 := by
  have hw := zJ_und hI
  have f : ∀ p i, (p ≠ 79 ∨ i ≠ 48) → m2 p i = m1 p i := fun p i h => by rw [hm, zm_ne h]
  refine zJ_mk0 hJ (zqP_eq (zJ_img hI) (fun j hj => (f 92 j (by omega)).trans (hq j (by unfold zsen at hj; omega)))) (zqP_eq (zJ_img hI) (fun j _ => (f 105 j (by omega)).trans (hD 105 j (by omega)))) ⟨fun k hk => zqP_eq (hw.1 k hk) (fun j _ => (f 98 _ (by omega)).trans (hD 98 _ (by omega))), ?_⟩
  have e : m2 79 48 = 0 := by rw [hm, zm_eq]
  rw [e]
  exact (hJ.1 79 49).1
/-- how many live of the first n -/
def zlc (r : Nat → Int) : Nat → Int
  | 0 => 0
  | k + 1 => zlc r k + r (15 * k + 7)
theorem zlc_s (r : Nat → Int) (x : Int) (h : 0 ≤ x) : zlc r (x + 1).toNat = zlc r x.toNat + r (15 * x + 7).toNat := by
  rw [show (x + 1).toNat = x.toNat + 1 by omega, show (15 * x + 7).toNat = 15 * x.toNat + 7 by omega]
  rfl
theorem zlc_le (r : Nat → Int) (n : Nat) : ∀ k : Nat, (∀ i, i < n + k → 0 ≤ r (15 * i + 7)) → zlc r n ≤ zlc r (n + k)
  | 0, _ => Int.le_refl _
  | k + 1, h => by
    have h1 := zlc_le r n k (fun i hi => h i (by omega))
    have h2 := h (n + k) (by omega)
    show zlc r n ≤ zlc r (n + k) + r (15 * (n + k) + 7)
    omega
theorem zlc_lt {m0 m : zM} (hI : zB m) (hZ : zZ 93 m0 m) (x n : Int) : 0 ≤ x → x < n → n ≤ 10 → m0 92 (15 * x + 7).toNat = 1 → zlc (m0 92) x.toNat + 1 ≤ zlc (m0 92) n.toNat := by
  intro h0 h1 h2 h3
  have e := zlc_s (m0 92) x h0
  have h4 := zlc_le (m0 92) (x + 1).toNat (n.toNat - (x + 1).toNat) (fun i hi => by
    have h5 := (zv_7 hI zV_92 (c := (i : Int)) (by omega)).1
    rw [hZ.1 (by decide)] at h5
    rw [show (15 * (i : Int) + 7).toNat = 15 * i + 7 by omega] at h5
    exact h5)
  rw [show (x + 1).toNat + (n.toNat - (x + 1).toNat) = n.toNat by omega] at h4
  omega
theorem zlc_nn {m : zM} (hI : zB m) : ∀ n : Nat, n ≤ 10 → 0 ≤ zlc (m 92) n
  | 0, _ => Int.le_refl 0
  | n + 1, h => by
    have h1 := zlc_nn hI n (by omega)
    have h5 := (zv_7 hI zV_92 (c := (n : Int)) (by omega)).1
    rw [show (15 * (n : Int) + 7).toNat = 15 * n + 7 by omega] at h5
    show 0 ≤ zlc (m 92) n + m 92 (15 * n + 7)
    omega
def zpl (d x : Int) : Prop := d ≤ 0 ∨ (d = 1 ∧ 1 ≤ x) ∨ (d = 2 ∧ 10 ≤ x) ∨ (d = 3 ∧ 100 ≤ x) ∨ (d = 4 ∧ 1000 ≤ x) ∨ (d = 5 ∧ 10000 ≤ x) ∨ (d = 6 ∧ 100000 ≤ x)
theorem zpl_pos {d x : Int} (h : zpl d x) (hd : 1 ≤ d) : 1 ≤ x := by unfold zpl at h; omega
theorem zpl_cg {d e x : Int} (h : zpl d x) (he : d = e) : zpl e x := he ▸ h
theorem zpl_div {d x : Int} (h : zpl d x) (hd : 1 ≤ d) : zpl (d - 1) (Int.tdiv x 10) := by
  have hx := zpl_pos h hd
  rw [Int.tdiv_eq_ediv_of_nonneg (by omega)]
  unfold zpl at h ⊢
  omega
theorem zpl_0 {d n x : Int} (h : n = d - 1) (hq : (n = 0 ∧ x = 1) ∨ (n = 1 ∧ x = 10) ∨ (n = 2 ∧ x = 100) ∨ (n = 3 ∧ x = 1000) ∨ (n = 4 ∧ x = 10000) ∨ (n = 5 ∧ x = 100000)) : zpl d x := by
  unfold zpl
  omega
theorem zlc_Z {m M : zM} (h : zZ 93 m M) : zlc (M 92) (M 92 174).toNat = zlc (m 92) (m 92 174).toNat := by
  have e : M 92 = m 92 := funext (h.1 (by decide))
  rw [e]
/-- a HOUSE told: the rows put by, the image stay -/
def zS9 (t : Int) (m : zM) : Prop := zqP (m 105) t ∧ ∀ k : Nat, k < 40 → zqP (fun j => m 98 (178 * k + j)) t
theorem zS9_of {mC : zM} {t : Int} {m : zM} (h : zJ mC t 0 m) : zS9 t m := ⟨zJ_img h, (zJ_und h).1⟩
theorem zS9_up {t : Int} {m : zM} {p i : Nat} {v : Int} (h : zS9 t m) (q : p ≠ 98 ∧ p ≠ 105) : zS9 t (zm_up m p i v) := ⟨zqP_eq h.1 (fun j _ => zm_ne (by omega)), fun k hk => zqP_eq (h.2 k hk) (fun j _ => zm_ne (by omega))⟩
theorem zJ_text {mC : zM} {t : Int} {m : zM} (hJ : zJ mC t 99 m) (hP : zqP (m 92) 0) (ht : 0 ≤ t) (hS : zS9 t m) (ha : m 79 48 = 0) : zJ mC t 0 m :=
  zJ_mk0 hJ (zqP_le hP ht) hS.1 ⟨hS.2, by rw [ha]; exact (hJ.1 79 49).1⟩
theorem zJ_up26 {mC : zM} {t : Int} {e : Nat} {M m : zM} {v : Int} (h : zJ mC t e M) (hm : m = zm_up M 79 26 v) (hv : 1 ≤ v ∧ v ≤ 5) : zJ m t e m := by
  subst hm
  obtain ⟨k1, k2, k3, k4, k5, k6, k7⟩ := h
  have nr : ∀ p i, (p ≠ 79 ∨ i ≠ 26) → zm_up M 79 26 v p i = M p i := fun p i hp => zm_ne hp
  refine ⟨zB_up k1 (show (0 : Int) ≤ v ∧ v ≤ 5 by omega), fun _ _ _ => rfl, ?_, Or.inr (by rw [zm_eq]; exact hv.1), ?_, ?_, ?_⟩
  · unfold zTB; rw [nr 79 5 (by decide), nr 79 8 (by decide)]; exact k3
  · exact k5.imp id (Or.imp id (fun q => zqP_eq q (fun j _ => nr 92 j (Or.inl (by decide)))))
  · exact k6.imp id (fun q => zqP_eq q (fun j _ => nr 105 j (Or.inl (by decide))))
  · refine k7.imp id (Or.imp id fun q => ⟨fun k hk => zqP_eq (q.1 k hk) (fun j _ => nr 98 _ (Or.inl (by decide))), ?_⟩)
    rw [nr 79 48 (by decide), nr 79 49 (by decide), zcn_eq _ (fun k _ => nr 100 k (Or.inl (by decide)))]
    exact q.2
theorem zJ_up27 {mC : zM} {t : Int} {e : Nat} {M m : zM} {v : Int} (h : zJ mC t e M) (hm : m = zm_up M 79 27 v) (h26 : 1 ≤ M 79 26) (hv : 0 ≤ v ∧ v ≤ 6) : zJ mC t e m := by
  subst hm
  obtain ⟨k1, k2, k3, k4, k5, k6, k7⟩ := h
  have nr : ∀ p i, (p ≠ 79 ∨ i ≠ 27) → zm_up M 79 27 v p i = M p i := fun p i hp => zm_ne hp
  refine ⟨zB_up k1 (show (0 : Int) ≤ v ∧ v ≤ 6 by omega), fun q j hq => by rw [nr q j (by omega)]; exact k2 q j hq, ?_, Or.inr (by rw [nr 79 26 (by decide)]; exact h26), ?_, ?_, ?_⟩
  · unfold zTB; rw [nr 79 5 (by decide), nr 79 8 (by decide)]; exact k3
  · exact k5.imp id (Or.imp id (fun q => zqP_eq q (fun j _ => nr 92 j (Or.inl (by decide)))))
  · exact k6.imp id (fun q => zqP_eq q (fun j _ => nr 105 j (Or.inl (by decide))))
  · refine k7.imp id (Or.imp id fun q => ⟨fun k hk => zqP_eq (q.1 k hk) (fun j _ => nr 98 _ (Or.inl (by decide))), ?_⟩)
    rw [nr 79 48 (by decide), nr 79 49 (by decide), zcn_eq _ (fun k _ => nr 100 k (Or.inl (by decide)))]
    exact q.2
theorem zK_upE {M m : zM} {n v : Int} {p i : Nat} (h : zK M n) (hm : m = zm_up M p i v) (q : p ≠ 86) : zK m n := by subst hm; exact zK_up h q
/-- a row as it is told, clocks before c -/
def zqT (r : Nat → Int) (c : Int) : Prop := r 175 = 0 ∧ (c ≤ 0 ∨ r 14 = -1) ∧ ∀ d : Int, 0 ≤ d → d ≤ 9 → (0 ≤ r (15 * d + 2).toNat ∧ r (15 * d + 2).toNat ≤ 1073741824) ∧ r (15 * d + 12).toNat = 0 ∧ (r (15 * d + 7).toNat = 1 → 1 ≤ r (15 * d + 4).toNat) ∧ (c ≤ d → r (15 * d + 7).toNat = 0)
theorem zqT_0 {M m : zM} {v : Int} (h : ∀ j : Nat, (j : Int) < 178 → M 92 j = 0) (hm : m = zm_up M 92 174 v) : zqT (m 92) 0 := by
  subst hm
  have e : ∀ j : Nat, j < 174 → zm_up M 92 174 v 92 j = 0 := fun j hj => by rw [zm_ne (by omega)]; exact h j (by omega)
  refine ⟨by rw [zm_ne (by omega)]; exact h 175 (by omega), Or.inl (Int.le_refl 0), fun d d0 d9 => ?_⟩
  rw [e _ (show (15 * d + 2).toNat < 174 by omega), e _ (show (15 * d + 12).toNat < 174 by omega), e _ (show (15 * d + 7).toNat < 174 by omega), e _ (show (15 * d + 4).toNat < 174 by omega)]
  exact ⟨by decide, rfl, by decide, fun _ => rfl⟩
theorem zqT_eq {M m : zM} {i : Nat} {v c : Int} (h : zqT (M 92) c) (hm : m = zm_up M 92 i v) (q : ¬ zsen i) : zqT (m 92) c := by
  subst hm
  have e : ∀ j, zsen j → zm_up M 92 i v 92 j = M 92 j := fun j hj => zm_ne (Or.inr (fun e9 => q (e9 ▸ hj)))
  obtain ⟨h1, h2, h3⟩ := h
  refine ⟨by rw [e 175 (by unfold zsen; omega)]; exact h1, by rw [e 14 (by unfold zsen; omega)]; exact h2, fun d d0 d9 => ?_⟩
  rw [e _ (show zsen (15 * d + 2).toNat by unfold zsen; omega), e _ (show zsen (15 * d + 12).toNat by unfold zsen; omega), e _ (show zsen (15 * d + 7).toNat by unfold zsen; omega), e _ (show zsen (15 * d + 4).toNat by unfold zsen; omega)]
  exact h3 d d0 d9
theorem zqT_k {M m : zM} {c k v : Int} (h : zqT (M 92) c) (hm : m = zm_up M 92 (15 * c + k).toNat v) (hc : 0 ≤ c ∧ c ≤ 9) (hk : 0 ≤ k ∧ k ≤ 6) (h2 : 0 ≤ v ∧ v ≤ 1073741824) : zqT (m 92) c := by
  subst hm
  obtain ⟨g1, g2, g3⟩ := h
  refine ⟨by rw [zm_ne (by omega)]; exact g1, by rw [zm_ne (by omega)]; exact g2, fun d d0 d9 => ?_⟩
  obtain ⟨x, y, z, w⟩ := g3 d d0 d9
  rw [zm_ne (show _ ≠ _ ∨ (15 * d + 12).toNat ≠ _ by omega), zm_ne (show _ ≠ _ ∨ (15 * d + 7).toNat ≠ _ by omega)]
  refine ⟨?_, y, ?_, w⟩
  · by_cases e : (15 * d + 2).toNat = (15 * c + k).toNat
    · rw [e, zm_eq]; exact h2
    · rw [zm_ne (Or.inr e)]; exact x
  · intro q
    have e : d < c ∨ c < d := by
      rcases Int.lt_trichotomy d c with a | a | a
      · exact Or.inl a
      · exact absurd (w (by omega)) (by omega)
      · exact Or.inr a
    rw [zm_ne (by omega)]; exact z q
theorem zqT_n {M m1 m2 : zM} {c : Int} (h : zqT (M 92) c) (h1 : m1 = zm_up M 92 (15 * c + 7).toNat 1) (h2 : m2 = zm_up m1 92 (15 * c + 14).toNat (-1)) (hc : 0 ≤ c ∧ c ≤ 9) (h4 : 1 ≤ M 92 (15 * c + 4).toNat) : zqT (m2 92) (c + 1) := by
  subst h1
  subst h2
  obtain ⟨g1, g2, g3⟩ := h
  refine ⟨by rw [zm_ne (by omega), zm_ne (by omega)]; exact g1, Or.inr ?_, fun d d0 d9 => ?_⟩
  · by_cases e : c = 0
    · subst e; exact zm_eq
    · rw [zm_ne (by omega), zm_ne (by omega)]; exact g2.resolve_left (by omega)
  · obtain ⟨x, y, z, w⟩ := g3 d d0 d9
    rw [zm_ne (show _ ≠ _ ∨ (15 * d + 2).toNat ≠ _ by omega), zm_ne (show _ ≠ _ ∨ (15 * d + 2).toNat ≠ _ by omega), zm_ne (show _ ≠ _ ∨ (15 * d + 12).toNat ≠ _ by omega), zm_ne (show _ ≠ _ ∨ (15 * d + 12).toNat ≠ _ by omega), zm_ne (show _ ≠ _ ∨ (15 * d + 7).toNat ≠ (15 * c + 14).toNat by omega), zm_ne (show _ ≠ _ ∨ (15 * d + 4).toNat ≠ (15 * c + 14).toNat by omega), zm_ne (show _ ≠ _ ∨ (15 * d + 4).toNat ≠ (15 * c + 7).toNat by omega)]
    refine ⟨x, y, ?_, ?_⟩
    · by_cases e : d = c
      · subst e; exact fun _ => h4
      · rw [zm_ne (by omega)]; exact z
    · intro hd
      rw [zm_ne (by omega)]; exact w (by omega)
theorem zqT_P {r : Nat → Int} {c : Int} (h : zqT r c) (hc : 1 ≤ c) : zqP r 0 := by
  obtain ⟨g1, g2, g3⟩ := h
  refine ⟨by omega, Or.inr (g2.resolve_left (by omega)), fun d d0 d9 => ?_⟩
  obtain ⟨x, y, z, w⟩ := g3 d d0 d9
  exact ⟨x, by omega, z⟩
theorem zv86_b : ∀ c : Fin 6, ∀ k : Fin 7, zql (15 * c.val + k.val) ≤ 0 ∧ zkh.getD k.val 99 ≤ zqh (15 * c.val + k.val) := by decide +kernel
theorem zv86_w {m : zM} {c k : Int} (h : zB m) (hc : 0 ≤ c ∧ c ≤ 5) (hk : 0 ≤ k ∧ k ≤ 6) : zlo 92 (15 * c + k).toNat ≤ m 86 (7 * c + k).toNat ∧ m 86 (7 * c + k).toNat ≤ zhi 92 (15 * c + k).toNat := by
  have h1 := h 86 (7 * c + k).toNat
  have e1 : zlo 86 (7 * c + k).toNat = 0 := rfl
  have e2 : zhi 86 (7 * c + k).toNat = zkh.getD ((7 * c + k).toNat % 7) 99 := rfl
  have e3 : (7 * c + k).toNat % 7 = k.toNat := by omega
  rw [e1, e2, e3] at h1
  have h2 := zv86_b ⟨c.toNat, by omega⟩ ⟨k.toNat, by omega⟩
  dsimp only at h2
  rw [show 15 * c.toNat + k.toNat = (15 * c + k).toNat by omega] at h2
  rw [(zV_92.2 _).1, (zV_92.2 _).2]
  omega
theorem zJ_self {mC : zM} {t : Int} {e : Nat} {m : zM} (h : zJ mC t e m) : zJ m t e m := ⟨h.1, fun _ _ _ => rfl, h.2.2⟩
theorem zI_self {c : Nat × Nat} {mM m : zM} (h : zI c mM m) : zI c m m := ⟨h.1, h.2.1, h.2.2.1, h.2.2.2.1, fun _ _ _ => rfl⟩
theorem zI_upE {c : Nat × Nat} {mM M m : zM} {p i : Nat} {v : Int} (h : zI c mM M) (hm : m = zm_up M p i v) (hk : zOk p i) (hv : zlo p i ≤ v ∧ v ≤ zhi p i) : zI c mM m := by rw [hm]; exact zI_up h hk hv
theorem zI_tasE {c : Nat × Nat} {mM M m : zM} {v : Int} (h : zI c mM M) (hm : m = zm_up M 18 1 v) (hv : v = 0 ∨ ((v = 107 ∨ v = 111 ∨ v = 115 ∨ v = 119) ∧ v + 4 ≤ (c.1 : Int))) : zI c mM m := by rw [hm]; exact zI_tas h hv
theorem zI_cpE {c : Nat × Nat} {mM M m : zM} {a b k : Nat} (h : zI c mM M) (hm : m = zm_cp M a b k) (hk : a ≠ 12 ∧ a ≠ 18 ∧ a ≠ 0 ∧ a ≠ 68 ∧ a < 79 ∧ a ≠ 2 ∧ a ≠ 1 ∧ a ≠ 75) (hb : ∀ i, i < k → zlo a i ≤ zlo b i ∧ zhi b i ≤ zhi a i) : zI c mM m := by rw [hm]; exact zI_cp h hk hb
/-- what is kept, from one to another -/
theorem zI_kp {c c1 : Nat × Nat} {mM m m1 : zM} (h : zI c mM m) (h1 : zI c1 mM m1) (p i : Nat) (hk : zQk p i) : m1 p i = m p i := by rw [h1.2.2.2.2 p i hk, h.2.2.2.2 p i hk]

