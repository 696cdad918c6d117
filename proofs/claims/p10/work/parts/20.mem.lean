/-! MEMORY: numbers by place and row; what the heap is of it (wip/tools/gen_mem.py) -/
abbrev zM : Type := Nat → Nat → Int
def zm_rf (x : Int) : Value := if x = 0 then .null else .ref x.toNat
def zm_ro (x : Int) : Option Nat := if x = 0 then none else some x.toNat
def zm_up (m : zM) (p i : Nat) (v : Int) : zM := fun p1 i1 => if p1 = p ∧ i1 = i then v else m p1 i1
def zm_tas (k : Nat) (r : Nat → Int) : z_E := match (k - 107) % 4 with
  | 0 => .inr (9, [.ref (k + 3), .int (Int32.ofInt (r 1)), .ref (k + 1), .ref (k + 2)])
  | 1 => .inl (0, 6, .inl (fun j => Int32.ofInt (r j)))
  | 2 => .inl (1, 32, .inr (.inl (fun j => Int64.ofInt (r j))))
  | _ => .inl (0, (r 1001).toNat, .inl (fun j => Int32.ofInt (r j)))
def zm_sh (k : Nat) (r : Nat → Int) : z_E := bif Nat.ble 107 k then zm_tas k r else (bif Nat.ble k 53 then (bif Nat.ble k 26 then (bif Nat.ble k 13 then (bif Nat.ble k 6 then (bif Nat.ble k 3 then (bif Nat.ble k 1 then (bif Nat.ble k 0 then .inr (11, [.ref 1, .ref 3, .ref 10, .ref 12, .ref 13, .ref 17, .ref 18, .ref 23, .ref 68, .ref 69, .ref 73, .ref 75, .int (Int32.ofInt (r 12)), .int (Int32.ofInt (r 13)), .int (Int32.ofInt (r 14))]) else .inr (8, [.ref 2, .int (Int32.ofInt (r 1)), .int (Int32.ofInt (r 2)), .int (Int32.ofInt (r 3))])) else (bif Nat.ble k 2 then .inl (0, 240, .inl (fun j => Int32.ofInt (r j))) else .inr (4, [.ref 1, .ref 4, .ref 8, .ref 9]))) else (bif Nat.ble k 5 then (bif Nat.ble k 4 then .inr (6, [.ref 5, .ref 6, .ref 7, .int (Int32.ofInt (r 3)), .int (Int32.ofInt (r 4))]) else .inl (0, 5, .inl (fun j => Int32.ofInt (r j)))) else .inl (0, 48, .inl (fun j => Int32.ofInt (r j))))) else (bif Nat.ble k 10 then (bif Nat.ble k 8 then (bif Nat.ble k 7 then .inl (0, 6, .inl (fun j => Int32.ofInt (r j))) else .inl (0, 188, .inl (fun j => Int32.ofInt (r j)))) else (bif Nat.ble k 9 then .inl (0, 7, .inl (fun j => Int32.ofInt (r j))) else .inr (10, [.ref 1, .ref 11, .int (Int32.ofInt (r 2)), .int (Int32.ofInt (r 3))]))) else (bif Nat.ble k 12 then (bif Nat.ble k 11 then .inl (0, 240, .inl (fun j => Int32.ofInt (r j))) else .inl (4, 4, .inr (.inr (.inr (.inr (fun j => zm_ro (r j))))))) else .inr (6, [.ref 14, .ref 15, .ref 16, .int (Int32.ofInt (r 3)), .int (Int32.ofInt (r 4))])))) else (bif Nat.ble k 20 then (bif Nat.ble k 17 then (bif Nat.ble k 15 then (bif Nat.ble k 14 then .inl (0, 5, .inl (fun j => Int32.ofInt (r j))) else .inl (0, 48, .inl (fun j => Int32.ofInt (r j)))) else (bif Nat.ble k 16 then .inl (0, 6, .inl (fun j => Int32.ofInt (r j))) else .inl (0, 188, .inl (fun j => Int32.ofInt (r j))))) else (bif Nat.ble k 19 then (bif Nat.ble k 18 then .inr (3, [.ref 13, zm_rf (r 1), .ref 19, .int (Int32.ofInt (r 3)), .int (Int32.ofInt (r 4)), .int (Int32.ofInt (r 5)), .int (Int32.ofInt (r 6)), .int (Int32.ofInt (r 7)), .int (Int32.ofInt (r 8)), .ref 20, .ref 21, .ref 22]) else .inl (0, 10, .inl (fun j => Int32.ofInt (r j)))) else .inl (3, 10, .inl (fun j => Int32.ofInt (r j))))) else (bif Nat.ble k 23 then (bif Nat.ble k 22 then (bif Nat.ble k 21 then .inl (0, 20, .inl (fun j => Int32.ofInt (r j))) else .inl (0, 20, .inl (fun j => Int32.ofInt (r j)))) else .inr (5, [.ref 24, .ref 65, .ref 66, .ref 67, .int (Int32.ofInt (r 4)), .int (Int32.ofInt (r 5)), .int (Int32.ofInt (r 6)), .int (Int32.ofInt (r 7)), .int (Int32.ofInt (r 8))])) else (bif Nat.ble k 25 then (bif Nat.ble k 24 then .inl (5, 40, .inr (.inr (.inr (.inr (fun j => if j < 40 then some (25 + j) else none))))) else .inl (0, 188, .inl (fun j => Int32.ofInt (r j)))) else .inl (0, 188, .inl (fun j => Int32.ofInt (r j))))))) else (bif Nat.ble k 40 then (bif Nat.ble k 33 then (bif Nat.ble k 30 then (bif Nat.ble k 28 then (bif Nat.ble k 27 then .inl (0, 188, .inl (fun j => Int32.ofInt (r j))) else .inl (0, 188, .inl (fun j => Int32.ofInt (r j)))) else (bif Nat.ble k 29 then .inl (0, 188, .inl (fun j => Int32.ofInt (r j))) else .inl (0, 188, .inl (fun j => Int32.ofInt (r j))))) else (bif Nat.ble k 32 then (bif Nat.ble k 31 then .inl (0, 188, .inl (fun j => Int32.ofInt (r j))) else .inl (0, 188, .inl (fun j => Int32.ofInt (r j)))) else .inl (0, 188, .inl (fun j => Int32.ofInt (r j))))) else (bif Nat.ble k 37 then (bif Nat.ble k 35 then (bif Nat.ble k 34 then .inl (0, 188, .inl (fun j => Int32.ofInt (r j))) else .inl (0, 188, .inl (fun j => Int32.ofInt (r j)))) else (bif Nat.ble k 36 then .inl (0, 188, .inl (fun j => Int32.ofInt (r j))) else .inl (0, 188, .inl (fun j => Int32.ofInt (r j))))) else (bif Nat.ble k 39 then (bif Nat.ble k 38 then .inl (0, 188, .inl (fun j => Int32.ofInt (r j))) else .inl (0, 188, .inl (fun j => Int32.ofInt (r j)))) else .inl (0, 188, .inl (fun j => Int32.ofInt (r j)))))) else (bif Nat.ble k 47 then (bif Nat.ble k 44 then (bif Nat.ble k 42 then (bif Nat.ble k 41 then .inl (0, 188, .inl (fun j => Int32.ofInt (r j))) else .inl (0, 188, .inl (fun j => Int32.ofInt (r j)))) else (bif Nat.ble k 43 then .inl (0, 188, .inl (fun j => Int32.ofInt (r j))) else .inl (0, 188, .inl (fun j => Int32.ofInt (r j))))) else (bif Nat.ble k 46 then (bif Nat.ble k 45 then .inl (0, 188, .inl (fun j => Int32.ofInt (r j))) else .inl (0, 188, .inl (fun j => Int32.ofInt (r j)))) else .inl (0, 188, .inl (fun j => Int32.ofInt (r j))))) else (bif Nat.ble k 50 then (bif Nat.ble k 49 then (bif Nat.ble k 48 then .inl (0, 188, .inl (fun j => Int32.ofInt (r j))) else .inl (0, 188, .inl (fun j => Int32.ofInt (r j)))) else .inl (0, 188, .inl (fun j => Int32.ofInt (r j)))) else (bif Nat.ble k 52 then (bif Nat.ble k 51 then .inl (0, 188, .inl (fun j => Int32.ofInt (r j))) else .inl (0, 188, .inl (fun j => Int32.ofInt (r j)))) else .inl (0, 188, .inl (fun j => Int32.ofInt (r j)))))))) else (bif Nat.ble k 80 then (bif Nat.ble k 67 then (bif Nat.ble k 60 then (bif Nat.ble k 57 then (bif Nat.ble k 55 then (bif Nat.ble k 54 then .inl (0, 188, .inl (fun j => Int32.ofInt (r j))) else .inl (0, 188, .inl (fun j => Int32.ofInt (r j)))) else (bif Nat.ble k 56 then .inl (0, 188, .inl (fun j => Int32.ofInt (r j))) else .inl (0, 188, .inl (fun j => Int32.ofInt (r j))))) else (bif Nat.ble k 59 then (bif Nat.ble k 58 then .inl (0, 188, .inl (fun j => Int32.ofInt (r j))) else .inl (0, 188, .inl (fun j => Int32.ofInt (r j)))) else .inl (0, 188, .inl (fun j => Int32.ofInt (r j))))) else (bif Nat.ble k 64 then (bif Nat.ble k 62 then (bif Nat.ble k 61 then .inl (0, 188, .inl (fun j => Int32.ofInt (r j))) else .inl (0, 188, .inl (fun j => Int32.ofInt (r j)))) else (bif Nat.ble k 63 then .inl (0, 188, .inl (fun j => Int32.ofInt (r j))) else .inl (0, 188, .inl (fun j => Int32.ofInt (r j))))) else (bif Nat.ble k 66 then (bif Nat.ble k 65 then .inl (3, 40, .inl (fun j => Int32.ofInt (r j))) else .inl (0, 400, .inl (fun j => Int32.ofInt (r j)))) else .inl (0, 188, .inl (fun j => Int32.ofInt (r j)))))) else (bif Nat.ble k 74 then (bif Nat.ble k 71 then (bif Nat.ble k 69 then (bif Nat.ble k 68 then .inr (0, [.int (Int32.ofInt (r 0)), .long (Int64.ofInt (r 1))]) else .inr (2, [.ref 13, .ref 18, .ref 70, .ref 71, .ref 72, .int (Int32.ofInt (r 5)), .int (Int32.ofInt (r 6))])) else (bif Nat.ble k 70 then .inl (0, 188, .inl (fun j => Int32.ofInt (r j))) else .inl (0, 16, .inl (fun j => Int32.ofInt (r j))))) else (bif Nat.ble k 73 then (bif Nat.ble k 72 then .inl (0, 16, .inl (fun j => Int32.ofInt (r j))) else .inr (7, [.ref 13, .ref 18, .ref 74, .int (Int32.ofInt (r 3)), .int (Int32.ofInt (r 4))])) else .inl (0, 188, .inl (fun j => Int32.ofInt (r j))))) else (bif Nat.ble k 77 then (bif Nat.ble k 76 then (bif Nat.ble k 75 then .inr (1, [.ref 13, .ref 18, .ref 76, .ref 77, .ref 78, .int (Int32.ofInt (r 5))]) else .inl (0, 188, .inl (fun j => Int32.ofInt (r j)))) else .inl (0, 6, .inl (fun j => Int32.ofInt (r j)))) else (bif Nat.ble k 79 then (bif Nat.ble k 78 then .inl (0, 6, .inl (fun j => Int32.ofInt (r j))) else .inr (12, [.int (Int32.ofInt (r 0)), .ref 80, .ref 81, .ref 82, .ref 83, zm_rf (r 5), .int (Int32.ofInt (r 6)), .int (Int32.ofInt (r 7)), .int (Int32.ofInt (r 8)), .int (Int32.ofInt (r 9)), .int (Int32.ofInt (r 10)), .int (Int32.ofInt (r 11)), .int (Int32.ofInt (r 12)), .int (Int32.ofInt (r 13)), .int (Int32.ofInt (r 14)), .ref (z_RO + 5), .ref (z_RO + 3), .int (Int32.ofInt (r 17)), .ref 84, .ref 85, .ref 86, .ref 87, .ref 88, .ref 89, .ref 90, .ref 91, .int (Int32.ofInt (r 26)), .int (Int32.ofInt (r 27)), .int (Int32.ofInt (r 28)), .int (Int32.ofInt (r 29)), .int (Int32.ofInt (r 30)), .ref 92, .ref 93, .int (Int32.ofInt (r 33)), .int (Int32.ofInt (r 34)), .ref 94, .ref 95, .int (Int32.ofInt (r 37)), .int (Int32.ofInt (r 38)), .int (Int32.ofInt (r 39)), .int (Int32.ofInt (r 40)), .int (Int32.ofInt (r 41)), .int (Int32.ofInt (r 42)), .ref 96, .ref 97, .ref 98, .ref 99, .ref 100, .int (Int32.ofInt (r 48)), .int (Int32.ofInt (r 49)), .long (Int64.ofInt (r 50)), .ref 101, .ref 102, .int (Int32.ofInt (r 53)), .ref 103, .ref 104, .ref 105, .int (Int32.ofInt (r 57))])) else .inl (2, 240, .inl (fun j => Int32.ofInt (r j))))))) else (bif Nat.ble k 93 then (bif Nat.ble k 87 then (bif Nat.ble k 84 then (bif Nat.ble k 82 then (bif Nat.ble k 81 then .inl (2, 960, .inl (fun j => Int32.ofInt (r j))) else .inl (0, 4, .inl (fun j => Int32.ofInt (r j)))) else (bif Nat.ble k 83 then .inl (0, 128, .inl (fun j => Int32.ofInt (r j))) else .inl (0, 5, .inl (fun j => Int32.ofInt (r j))))) else (bif Nat.ble k 86 then (bif Nat.ble k 85 then .inl (0, 5, .inl (fun j => Int32.ofInt (r j))) else .inl (0, 42, .inl (fun j => Int32.ofInt (r j)))) else .inl (0, 12, .inl (fun j => Int32.ofInt (r j))))) else (bif Nat.ble k 90 then (bif Nat.ble k 89 then (bif Nat.ble k 88 then .inl (0, 48, .inl (fun j => Int32.ofInt (r j))) else .inl (0, 48, .inl (fun j => Int32.ofInt (r j)))) else .inl (0, 6, .inl (fun j => Int32.ofInt (r j)))) else (bif Nat.ble k 92 then (bif Nat.ble k 91 then .inl (0, 6, .inl (fun j => Int32.ofInt (r j))) else .inl (0, 178, .inl (fun j => Int32.ofInt (r j)))) else .inl (0, 178, .inl (fun j => Int32.ofInt (r j)))))) else (bif Nat.ble k 100 then (bif Nat.ble k 97 then (bif Nat.ble k 95 then (bif Nat.ble k 94 then .inl (0, 10, .inl (fun j => Int32.ofInt (r j))) else .inl (0, 10, .inl (fun j => Int32.ofInt (r j)))) else (bif Nat.ble k 96 then .inl (1, 8191, .inr (.inl (fun j => Int64.ofInt (r j)))) else .inl (0, 8191, .inl (fun j => Int32.ofInt (r j))))) else (bif Nat.ble k 99 then (bif Nat.ble k 98 then .inl (0, 7120, .inl (fun j => Int32.ofInt (r j))) else .inl (0, 240, .inl (fun j => Int32.ofInt (r j)))) else .inl (3, 40, .inl (fun j => Int32.ofInt (r j))))) else (bif Nat.ble k 103 then (bif Nat.ble k 102 then (bif Nat.ble k 101 then .inl (0, 6, .inl (fun j => Int32.ofInt (r j))) else .inl (0, 6, .inl (fun j => Int32.ofInt (r j)))) else .inl (0, 16, .inl (fun j => Int32.ofInt (r j)))) else (bif Nat.ble k 105 then (bif Nat.ble k 104 then .inl (0, 16, .inl (fun j => Int32.ofInt (r j))) else .inl (0, 178, .inl (fun j => Int32.ofInt (r j)))) else .inl (1, 1, .inr (.inl (fun j => Int64.ofInt (r j))))))))))
def zk (c : Nat × Nat) (m : zM) : z_H := (c.1, c.2, fun k => zm_sh k (m k))
/-- a number of 32 bits; of 64 -/
def zR (a : Int) : Prop := -2147483648 ≤ a ∧ a ≤ 2147483647
def zR8 (a : Int) : Prop := -9223372036854775808 ≤ a ∧ a ≤ 9223372036854775807
theorem zi_to {a : Int} (h : zR a) : (Int32.ofInt a).toInt = a := by
  unfold zR at h
  rw [Int32.toInt_ofInt_of_le] <;> omega
theorem zl_to {a : Int} (h : zR8 a) : (Int64.ofInt a).toInt = a := by
  unfold zR8 at h
  rw [Int64.toInt_ofInt_of_le] <;> omega
theorem zi_x {x : Int32} {a : Int} (hx : x = Int32.ofInt a) (r : zR a) : x.toInt = a := by rw [hx, zi_to r]
theorem zl_x {x : Int64} {a : Int} (hx : x = Int64.ofInt a) (r : zR8 a) : x.toInt = a := by rw [hx, zl_to r]
theorem zi_add {x y : Int32} {a b : Int} (hx : x = Int32.ofInt a) (hy : y = Int32.ofInt b) : x + y = Int32.ofInt (a + b) := by rw [hx, hy, Int32.ofInt_add]
theorem zi_sub {x y : Int32} {a b : Int} (hx : x = Int32.ofInt a) (hy : y = Int32.ofInt b) : x - y = Int32.ofInt (a - b) := by rw [hx, hy, Int32.ofInt_sub]
theorem zi_mul {x y : Int32} {a b : Int} (hx : x = Int32.ofInt a) (hy : y = Int32.ofInt b) : x * y = Int32.ofInt (a * b) := by rw [hx, hy, Int32.ofInt_mul]
theorem zi_neg {x : Int32} {a : Int} (hx : x = Int32.ofInt a) : -x = Int32.ofInt (-a) := by rw [hx, Int32.ofInt_neg]
theorem zl_add {x y : Int64} {a b : Int} (hx : x = Int64.ofInt a) (hy : y = Int64.ofInt b) : x + y = Int64.ofInt (a + b) := by rw [hx, hy, Int64.ofInt_add]
theorem zl_sub {x y : Int64} {a b : Int} (hx : x = Int64.ofInt a) (hy : y = Int64.ofInt b) : x - y = Int64.ofInt (a - b) := by rw [hx, hy, Int64.ofInt_sub]
theorem zl_mul {x y : Int64} {a b : Int} (hx : x = Int64.ofInt a) (hy : y = Int64.ofInt b) : x * y = Int64.ofInt (a * b) := by rw [hx, hy, Int64.ofInt_mul]
theorem zi_lt {x y : Int32} {a b : Int} (hx : x = Int32.ofInt a) (hy : y = Int32.ofInt b) (ra : zR a) (rb : zR b) : x < y ↔ a < b := by rw [Int32.lt_iff_toInt_lt, zi_x hx ra, zi_x hy rb]
theorem zi_le {x y : Int32} {a b : Int} (hx : x = Int32.ofInt a) (hy : y = Int32.ofInt b) (ra : zR a) (rb : zR b) : x ≤ y ↔ a ≤ b := by rw [Int32.le_iff_toInt_le, zi_x hx ra, zi_x hy rb]
theorem zi_eq {x y : Int32} {a b : Int} (hx : x = Int32.ofInt a) (hy : y = Int32.ofInt b) (ra : zR a) (rb : zR b) : x = y ↔ a = b := by
  rw [← Int32.toInt_inj, zi_x hx ra, zi_x hy rb]
theorem zi_i2l {x : Int32} {a : Int} (hx : x = Int32.ofInt a) (ra : zR a) : x.toInt64 = Int64.ofInt a := by
  apply Int64.toInt_inj.mp
  rw [Int32.toInt_toInt64, zi_x hx ra, zl_to]
  unfold zR at ra; unfold zR8; omega
theorem zl_l2i {x : Int64} {a : Int} (hx : x = Int64.ofInt a) : x.toInt32 = Int32.ofInt a := by
  rw [hx]
  apply Int32.toInt_inj.mp
  rw [Int64.toInt_toInt32, Int64.toInt_ofInt, Int32.toInt_ofInt]
  exact Int.bmod_bmod_of_dvd (by decide)
theorem zi_nat {x : Int32} {a : Int} (hx : x = Int32.ofInt a) (ra : zR a) : x.toNatClampNeg = a.toNat := by
  rw [← Int32.toNat_toInt, zi_x hx ra]
theorem zi_in {x : Int32} {a : Int} {n : Nat} (hx : x = Int32.ofInt a) (h0 : 0 ≤ a) (h1 : a < n) (hn : n ≤ 2147483647) : vp_in x n := by
  have ra : zR a := by unfold zR; omega
  unfold vp_in
  rw [zi_nat hx ra, Int32.lt_iff_toInt_lt, zi_x hx ra]
  intro q
  rcases q with q | q
  · have : (0 : Int32).toInt = 0 := by decide
    omega
  · omega
theorem zi_div {x y : Int32} {a b : Int} (hx : x = Int32.ofInt a) (hy : y = Int32.ofInt b) (ra : zR a) (rb : zR b) : x / y = Int32.ofInt (a.tdiv b) := by
  apply Int32.toInt_inj.mp
  rw [Int32.toInt_div, zi_x hx ra, zi_x hy rb, Int32.toInt_ofInt]
theorem zi_nz {y : Int32} {b : Int} (hy : y = Int32.ofInt b) (rb : zR b) (h : b ≠ 0) : ¬ y = 0 := by
  intro q
  apply h
  have := zi_x hy rb
  rw [q] at this
  rw [← this]; decide
theorem zi_rem {x y : Int32} {a b : Int} (hx : x = Int32.ofInt a) (hy : y = Int32.ofInt b) (ra : zR a) (rb : zR b) : x - x / y * y = Int32.ofInt (a.tmod b) := by
  rw [zi_div hx hy ra rb, zi_sub hx (zi_mul rfl hy)]
  rw [Int.tmod_def, Int.mul_comm]
def zb_and (a b : Int) : Int := ((Int32.ofInt a) &&& (Int32.ofInt b)).toInt
def zb_or (a b : Int) : Int := ((Int32.ofInt a) ||| (Int32.ofInt b)).toInt
def zb_xor (a b : Int) : Int := ((Int32.ofInt a) ^^^ (Int32.ofInt b)).toInt
def zb_shl (a b : Int) : Int := ((Int32.ofInt a) <<< ((Int32.ofInt b) &&& 31)).toInt
def zb_shr (a b : Int) : Int := ((Int32.ofInt a) >>> ((Int32.ofInt b) &&& 31)).toInt
def zb_ushr (a b : Int) : Int := (((Int32.ofInt a).toUInt32 >>> ((Int32.ofInt b).toUInt32 &&& Int32.toUInt32 31)).toInt32).toInt
theorem zi_rt (x : Int32) : x = Int32.ofInt x.toInt := (Int32.ofInt_toInt x).symm
theorem zi_rR (x : Int32) : zR x.toInt := ⟨Int32.le_toInt x, by have := Int32.toInt_lt x; omega⟩
theorem zi_and {x y : Int32} {a b : Int} (hx : x = Int32.ofInt a) (hy : y = Int32.ofInt b) : x &&& y = Int32.ofInt (zb_and a b) := by rw [hx, hy]; exact zi_rt _
theorem zi_or {x y : Int32} {a b : Int} (hx : x = Int32.ofInt a) (hy : y = Int32.ofInt b) : x ||| y = Int32.ofInt (zb_or a b) := by rw [hx, hy]; exact zi_rt _
theorem zi_xor {x y : Int32} {a b : Int} (hx : x = Int32.ofInt a) (hy : y = Int32.ofInt b) : x ^^^ y = Int32.ofInt (zb_xor a b) := by rw [hx, hy]; exact zi_rt _
theorem zi_shl {x y : Int32} {a b : Int} (hx : x = Int32.ofInt a) (hy : y = Int32.ofInt b) : x <<< (y &&& 31) = Int32.ofInt (zb_shl a b) := by rw [hx, hy]; exact zi_rt _
theorem zi_shr {x y : Int32} {a b : Int} (hx : x = Int32.ofInt a) (hy : y = Int32.ofInt b) : x >>> (y &&& 31) = Int32.ofInt (zb_shr a b) := by rw [hx, hy]; exact zi_rt _
theorem zi_ushr {x y : Int32} {a b : Int} (hx : x = Int32.ofInt a) (hy : y = Int32.ofInt b) : (x.toUInt32 >>> (y.toUInt32 &&& Int32.toUInt32 31)).toInt32 = Int32.ofInt (zb_ushr a b) := by rw [hx, hy]; exact zi_rt _
theorem zb_andR (a b : Int) : zR (zb_and a b) := zi_rR _
theorem zb_orR (a b : Int) : zR (zb_or a b) := zi_rR _
theorem zb_xorR (a b : Int) : zR (zb_xor a b) := zi_rR _
theorem zb_shlR (a b : Int) : zR (zb_shl a b) := zi_rR _
theorem zb_shrR (a b : Int) : zR (zb_shr a b) := zi_rR _
theorem zb_ushrR (a b : Int) : zR (zb_ushr a b) := zi_rR _
/-- and with a number that isn't negative -/
theorem zb_and_le {a b : Int} (h0 : 0 ≤ b) (h1 : b ≤ 2147483647) : 0 ≤ zb_and a b ∧ zb_and a b ≤ b := by
  unfold zb_and
  have hn : (Int32.ofInt b).toBitVec.toNat = b.toNat := by
    show (BitVec.ofInt 32 b).toNat = b.toNat
    rw [BitVec.toNat_ofInt, Int.emod_eq_of_lt h0 (by omega)]
  have hl : ((Int32.ofInt a) &&& (Int32.ofInt b)).toBitVec.toNat ≤ b.toNat := by
    rw [Int32.toBitVec_and, BitVec.toNat_and, hn]
    exact Nat.and_le_right
  have e : ((Int32.ofInt a) &&& (Int32.ofInt b)).toInt = ((((Int32.ofInt a) &&& (Int32.ofInt b)).toBitVec.toNat : Nat) : Int) := by
    rw [Int32.toInt, BitVec.toInt_eq_toNat_of_lt]
    omega
  rw [e]
  omega
/-- a store -/
theorem zk_up (c : Nat × Nat) (m : zM) (p i : Nat) (v : Int) (e : z_E) (he : e = zm_sh p (fun j => if j = i then v else m p j)) : z_hup (zk c m) p e = zk c (zm_up m p i v) := by
  subst he
  unfold z_hup zk
  dsimp only
  congr 2
  funext k
  unfold va_up
  by_cases h : k = p
  · subst h
    rw [if_pos rfl]
    congr 1
    funext j
    unfold zm_up
    simp
  · rw [if_neg h]
    show zm_sh k (m k) = zm_sh k (zm_up m p i v k)
    congr 1
    funext j
    unfold zm_up
    rw [if_neg (fun q => h q.1)]
def zA (t p n : Nat) : Prop := ∀ r, zm_sh p r = .inl (t, n, .inl (fun j => Int32.ofInt (r j)))
theorem zk_ias (c : Nat × Nat) (m : zM) {p n : Nat} (hp : zA 0 p n) {x y : Int32} {a v : Int} (hx : x = Int32.ofInt a) (ra : zR a) (hy : y = Int32.ofInt v) :
    z_hup (zk c m) p (.inl (0, n, .inl (upd (fun j => Int32.ofInt (m p j)) x.toNatClampNeg y))) = zk c (zm_up m p a.toNat v) := by
  refine zk_up c m p a.toNat v _ ?_
  rw [hp, zi_nat hx ra, hy]
  congr 4
  funext j
  unfold upd
  split <;> rfl
theorem zk_ra (c : Nat × Nat) (m : zM) {t p n : Nat} (hp : zA t p n) (hN : p < c.1) : (zk c m).2.2 p = .inl (t, n, .inl (fun j => Int32.ofInt (m p j))) ∧ p < (zk c m).1 := ⟨hp _, hN⟩
theorem zk_rd {f : Nat → Int} {x : Int32} {a : Int} (hx : x = Int32.ofInt a) (ra : zR a) : Int32.ofInt (f x.toNatClampNeg) = Int32.ofInt (f a.toNat) := by rw [zi_nat hx ra]
/-- from a state on: it ends, with Q of what comes back -/
def zW (zn : Bool) (d y : Nat) (c : Nat × Nat) (st : z_S) (Q : Option Value → z_H → Prop) : Prop := ∃ st2 v h', z_reach (z_sem zn d) (none, zn) c y st st2 ∧ z_fin y st2 v h' ∧ Q v h'
theorem zW.step {zn : Bool} {d y : Nat} {c : Nat × Nat} {st st1 st2 : z_S} {Q : Option Value → z_H → Prop} (h : z_reach (z_sem zn d) (none, zn) c y st st1) (e : st1 = st2) (k : zW zn d y c st2 Q) : zW zn d y c st Q := by
  subst e
  obtain ⟨s2, v, h', a1, a2, a3⟩ := k
  exact ⟨s2, v, h', h.trans a1, a2, a3⟩
theorem zW.fin {zn : Bool} {d y : Nat} {c : Nat × Nat} {st : z_S} {Q : Option Value → z_H → Prop} {v : Option Value} {h' : z_H} (h : z_fin y st v h') (k : Q v h') : zW zn d y c st Q := ⟨st, v, h', z_reach.rf, h, k⟩
theorem z_steq {pc : Nat} {l l' : List (Option Value)} {s s' : List Value} {h h' : z_H} (hl : l = l') (hs : s = s') (hh : h = h') : ((pc, l, s, h) : z_S) = (pc, l', s', h') := by rw [hl, hs, hh]
theorem z_c1 {α : Type} {a b : α} {l l' : List α} (h : a = b) (t : l = l') : a :: l = b :: l' := by rw [h, t]
theorem z_si {x y : Int32} (h : x = y) : some (Value.int x) = some (Value.int y) := by rw [h]
theorem z_vi {x y : Int32} (h : x = y) : Value.int x = Value.int y := by rw [h]
theorem z_sl {x y : Int64} (h : x = y) : some (Value.long x) = some (Value.long y) := by rw [h]
theorem z_vl {x y : Int64} (h : x = y) : Value.long x = Value.long y := by rw [h]
/-- a call that gives an int; none -/
def zCi (zn : Bool) (d y : Nat) (args : List Value) (c : Nat × Nat) (m : zM) (Q : Int → zM → Prop) : Prop := ∃ r m', z_sem zn d y args (zk c m) (some (.int (Int32.ofInt r))) (zk c m') ∧ Q r m'
def zCv (zn : Bool) (d y : Nat) (args : List Value) (c : Nat × Nat) (m : zM) (Q : zM → Prop) : Prop := ∃ m', z_sem zn d y args (zk c m) none (zk c m') ∧ Q m'
theorem zCi.of {zn : Bool} {d y : Nat} {args : List Value} {c : Nat × Nat} {m : zM} {Q : Int → zM → Prop} (hu : z_useok y = true) (hl : c.1 < z_RO) (ha : (z_as args).length ≤ z_ml y)
    (h : zW zn d y c (0, z_args (z_ml y) args, [], zk c m) (fun v h' => ∃ r m', v = some (.int (Int32.ofInt r)) ∧ h' = zk c m' ∧ Q r m')) : zCi zn (d + 1) y args c m Q := by
  obtain ⟨st2, v, h', a1, a2, r, m', rfl, rfl, a3⟩ := h
  exact ⟨r, m', z_sem_of hu hl ha a1 a2, a3⟩
theorem zCv.of {zn : Bool} {d y : Nat} {args : List Value} {c : Nat × Nat} {m : zM} {Q : zM → Prop} (hu : z_useok y = true) (hl : c.1 < z_RO) (ha : (z_as args).length ≤ z_ml y)
    (h : zW zn d y c (0, z_args (z_ml y) args, [], zk c m) (fun v h' => ∃ m', v = none ∧ h' = zk c m' ∧ Q m')) : zCv zn (d + 1) y args c m Q := by
  obtain ⟨st2, v, h', a1, a2, m', rfl, rfl, a3⟩ := h
  exact ⟨m', z_sem_of hu hl ha a1 a2, a3⟩
theorem zb_and_le2 {a b : Int} (h0 : 0 ≤ a) (h1 : a ≤ 2147483647) : 0 ≤ zb_and a b ∧ zb_and a b ≤ a := by
  have := zb_and_le (a := b) h0 h1
  unfold zb_and at this ⊢
  rw [Int32.and_comm]
  exact this
def zb_lushr (a b : Int) : Int := (((Int64.ofInt a).toUInt64 >>> ((Int32.ofInt b).toInt64.toUInt64 &&& Int64.toUInt64 63)).toInt64).toInt
theorem zl_ushr {x : Int64} {y : Int32} {a b : Int} (hx : x = Int64.ofInt a) (hy : y = Int32.ofInt b) : (x.toUInt64 >>> (y.toInt64.toUInt64 &&& Int64.toUInt64 63)).toInt64 = Int64.ofInt (zb_lushr a b) := by
  rw [hx, hy]
  exact (Int64.ofInt_toInt _).symm
theorem ztd (a b : Int) (hb : 0 < b) : (0 ≤ a → 0 ≤ Int.tdiv a b ∧ Int.tdiv a b ≤ a) ∧ (a ≤ 0 → a ≤ Int.tdiv a b ∧ Int.tdiv a b ≤ 0) := by
  refine ⟨fun h => ?_, fun h => ?_⟩
  · rw [Int.tdiv_eq_ediv_of_nonneg h]
    exact ⟨Int.ediv_nonneg h (by omega), Int.ediv_le_self _ h⟩
  · obtain ⟨n, rfl⟩ : ∃ n : Int, a = -n := ⟨-a, by omega⟩
    have hn : 0 ≤ n := by omega
    rw [Int.neg_tdiv, Int.tdiv_eq_ediv_of_nonneg hn]
    have h1 := Int.ediv_nonneg hn (show 0 ≤ b by omega)
    have h2 := Int.ediv_le_self b hn
    omega
theorem ztm (a b : Int) (hb : 0 < b) : -b < Int.tmod a b ∧ Int.tmod a b < b ∧ (0 ≤ a → 0 ≤ Int.tmod a b ∧ Int.tmod a b ≤ a) := by
  refine ⟨?_, Int.tmod_lt_of_pos a hb, fun h => ⟨Int.tmod_nonneg b h, ?_⟩⟩
  · have := Int.lt_tmod_of_pos a hb
    omega
  · rw [Int.tmod_def]
    have h1 := ((ztd a b hb).1 h).1
    have h2 := Int.mul_nonneg (show 0 ≤ b by omega) h1
    omega
theorem ztd9 (a b : Int) : (0 < b → (0 ≤ a → 0 ≤ Int.tdiv a b ∧ Int.tdiv a b ≤ a) ∧ (a ≤ 0 → a ≤ Int.tdiv a b ∧ Int.tdiv a b ≤ 0)) := fun hb => ztd a b hb
theorem ztm9 (a b : Int) : 0 < b → -b < Int.tmod a b ∧ Int.tmod a b < b ∧ (0 ≤ a → 0 ≤ Int.tmod a b ∧ Int.tmod a b ≤ a) := fun hb => ztm a b hb
theorem zm_rf_0 {x : Int} (h : x = 0) : zm_rf x = .null := by unfold zm_rf; rw [if_pos h]
theorem zm_rf_1 {x : Int} {T : Nat} (h : x = (T : Int)) (h0 : T ≠ 0) : zm_rf x = .ref T := by unfold zm_rf; rw [if_neg (by omega), h]; rfl
theorem z_ofN {a : Int} (h : 0 ≤ a) : Int32.ofNat a.toNat = Int32.ofInt a := by
  obtain ⟨n, rfl⟩ := Int.eq_ofNat_of_zero_le h
  rfl
theorem zl_div {x y : Int64} {a b : Int} (hx : x = Int64.ofInt a) (hy : y = Int64.ofInt b) (ra : zR8 a) (rb : zR8 b) : x / y = Int64.ofInt (a.tdiv b) := by
  apply Int64.toInt_inj.mp
  rw [Int64.toInt_div, zl_x hx ra, zl_x hy rb, Int64.toInt_ofInt]
theorem zl_nz {y : Int64} {b : Int} (hy : y = Int64.ofInt b) (rb : zR8 b) (h : b ≠ 0) : ¬ y = 0 := by
  intro q
  apply h
  have := zl_x hy rb
  rw [q] at this
  rw [← this]; decide
theorem zl_rem {x y : Int64} {a b : Int} (hx : x = Int64.ofInt a) (hy : y = Int64.ofInt b) (ra : zR8 a) (rb : zR8 b) : x - x / y * y = Int64.ofInt (a.tmod b) := by
  rw [zl_div hx hy ra rb, zl_sub hx (zl_mul rfl hy)]
  congr 1
  rw [Int.tmod_def, Int.mul_comm]
def zcmp (a b : Int) : Int := if a < b then -1 else if a = b then 0 else 1
theorem zcmpR (a b : Int) : zR (zcmp a b) := by
  unfold zcmp zR
  split
  · decide
  · split <;> decide
theorem zcmp_lt {a b : Int} : zcmp a b < 0 ↔ a < b := by
  unfold zcmp
  split
  · simp; assumption
  · split <;> simp <;> omega
theorem zcmp_le {a b : Int} : zcmp a b ≤ 0 ↔ a ≤ b := by
  unfold zcmp
  split
  · simp; omega
  · split <;> simp <;> omega
theorem zcmp_gt {a b : Int} : 0 < zcmp a b ↔ b < a := by
  unfold zcmp
  split
  · simp; omega
  · split <;> simp <;> omega
theorem zcmp_ge {a b : Int} : 0 ≤ zcmp a b ↔ b ≤ a := by
  unfold zcmp
  split
  · simp; omega
  · split <;> simp <;> omega
theorem zcmp_eq {a b : Int} : zcmp a b = 0 ↔ a = b := by
  unfold zcmp
  split
  · simp; omega
  · split <;> simp <;> omega
theorem zcmp_ne {a b : Int} : zcmp a b = 0 ↔ a = b := zcmp_eq
theorem zl_cmp {x y : Int64} {a b : Int} (hx : x = Int64.ofInt a) (hy : y = Int64.ofInt b) (ra : zR8 a) (rb : zR8 b) : lg_cmp x y = Int32.ofInt (zcmp a b) := by
  have h1 := zl_x hx ra
  have h2 := zl_x hy rb
  unfold zcmp
  split
  · exact zc_lt h1 h2 (by assumption)
  · split
    · exact zc_eq h1 h2 (by assumption)
    · exact zc_gt h1 h2 (by omega)
theorem z_narZ {x : Int32} {v : Int} (hx : x = Int32.ofInt v) (h : 0 ≤ v ∧ v ≤ 1) : narrow .boolean (.int x) = .int x := by
  rcases (show v = 0 ∨ v = 1 by omega) with q | q
  · subst q; subst hx; rfl
  · subst q; subst hx; rfl
theorem zk_rdL {f : Nat → Int} {x : Int32} {a : Int} (hx : x = Int32.ofInt a) (ra : zR a) : Int64.ofInt (f x.toNatClampNeg) = Int64.ofInt (f a.toNat) := by rw [zi_nat hx ra]
def zAL (p n : Nat) : Prop := ∀ r, zm_sh p r = .inl (1, n, .inr (.inl (fun j => Int64.ofInt (r j))))
theorem zk_raL (c : Nat × Nat) (m : zM) {p n : Nat} (hp : zAL p n) (hN : p < c.1) : (zk c m).2.2 p = .inl (1, n, .inr (.inl (fun j => Int64.ofInt (m p j)))) ∧ p < (zk c m).1 := ⟨hp _, hN⟩
def zTp (k : Nat) : Prop := k = 107 ∨ k = 111 ∨ k = 115 ∨ k = 119
theorem zk_tas (c : Nat × Nat) (m : zM) {k : Nat} (h : zTp k) : (zk c m).2.2 k = .inr (9, [.ref (k + 3), .int (Int32.ofInt (m k 1)), .ref (k + 1), .ref (k + 2)]) := by
  rcases h with h | h | h | h <;> (subst h; rfl)
theorem zAt1 {k : Nat} (h : zTp k) : zA 0 (k + 1) 6 := by
  rcases h with h | h | h | h <;> (subst h; exact fun _ => rfl)
theorem zAt2 {k : Nat} (h : zTp k) : zAL (k + 2) 32 := by
  rcases h with h | h | h | h <;> (subst h; exact fun _ => rfl)
theorem zk_code (c : Nat × Nat) (m : zM) {k : Nat} (h : zTp k) (hl : k + 4 ≤ c.1) : (zk c m).2.2 (k + 3) = .inl (0, (m (k + 3) 1001).toNat, .inl (fun j => Int32.ofInt (m (k + 3) j))) ∧ k + 3 < (zk c m).1 := by
  refine ⟨?_, hl⟩
  rcases h with h | h | h | h <;> (subst h; rfl)
theorem zk_las (c : Nat × Nat) (m : zM) {p n : Nat} (hp : zAL p n) {x : Int32} {y : Int64} {a v : Int} (hx : x = Int32.ofInt a) (ra : zR a) (hy : y = Int64.ofInt v) :
    z_hup (zk c m) p (.inl (1, n, .inr (.inl (vp_updL (fun j => Int64.ofInt (m p j)) x.toNatClampNeg y)))) = zk c (zm_up m p a.toNat v) := by
  refine zk_up c m p a.toNat v _ ?_
  rw [hp, zi_nat hx ra, hy]
  congr 5
  funext j
  unfold vp_updL
  split <;> rfl
theorem zk_bas3 (c : Nat × Nat) (m : zM) {p n : Nat} (hp : zA 3 p n) {x y : Int32} {a v : Int} (hx : x = Int32.ofInt a) (ra : zR a) (hy : y = Int32.ofInt v) (h : 0 ≤ v ∧ v ≤ 1) :
    z_hup (zk c m) p (.inl (3, n, .inl (upd (fun j => Int32.ofInt (m p j)) x.toNatClampNeg (vp_nar .boolean y)))) = zk c (zm_up m p a.toNat v) := by
  refine zk_up c m p a.toNat v _ ?_
  have e : vp_nar .boolean y = Int32.ofInt v := by
    unfold vp_nar
    rw [z_narZ hy h]
    exact hy
  rw [hp, zi_nat hx ra, e]
  congr 4
  funext j
  unfold upd
  split <;> rfl
theorem zts {x : Int32} {a lo hi : Int} {j : Nat} (hx : x = Int32.ofInt a) (r : zR a) (h : a = lo + (j : Int) ∧ ¬ hi < a) : x.toInt = lo + (j : Int) ∧ ¬ hi < x.toInt := by rw [zi_x hx r]; exact h
theorem ztdf {x : Int32} {a lo hi : Int} (hx : x = Int32.ofInt a) (r : zR a) (h : a < lo ∨ hi < a) : x.toInt < lo ∨ hi < x.toInt := by rw [zi_x hx r]; exact h
theorem zls {x : Int32} {a d off : Int} {l : List (Int × Int)} (hx : x = Int32.ofInt a) (r : zR a) (h : Op.lookupswitch.offset l d a = off) : Op.lookupswitch.offset l d x.toInt = off := by rw [zi_x hx r]; exact h
theorem zi_max {x y : Int32} {a b : Int} (hx : x = Int32.ofInt a) (hy : y = Int32.ofInt b) (ra : zR a) (rb : zR b) : (if x < y then y else x) = Int32.ofInt (max a b) := by
  by_cases h : a < b
  · rw [if_pos ((zi_lt hx hy ra rb).mpr h), hy, Int.max_eq_right (by omega)]
  · rw [if_neg (fun q => h ((zi_lt hx hy ra rb).mp q)), hx, Int.max_eq_left (by omega)]
theorem zi_min {x y : Int32} {a b : Int} (hx : x = Int32.ofInt a) (hy : y = Int32.ofInt b) (ra : zR a) (rb : zR b) : (if y < x then y else x) = Int32.ofInt (min a b) := by
  by_cases h : b < a
  · rw [if_pos ((zi_lt hy hx rb ra).mpr h), hy, Int.min_eq_right (by omega)]
  · rw [if_neg (fun q => h ((zi_lt hy hx rb ra).mp q)), hx, Int.min_eq_left (by omega)]
theorem zl_lt {x y : Int64} {a b : Int} (hx : x = Int64.ofInt a) (hy : y = Int64.ofInt b) (ra : zR8 a) (rb : zR8 b) : x < y ↔ a < b := by rw [Int64.lt_iff_toInt_lt, zl_x hx ra, zl_x hy rb]
theorem zl_max {x y : Int64} {a b : Int} (hx : x = Int64.ofInt a) (hy : y = Int64.ofInt b) (ra : zR8 a) (rb : zR8 b) : (if y < x then x else y) = Int64.ofInt (max a b) := by
  by_cases h : b < a
  · rw [if_pos ((zl_lt hy hx rb ra).mpr h), hx, Int.max_eq_left (by omega)]
  · rw [if_neg (fun q => h ((zl_lt hy hx rb ra).mp q)), hy, Int.max_eq_right (by omega)]
theorem zl_min {x y : Int64} {a b : Int} (hx : x = Int64.ofInt a) (hy : y = Int64.ofInt b) (ra : zR8 a) (rb : zR8 b) : (if y < x then y else x) = Int64.ofInt (min a b) := by
  by_cases h : b < a
  · rw [if_pos ((zl_lt hy hx rb ra).mpr h), hy, Int.min_eq_right (by omega)]
  · rw [if_neg (fun q => h ((zl_lt hy hx rb ra).mp q)), hx, Int.min_eq_left (by omega)]
theorem zfin_l {y pc len : Nat} {f : z_I} {lv : List (Option Value)} {r : Int64} {h : z_H} (hf : z_fetch y pc = some (.lreturn, len, f)) (hr : z_mr y = some .long) : z_fin y (pc, lv, [.long r], h) (some (.long r)) h := by
  refine ⟨rfl, ?_⟩
  dsimp only
  rw [hf]
  exact ⟨rfl, hr⟩
/-- a call that leaves the memory as it was -/
def zPi (zn : Bool) (d y : Nat) (args : List Value) (c : Nat × Nat) (m : zM) (Q : Int → Prop) : Prop := ∃ r, z_sem zn d y args (zk c m) (some (.int (Int32.ofInt r))) (zk c m) ∧ Q r
def zPl (zn : Bool) (d y : Nat) (args : List Value) (c : Nat × Nat) (m : zM) (Q : Int → Prop) : Prop := ∃ r, z_sem zn d y args (zk c m) (some (.long (Int64.ofInt r))) (zk c m) ∧ Q r
theorem zPi.of {zn : Bool} {d y : Nat} {args : List Value} {c : Nat × Nat} {m : zM} {Q : Int → Prop} (hu : z_useok y = true) (hl : c.1 < z_RO) (ha : (z_as args).length ≤ z_ml y)
    (h : zW zn d y c (0, z_args (z_ml y) args, [], zk c m) (fun v h' => ∃ r, v = some (.int (Int32.ofInt r)) ∧ h' = zk c m ∧ Q r)) : zPi zn (d + 1) y args c m Q := by
  obtain ⟨st2, v, h', a1, a2, r, rfl, rfl, a3⟩ := h
  exact ⟨r, z_sem_of hu hl ha a1 a2, a3⟩
theorem zPl.of {zn : Bool} {d y : Nat} {args : List Value} {c : Nat × Nat} {m : zM} {Q : Int → Prop} (hu : z_useok y = true) (hl : c.1 < z_RO) (ha : (z_as args).length ≤ z_ml y)
    (h : zW zn d y c (0, z_args (z_ml y) args, [], zk c m) (fun v h' => ∃ r, v = some (.long (Int64.ofInt r)) ∧ h' = zk c m ∧ Q r)) : zPl zn (d + 1) y args c m Q := by
  obtain ⟨st2, v, h', a1, a2, r, rfl, rfl, a3⟩ := h
  exact ⟨r, z_sem_of hu hl ha a1 a2, a3⟩
theorem zb_lushr33 (a : Int) : 0 ≤ zb_lushr a 33 ∧ zb_lushr a 33 ≤ 2147483647 := by
  unfold zb_lushr
  have e : (Int32.ofInt 33).toInt64.toUInt64 &&& Int64.toUInt64 63 = 33 := by decide
  rw [e]
  generalize (Int64.ofInt a).toUInt64 = u
  have h1 : (u >>> 33).toNat ≤ 2147483647 := by
    have hu : u.toNat < 2 ^ 64 := u.toNat_lt
    rw [UInt64.toNat_shiftRight]
    have : (33 : UInt64).toNat % 64 = 33 := by decide
    rw [this, Nat.shiftRight_eq_div_pow]
    omega
  have h2 : ((u >>> 33).toInt64).toInt = ((u >>> 33).toNat : Int) := by
    show ((u >>> 33).toInt64).toBitVec.toInt = _
    rw [BitVec.toInt_eq_toNat_of_lt]
    · rfl
    · show 2 * (u >>> 33).toNat < 2 ^ 64
      omega
  rw [h2]
  omega
theorem zi_i2b {x : Int32} {a : Int} (hx : x = Int32.ofInt a) : x.toInt8.toInt32 = Int32.ofInt (Int.bmod a 256) := by
  apply Int32.toInt_inj.mp
  rw [Int8.toInt_toInt32, Int32.toInt_toInt8, hx, Int32.toInt_ofInt, Int32.toInt_ofInt]
  have h1 : Int.bmod (Int.bmod a (2 ^ 32)) (2 ^ 8) = Int.bmod a (2 ^ 8) := Int.bmod_bmod_of_dvd (by decide)
  have h2 : Int.bmod (Int.bmod a 256) (2 ^ 32) = Int.bmod a 256 := by
    have l1 := @Int.le_bmod a 256 (by decide)
    have l2 := @Int.bmod_lt a 256 (by decide)
    apply Int.bmod_eq_of_le <;> omega
  exact h1.trans h2.symm
theorem zbm (a : Int) : -128 ≤ Int.bmod a 256 ∧ Int.bmod a 256 ≤ 127 := by
  have l1 := @Int.le_bmod a 256 (by decide)
  have l2 := @Int.bmod_lt a 256 (by decide)
  omega
def zb_andL (a b : Int) : Int := ((Int64.ofInt a) &&& (Int64.ofInt b)).toInt
def zb_orL (a b : Int) : Int := ((Int64.ofInt a) ||| (Int64.ofInt b)).toInt
theorem zl_and {x y : Int64} {a b : Int} (hx : x = Int64.ofInt a) (hy : y = Int64.ofInt b) : x &&& y = Int64.ofInt (zb_andL a b) := by rw [hx, hy]; exact (Int64.ofInt_toInt _).symm
theorem zl_or {x y : Int64} {a b : Int} (hx : x = Int64.ofInt a) (hy : y = Int64.ofInt b) : x ||| y = Int64.ofInt (zb_orL a b) := by rw [hx, hy]; exact (Int64.ofInt_toInt _).symm
theorem zl_rR (x : Int64) : -9223372036854775808 ≤ x.toInt ∧ x.toInt ≤ 9223372036854775807 := ⟨Int64.le_toInt x, by have := Int64.toInt_lt x; omega⟩
theorem zb_andLR (a b : Int) : -9223372036854775808 ≤ zb_andL a b ∧ zb_andL a b ≤ 9223372036854775807 := zl_rR _
theorem zb_orLR (a b : Int) : -9223372036854775808 ≤ zb_orL a b ∧ zb_orL a b ≤ 9223372036854775807 := zl_rR _
theorem zb_shr_f (a b : Int) : 0 ≤ a ∧ a ≤ 2147483647 → 0 ≤ zb_shr a b ∧ zb_shr a b ≤ a := by
  intro h
  unfold zb_shr
  have hx : (Int32.ofInt a).toInt = a := zi_to (by unfold zR; omega)
  generalize (Int32.ofInt b &&& 31) = y
  generalize Int32.ofInt a = x at hx ⊢
  have e : (x >>> y).toInt = a >>> (y.toBitVec.smod 32).toNat := by
    show (x >>> y).toBitVec.toInt = _
    rw [Int32.toBitVec_shiftRight]; unfold BitVec.sshiftRight'; rw [BitVec.toInt_sshiftRight]
    exact congrArg (fun z : Int => z >>> _) hx
  rw [e, Int.shiftRight_eq_div_pow]
  have hp : (0 : Int) < ((2 ^ (y.toBitVec.smod 32).toNat : Nat) : Int) := by
    have : 0 < 2 ^ (y.toBitVec.smod 32).toNat := Nat.two_pow_pos _
    omega
  exact ⟨Int.ediv_nonneg h.1 (by omega), Int.ediv_le_self _ h.1⟩
theorem zb_or_f (a b : Int) : (0 ≤ a ∧ a ≤ 2147483647) ∧ (0 ≤ b ∧ b ≤ 2147483647) → 0 ≤ zb_or a b := by
  intro h
  unfold zb_or
  have ha : (Int32.ofInt a).toBitVec.toNat = a.toNat := by
    show (BitVec.ofInt 32 a).toNat = a.toNat
    rw [BitVec.toNat_ofInt, Int.emod_eq_of_lt h.1.1 (by omega)]
  have hb : (Int32.ofInt b).toBitVec.toNat = b.toNat := by
    show (BitVec.ofInt 32 b).toNat = b.toNat
    rw [BitVec.toNat_ofInt, Int.emod_eq_of_lt h.2.1 (by omega)]
  have hl : ((Int32.ofInt a) ||| (Int32.ofInt b)).toBitVec.toNat < 2 ^ 31 := by
    rw [Int32.toBitVec_or, BitVec.toNat_or, ha, hb]
    exact Nat.or_lt_two_pow (by omega) (by omega)
  have e : ((Int32.ofInt a) ||| (Int32.ofInt b)).toInt = ((((Int32.ofInt a) ||| (Int32.ofInt b)).toBitVec.toNat : Nat) : Int) := by
    rw [Int32.toInt, BitVec.toInt_eq_toNat_of_lt]
    omega
  rw [e]
  omega
theorem zb_shl1n : ∀ k : Fin 31, 1 ≤ zb_shl 1 (k.val : Int) ∧ zb_shl 1 (k.val : Int) ≤ 1073741824 := by decide +kernel
theorem zb_shl1 (b : Int) : 0 ≤ b ∧ b ≤ 30 → 1 ≤ zb_shl 1 b ∧ zb_shl 1 b ≤ 1073741824 := by
  intro h
  have h1 := zb_shl1n ⟨b.toNat, by omega⟩
  have e : ((b.toNat : Nat) : Int) = b := by omega
  rw [show (((⟨b.toNat, by omega⟩ : Fin 31).val : Nat) : Int) = b from e] at h1
  exact h1
theorem ztdl (a b : Int) : 0 ≤ a → Int.tdiv a b = a / b := fun h => Int.tdiv_eq_ediv_of_nonneg h
theorem ztml (a b : Int) : 0 ≤ a → Int.tmod a b = a % b := fun h => Int.tmod_eq_emod_of_nonneg h

/-- the static arrays and the bytes of strings -/
def zst9 (k i : Nat) : Int := ((z_sta.getD k []).getD i 0).toInt
def zbt9 (k i : Nat) : Int := ((z_byt.getD k []).getD i 0).toInt
theorem zst9_rd (k : Nat) {x : Int32} {a : Int} (hx : x = Int32.ofInt a) (ra : zR a) : (z_sta.getD k []).getD x.toNatClampNeg 0 = Int32.ofInt (zst9 k a.toNat) := by
  rw [zi_nat hx ra, zst9, Int32.ofInt_toInt]
theorem zbt9_rd (k : Nat) {x : Int32} {a : Int} (hx : x = Int32.ofInt a) (ra : zR a) : (z_byt.getD k []).getD x.toNatClampNeg 0 = Int32.ofInt (zbt9 k a.toNat) := by
  rw [zi_nat hx ra, zbt9, Int32.ofInt_toInt]
theorem zst9_all : ∀ k : Fin 8, ∀ i : Fin 7, 0 ≤ zst9 k i ∧ zst9 k i ≤ 99 ∧ (k.val = 5 → zst9 k i ≤ 60) := by decide +kernel
theorem zst9_b (k i : Nat) (hk : k < 8) (hi : i < 7) : 0 ≤ zst9 k i ∧ zst9 k i ≤ 99 ∧ (k = 5 → zst9 k i ≤ 60) := zst9_all ⟨k, hk⟩ ⟨i, hi⟩
theorem zbt9_b (k i : Nat) : -2147483648 ≤ zbt9 k i ∧ zbt9 k i ≤ 2147483647 := by
  have h1 := Int32.le_toInt ((z_byt.getD k []).getD i 0)
  have h2 := Int32.toInt_le ((z_byt.getD k []).getD i 0)
  unfold zbt9
  have e1 : Int32.minValue.toInt = -2147483648 := by decide
  have e2 : Int32.maxValue.toInt = 2147483647 := by decide
  omega
theorem zi_i2c {x : Int32} {a : Int} (hx : x = Int32.ofInt a) : (x.toUInt32 % 65536).toInt32 = Int32.ofInt (a % 65536) := by
  subst hx
  apply Int32.toBitVec_inj.mp
  apply BitVec.eq_of_toNat_eq
  show (BitVec.ofInt 32 a % 65536#32).toNat = (BitVec.ofInt 32 (a % 65536)).toNat
  rw [BitVec.toNat_umod, BitVec.toNat_ofInt, BitVec.toNat_ofInt]
  show (a % 4294967296).toNat % 65536 = (a % 65536 % 4294967296).toNat
  omega
def zrl (i : Nat) : Int := bif Nat.beq i 184 then 0 else bif Nat.beq i 185 then 0 else bif (Nat.ble 70 i && Nat.ble i 79) then 0 else (-2147483648)
def zrh (i : Nat) : Int := bif Nat.beq i 184 then 1000000000 else bif Nat.beq i 185 then 10 else bif (Nat.ble 70 i && Nat.ble i 79) then 1 else 2147483647
def zlo (k i : Nat) : Int := bif Nat.ble 107 k then (bif Nat.beq i 1001 then 0 else bif Nat.beq (k % 4) 1 then (-9223372036854775808) else bif Nat.beq (k % 4) 2 then 0 else (-2147483648)) else (bif Nat.ble k 53 then (bif Nat.ble k 26 then (bif Nat.ble k 13 then (bif Nat.ble k 6 then (bif Nat.ble k 3 then (bif Nat.ble k 1 then (bif Nat.ble k 0 then (bif Nat.beq i 12 then 0 else (bif Nat.beq i 13 then 0 else (bif Nat.beq i 14 then (-1) else (-2147483648)))) else (bif Nat.beq i 1 then 0 else (bif Nat.beq i 2 then 0 else (-2147483648)))) else (bif Nat.ble k 2 then 0 else (-2147483648))) else (bif Nat.ble k 5 then (bif Nat.ble k 4 then (bif Nat.beq i 3 then 0 else (bif Nat.beq i 4 then 0 else (-2147483648))) else (-2147483648)) else (-2147483648))) else (bif Nat.ble k 10 then (bif Nat.ble k 8 then (bif Nat.ble k 7 then 0 else zrl i) else (bif Nat.ble k 9 then (-2147483648) else (bif Nat.beq i 2 then 0 else (bif Nat.beq i 3 then 0 else (-2147483648))))) else (bif Nat.ble k 12 then (bif Nat.ble k 11 then 0 else (-2147483648)) else (bif Nat.beq i 3 then 0 else (bif Nat.beq i 4 then 0 else (-2147483648)))))) else (bif Nat.ble k 20 then (bif Nat.ble k 17 then (bif Nat.ble k 15 then (bif Nat.ble k 14 then (-2147483648) else (-2147483648)) else (bif Nat.ble k 16 then 0 else zrl i)) else (bif Nat.ble k 19 then (bif Nat.ble k 18 then (-2147483648) else (-2147483648)) else 0)) else (bif Nat.ble k 23 then (bif Nat.ble k 22 then (bif Nat.ble k 21 then (-2147483648) else (-2147483648)) else (bif Nat.beq i 4 then 0 else (bif Nat.beq i 5 then 0 else (bif Nat.beq i 6 then 0 else (bif Nat.beq i 7 then 0 else (bif Nat.beq i 8 then 0 else (-2147483648))))))) else (bif Nat.ble k 25 then (bif Nat.ble k 24 then (-2147483648) else zrl i) else zrl i)))) else (bif Nat.ble k 40 then (bif Nat.ble k 33 then (bif Nat.ble k 30 then (bif Nat.ble k 28 then (bif Nat.ble k 27 then zrl i else zrl i) else (bif Nat.ble k 29 then zrl i else zrl i)) else (bif Nat.ble k 32 then (bif Nat.ble k 31 then zrl i else zrl i) else zrl i)) else (bif Nat.ble k 37 then (bif Nat.ble k 35 then (bif Nat.ble k 34 then zrl i else zrl i) else (bif Nat.ble k 36 then zrl i else zrl i)) else (bif Nat.ble k 39 then (bif Nat.ble k 38 then zrl i else zrl i) else zrl i))) else (bif Nat.ble k 47 then (bif Nat.ble k 44 then (bif Nat.ble k 42 then (bif Nat.ble k 41 then zrl i else zrl i) else (bif Nat.ble k 43 then zrl i else zrl i)) else (bif Nat.ble k 46 then (bif Nat.ble k 45 then zrl i else zrl i) else zrl i)) else (bif Nat.ble k 50 then (bif Nat.ble k 49 then (bif Nat.ble k 48 then zrl i else zrl i) else zrl i) else (bif Nat.ble k 52 then (bif Nat.ble k 51 then zrl i else zrl i) else zrl i))))) else (bif Nat.ble k 80 then (bif Nat.ble k 67 then (bif Nat.ble k 60 then (bif Nat.ble k 57 then (bif Nat.ble k 55 then (bif Nat.ble k 54 then zrl i else zrl i) else (bif Nat.ble k 56 then zrl i else zrl i)) else (bif Nat.ble k 59 then (bif Nat.ble k 58 then zrl i else zrl i) else zrl i)) else (bif Nat.ble k 64 then (bif Nat.ble k 62 then (bif Nat.ble k 61 then zrl i else zrl i) else (bif Nat.ble k 63 then zrl i else zrl i)) else (bif Nat.ble k 66 then (bif Nat.ble k 65 then 0 else (-2147483648)) else zrl i))) else (bif Nat.ble k 74 then (bif Nat.ble k 71 then (bif Nat.ble k 69 then (bif Nat.ble k 68 then (bif Nat.beq i 0 then 0 else (bif Nat.beq i 1 then (-9223372036854775808) else (-2147483648))) else (-2147483648)) else (bif Nat.ble k 70 then zrl i else (-2147483648))) else (bif Nat.ble k 73 then (bif Nat.ble k 72 then (-2147483648) else (-2147483648)) else zrl i)) else (bif Nat.ble k 77 then (bif Nat.ble k 76 then (bif Nat.ble k 75 then (bif Nat.beq i 5 then 0 else (-2147483648)) else zrl i) else 0) else (bif Nat.ble k 79 then (bif Nat.ble k 78 then (-2147483648) else (-2147483648)) else (-2147483648))))) else (bif Nat.ble k 93 then (bif Nat.ble k 87 then (bif Nat.ble k 84 then (bif Nat.ble k 82 then (bif Nat.ble k 81 then (-2147483648) else (-2147483648)) else (bif Nat.ble k 83 then (-2147483648) else (-2147483648))) else (bif Nat.ble k 86 then (bif Nat.ble k 85 then (-2147483648) else (-2147483648)) else (-2147483648))) else (bif Nat.ble k 90 then (bif Nat.ble k 89 then (bif Nat.ble k 88 then (-2147483648) else (-2147483648)) else (-2147483648)) else (bif Nat.ble k 92 then (bif Nat.ble k 91 then (-2147483648) else (-2147483648)) else (-2147483648)))) else (bif Nat.ble k 100 then (bif Nat.ble k 97 then (bif Nat.ble k 95 then (bif Nat.ble k 94 then (-2147483648) else (-2147483648)) else (bif Nat.ble k 96 then (-9223372036854775808) else (-2147483648))) else (bif Nat.ble k 99 then (bif Nat.ble k 98 then (-2147483648) else (-2147483648)) else (-2147483648))) else (bif Nat.ble k 103 then (bif Nat.ble k 102 then (bif Nat.ble k 101 then (-2147483648) else (-2147483648)) else (-2147483648)) else (bif Nat.ble k 105 then (bif Nat.ble k 104 then (-2147483648) else (-2147483648)) else (-9223372036854775808)))))))
def zhi (k i : Nat) : Int := bif Nat.ble 107 k then (bif Nat.beq i 1001 then 240 else bif Nat.beq (k % 4) 1 then 9223372036854775807 else bif Nat.beq (k % 4) 2 then 2147483647 else 2147483647) else (bif Nat.ble k 53 then (bif Nat.ble k 26 then (bif Nat.ble k 13 then (bif Nat.ble k 6 then (bif Nat.ble k 3 then (bif Nat.ble k 1 then (bif Nat.ble k 0 then (bif Nat.beq i 12 then 1 else (bif Nat.beq i 13 then 4 else (bif Nat.beq i 14 then 3 else 2147483647))) else (bif Nat.beq i 1 then 240 else (bif Nat.beq i 2 then 240 else 2147483647))) else (bif Nat.ble k 2 then 255 else 2147483647)) else (bif Nat.ble k 5 then (bif Nat.ble k 4 then (bif Nat.beq i 3 then 5 else (bif Nat.beq i 4 then 6 else 2147483647)) else 2147483647) else 2147483647)) else (bif Nat.ble k 10 then (bif Nat.ble k 8 then (bif Nat.ble k 7 then 8 else zrh i) else (bif Nat.ble k 9 then 2147483647 else (bif Nat.beq i 2 then 240 else (bif Nat.beq i 3 then 1 else 2147483647)))) else (bif Nat.ble k 12 then (bif Nat.ble k 11 then 2147483647 else 2147483647) else (bif Nat.beq i 3 then 5 else (bif Nat.beq i 4 then 6 else 2147483647))))) else (bif Nat.ble k 20 then (bif Nat.ble k 17 then (bif Nat.ble k 15 then (bif Nat.ble k 14 then 2147483647 else 2147483647) else (bif Nat.ble k 16 then 8 else zrh i)) else (bif Nat.ble k 19 then (bif Nat.ble k 18 then 2147483647 else 2147483647) else 1)) else (bif Nat.ble k 23 then (bif Nat.ble k 22 then (bif Nat.ble k 21 then 2147483647 else 2147483647) else (bif Nat.beq i 4 then 1 else (bif Nat.beq i 5 then 40 else (bif Nat.beq i 6 then 39 else (bif Nat.beq i 7 then 100 else (bif Nat.beq i 8 then 99 else 2147483647)))))) else (bif Nat.ble k 25 then (bif Nat.ble k 24 then 2147483647 else zrh i) else zrh i)))) else (bif Nat.ble k 40 then (bif Nat.ble k 33 then (bif Nat.ble k 30 then (bif Nat.ble k 28 then (bif Nat.ble k 27 then zrh i else zrh i) else (bif Nat.ble k 29 then zrh i else zrh i)) else (bif Nat.ble k 32 then (bif Nat.ble k 31 then zrh i else zrh i) else zrh i)) else (bif Nat.ble k 37 then (bif Nat.ble k 35 then (bif Nat.ble k 34 then zrh i else zrh i) else (bif Nat.ble k 36 then zrh i else zrh i)) else (bif Nat.ble k 39 then (bif Nat.ble k 38 then zrh i else zrh i) else zrh i))) else (bif Nat.ble k 47 then (bif Nat.ble k 44 then (bif Nat.ble k 42 then (bif Nat.ble k 41 then zrh i else zrh i) else (bif Nat.ble k 43 then zrh i else zrh i)) else (bif Nat.ble k 46 then (bif Nat.ble k 45 then zrh i else zrh i) else zrh i)) else (bif Nat.ble k 50 then (bif Nat.ble k 49 then (bif Nat.ble k 48 then zrh i else zrh i) else zrh i) else (bif Nat.ble k 52 then (bif Nat.ble k 51 then zrh i else zrh i) else zrh i))))) else (bif Nat.ble k 80 then (bif Nat.ble k 67 then (bif Nat.ble k 60 then (bif Nat.ble k 57 then (bif Nat.ble k 55 then (bif Nat.ble k 54 then zrh i else zrh i) else (bif Nat.ble k 56 then zrh i else zrh i)) else (bif Nat.ble k 59 then (bif Nat.ble k 58 then zrh i else zrh i) else zrh i)) else (bif Nat.ble k 64 then (bif Nat.ble k 62 then (bif Nat.ble k 61 then zrh i else zrh i) else (bif Nat.ble k 63 then zrh i else zrh i)) else (bif Nat.ble k 66 then (bif Nat.ble k 65 then 1 else 2147483647) else zrh i))) else (bif Nat.ble k 74 then (bif Nat.ble k 71 then (bif Nat.ble k 69 then (bif Nat.ble k 68 then (bif Nat.beq i 0 then 99 else (bif Nat.beq i 1 then 9223372036854775807 else 2147483647)) else 2147483647) else (bif Nat.ble k 70 then zrh i else 2147483647)) else (bif Nat.ble k 73 then (bif Nat.ble k 72 then 2147483647 else 2147483647) else zrh i)) else (bif Nat.ble k 77 then (bif Nat.ble k 76 then (bif Nat.ble k 75 then (bif Nat.beq i 5 then 6 else 2147483647) else zrh i) else 6) else (bif Nat.ble k 79 then (bif Nat.ble k 78 then 2147483647 else 2147483647) else 2147483647)))) else (bif Nat.ble k 93 then (bif Nat.ble k 87 then (bif Nat.ble k 84 then (bif Nat.ble k 82 then (bif Nat.ble k 81 then 2147483647 else 2147483647) else (bif Nat.ble k 83 then 2147483647 else 2147483647)) else (bif Nat.ble k 86 then (bif Nat.ble k 85 then 2147483647 else 2147483647) else 2147483647)) else (bif Nat.ble k 90 then (bif Nat.ble k 89 then (bif Nat.ble k 88 then 2147483647 else 2147483647) else 2147483647) else (bif Nat.ble k 92 then (bif Nat.ble k 91 then 2147483647 else 2147483647) else 2147483647))) else (bif Nat.ble k 100 then (bif Nat.ble k 97 then (bif Nat.ble k 95 then (bif Nat.ble k 94 then 2147483647 else 2147483647) else (bif Nat.ble k 96 then 9223372036854775807 else 2147483647)) else (bif Nat.ble k 99 then (bif Nat.ble k 98 then 2147483647 else 2147483647) else 2147483647)) else (bif Nat.ble k 103 then (bif Nat.ble k 102 then (bif Nat.ble k 101 then 2147483647 else 2147483647) else 2147483647) else (bif Nat.ble k 105 then (bif Nat.ble k 104 then 2147483647 else 2147483647) else 9223372036854775807))))))
def zB (m : zM) : Prop := ∀ p i, zlo p i ≤ m p i ∧ m p i ≤ zhi p i
/-- the TASTES: those learnt lie behind the hundred and seven; the one that is held is one of them -/
def zT9 (c : Nat × Nat) (m : zM) : Prop := (m 18 1 = 0 ∨ ((m 18 1 = 107 ∨ m 18 1 = 111 ∨ m 18 1 = 115 ∨ m 18 1 = 119) ∧ m 18 1 + 4 ≤ (c.1 : Int))) ∧ 107 + 4 * m 0 13 ≤ (c.1 : Int) ∧ ∀ j : Nat, (j : Int) < m 0 13 → m 12 j = 107 + 4 * (j : Int)
def zI (c : Nat × Nat) (m : zM) : Prop := zB m ∧ zT9 c m
def zOk (p i : Nat) : Prop := p ≠ 12 ∧ (p ≠ 18 ∨ i ≠ 1) ∧ (p ≠ 0 ∨ i ≠ 13)
theorem zm_ne {m : zM} {p i q j : Nat} {v : Int} (h : q ≠ p ∨ j ≠ i) : zm_up m p i v q j = m q j := by
  unfold zm_up
  rw [if_neg (fun z => h.elim (fun w => w z.1) (fun w => w z.2))]
theorem zm_eq {m : zM} {p i : Nat} {v : Int} : zm_up m p i v p i = v := by
  unfold zm_up
  rw [if_pos ⟨rfl, rfl⟩]
theorem zI_up {c : Nat × Nat} {m : zM} {p i : Nat} {v : Int} (h : zI c m) (hk : zOk p i) (hv : zlo p i ≤ v ∧ v ≤ zhi p i) : zI c (zm_up m p i v) := by
  refine ⟨fun p1 i1 => ?_, ?_⟩
  · unfold zm_up
    by_cases q : p1 = p ∧ i1 = i
    · rw [if_pos q, q.1, q.2]; exact hv
    · rw [if_neg q]; exact h.1 p1 i1
  · obtain ⟨k1, k2, k3⟩ := hk
    obtain ⟨h1, h2, h3⟩ := h.2
    have e1 : zm_up m p i v 18 1 = m 18 1 := zm_ne (k2.elim (fun w => Or.inl (fun e => w e.symm)) (fun w => Or.inr (fun e => w e.symm)))
    have e2 : zm_up m p i v 0 13 = m 0 13 := zm_ne (k3.elim (fun w => Or.inl (fun e => w e.symm)) (fun w => Or.inr (fun e => w e.symm)))
    refine ⟨by rw [e1]; exact h1, by rw [e2]; exact h2, fun j hj => ?_⟩
    rw [zm_ne (Or.inl (fun e => k1 e.symm))]
    exact h3 j (by rw [e2] at hj; exact hj)
/-- a number kept in 32 bits -/
def zw (a : Int) : Int := Int.bmod a 4294967296
theorem zwR (a : Int) : -2147483648 ≤ zw a ∧ zw a ≤ 2147483647 := by
  have l1 := @Int.le_bmod a 4294967296 (by decide)
  have l2 := @Int.bmod_lt a 4294967296 (by decide)
  unfold zw
  omega
theorem zw_eq (a : Int) : Int32.ofInt a = Int32.ofInt (zw a) := by
  apply Int32.toInt_inj.mp
  rw [Int32.toInt_ofInt, Int32.toInt_ofInt]
  exact (Int.bmod_bmod_of_dvd (by decide)).symm
theorem zw_id {a : Int} (h : -2147483648 ≤ a ∧ a ≤ 2147483647) : zw a = a := by
  unfold zw
  apply Int.bmod_eq_of_le <;> omega
theorem zwI (a : Int) : (-2147483648 ≤ a ∧ a ≤ 2147483647) → zw a = a := zw_id
def zw8 (a : Int) : Int := Int.bmod a 18446744073709551616
theorem zw8R (a : Int) : -9223372036854775808 ≤ zw8 a ∧ zw8 a ≤ 9223372036854775807 := by
  have l1 := @Int.le_bmod a 18446744073709551616 (by decide)
  have l2 := @Int.bmod_lt a 18446744073709551616 (by decide)
  unfold zw8
  omega
theorem zw8_eq (a : Int) : Int64.ofInt a = Int64.ofInt (zw8 a) := by
  apply Int64.toInt_inj.mp
  rw [Int64.toInt_ofInt, Int64.toInt_ofInt]
  exact (Int.bmod_bmod_of_dvd (by decide)).symm
/-- a row of the class: HOUR, COUNT, LIVES are bounded -/
def zS (s : Nat) : Prop := zA 0 s 188 ∧ ∀ i, zlo s i = zrl i ∧ zhi s i = zrh i
theorem zr_lh (i : Nat) : -2147483648 ≤ zrl i ∧ zrl i ≤ 0 ∧ 0 ≤ zrh i ∧ zrh i ≤ 2147483647 := by
  unfold zrl zrh
  cases Nat.beq i 184 <;> cases Nat.beq i 185 <;> cases (Nat.ble 70 i && Nat.ble i 79) <;> decide
theorem zr_i {c : Nat × Nat} {m : zM} {s : Nat} (h : zI c m) (hs : zS s) (i : Nat) : -2147483648 ≤ m s i ∧ m s i ≤ 2147483647 := by
  have h1 := h.1 s i
  rw [(hs.2 i).1, (hs.2 i).2] at h1
  have h2 := zr_lh i
  omega
theorem zr_h {c : Nat × Nat} {m : zM} {s : Nat} (h : zI c m) (hs : zS s) : 0 ≤ m s 184 ∧ m s 184 ≤ 1000000000 := by
  have h1 := h.1 s 184
  rw [(hs.2 184).1, (hs.2 184).2] at h1
  exact h1
theorem zr_c {c : Nat × Nat} {m : zM} {s : Nat} (h : zI c m) (hs : zS s) : 0 ≤ m s 185 ∧ m s 185 ≤ 10 := by
  have h1 := h.1 s 185
  rw [(hs.2 185).1, (hs.2 185).2] at h1
  exact h1
theorem z_bqf {a b : Nat} (h : a ≠ b) : Nat.beq a b = false := by
  cases hb : Nat.beq a b with
  | false => rfl
  | true => exact absurd (Nat.eq_of_beq_eq_true hb) h
theorem zr_in {i : Nat} (h : 70 ≤ i ∧ i ≤ 79) : zrl i = 0 ∧ zrh i = 1 := by
  have h1 : Nat.beq i 184 = false := z_bqf (by omega)
  have h2 : Nat.beq i 185 = false := z_bqf (by omega)
  unfold zrl zrh
  rw [h1, h2, Nat.ble_eq_true_of_le h.1, Nat.ble_eq_true_of_le h.2]
  exact ⟨rfl, rfl⟩
theorem zr_l {c : Nat × Nat} {m : zM} {s i : Nat} (h : zI c m) (hs : zS s) (hi : 70 ≤ i ∧ i ≤ 79) : 0 ≤ m s i ∧ m s i ≤ 1 := by
  have h1 := h.1 s i
  rw [(hs.2 i).1, (hs.2 i).2, (zr_in hi).1, (zr_in hi).2] at h1
  exact h1
theorem zrw_h {s : Nat} {v : Int} (hs : zS s) (hv : 0 ≤ v ∧ v ≤ 1000000000) : zlo s 184 ≤ v ∧ v ≤ zhi s 184 := by
  rw [(hs.2 184).1, (hs.2 184).2]; exact hv
theorem zrw_c {s : Nat} {v : Int} (hs : zS s) (hv : 0 ≤ v ∧ v ≤ 10) : zlo s 185 ≤ v ∧ v ≤ zhi s 185 := by
  rw [(hs.2 185).1, (hs.2 185).2]; exact hv
theorem zrw_l {s i : Nat} {v : Int} (hs : zS s) (hi : 70 ≤ i ∧ i ≤ 79) (hv : 0 ≤ v ∧ v ≤ 1) : zlo s i ≤ v ∧ v ≤ zhi s i := by
  rw [(hs.2 i).1, (hs.2 i).2, (zr_in hi).1, (zr_in hi).2]; exact hv
theorem zrw_i {s i : Nat} {v : Int} (hs : zS s) (hi : i ≠ 184 ∧ i ≠ 185 ∧ (i < 70 ∨ 79 < i)) (hv : -2147483648 ≤ v ∧ v ≤ 2147483647) : zlo s i ≤ v ∧ v ≤ zhi s i := by
  rw [(hs.2 i).1, (hs.2 i).2]
  have h1 : Nat.beq i 184 = false := z_bqf hi.1
  have h2 : Nat.beq i 185 = false := z_bqf hi.2.1
  have h3 : (Nat.ble 70 i && Nat.ble i 79) = false := by
    rcases hi.2.2 with q | q
    · have : Nat.ble 70 i = false := by
        cases hb : Nat.ble 70 i with
        | false => rfl
        | true => have := Nat.le_of_ble_eq_true hb; omega
      rw [this]; rfl
    · have : Nat.ble i 79 = false := by
        cases hb : Nat.ble i 79 with
        | false => rfl
        | true => have := Nat.le_of_ble_eq_true hb; omega
      rw [this, Bool.and_false]
  unfold zrl zrh
  rw [h1, h2, h3]
  exact hv
theorem zr_f0 {s : Nat} (hs : zS s) (i : Nat) : zlo s i ≤ 0 ∧ 0 ≤ zhi s i := by
  rw [(hs.2 i).1, (hs.2 i).2]
  have h2 := zr_lh i
  omega
theorem zA_2 : zA 0 2 240 := fun _ => rfl
theorem zA_5 : zA 0 5 5 := fun _ => rfl
theorem zA_6 : zA 0 6 48 := fun _ => rfl
theorem zA_7 : zA 0 7 6 := fun _ => rfl
theorem zA_8 : zA 0 8 188 := fun _ => rfl
theorem zA_9 : zA 0 9 7 := fun _ => rfl
theorem zA_11 : zA 0 11 240 := fun _ => rfl
theorem zA_14 : zA 0 14 5 := fun _ => rfl
theorem zA_15 : zA 0 15 48 := fun _ => rfl
theorem zA_16 : zA 0 16 6 := fun _ => rfl
theorem zA_17 : zA 0 17 188 := fun _ => rfl
theorem zA_19 : zA 0 19 10 := fun _ => rfl
theorem zA_20 : zA 3 20 10 := fun _ => rfl
theorem zA_21 : zA 0 21 20 := fun _ => rfl
theorem zA_22 : zA 0 22 20 := fun _ => rfl
theorem zA_25 : zA 0 25 188 := fun _ => rfl
theorem zA_26 : zA 0 26 188 := fun _ => rfl
theorem zA_27 : zA 0 27 188 := fun _ => rfl
theorem zA_28 : zA 0 28 188 := fun _ => rfl
theorem zA_29 : zA 0 29 188 := fun _ => rfl
theorem zA_30 : zA 0 30 188 := fun _ => rfl
theorem zA_31 : zA 0 31 188 := fun _ => rfl
theorem zA_32 : zA 0 32 188 := fun _ => rfl
theorem zA_33 : zA 0 33 188 := fun _ => rfl
theorem zA_34 : zA 0 34 188 := fun _ => rfl
theorem zA_35 : zA 0 35 188 := fun _ => rfl
theorem zA_36 : zA 0 36 188 := fun _ => rfl
theorem zA_37 : zA 0 37 188 := fun _ => rfl
theorem zA_38 : zA 0 38 188 := fun _ => rfl
theorem zA_39 : zA 0 39 188 := fun _ => rfl
theorem zA_40 : zA 0 40 188 := fun _ => rfl
theorem zA_41 : zA 0 41 188 := fun _ => rfl
theorem zA_42 : zA 0 42 188 := fun _ => rfl
theorem zA_43 : zA 0 43 188 := fun _ => rfl
theorem zA_44 : zA 0 44 188 := fun _ => rfl
theorem zA_45 : zA 0 45 188 := fun _ => rfl
theorem zA_46 : zA 0 46 188 := fun _ => rfl
theorem zA_47 : zA 0 47 188 := fun _ => rfl
theorem zA_48 : zA 0 48 188 := fun _ => rfl
theorem zA_49 : zA 0 49 188 := fun _ => rfl
theorem zA_50 : zA 0 50 188 := fun _ => rfl
theorem zA_51 : zA 0 51 188 := fun _ => rfl
theorem zA_52 : zA 0 52 188 := fun _ => rfl
theorem zA_53 : zA 0 53 188 := fun _ => rfl
theorem zA_54 : zA 0 54 188 := fun _ => rfl
theorem zA_55 : zA 0 55 188 := fun _ => rfl
theorem zA_56 : zA 0 56 188 := fun _ => rfl
theorem zA_57 : zA 0 57 188 := fun _ => rfl
theorem zA_58 : zA 0 58 188 := fun _ => rfl
theorem zA_59 : zA 0 59 188 := fun _ => rfl
theorem zA_60 : zA 0 60 188 := fun _ => rfl
theorem zA_61 : zA 0 61 188 := fun _ => rfl
theorem zA_62 : zA 0 62 188 := fun _ => rfl
theorem zA_63 : zA 0 63 188 := fun _ => rfl
theorem zA_64 : zA 0 64 188 := fun _ => rfl
theorem zA_65 : zA 3 65 40 := fun _ => rfl
theorem zA_66 : zA 0 66 400 := fun _ => rfl
theorem zA_67 : zA 0 67 188 := fun _ => rfl
theorem zA_70 : zA 0 70 188 := fun _ => rfl
theorem zA_71 : zA 0 71 16 := fun _ => rfl
theorem zA_72 : zA 0 72 16 := fun _ => rfl
theorem zA_74 : zA 0 74 188 := fun _ => rfl
theorem zA_76 : zA 0 76 188 := fun _ => rfl
theorem zA_77 : zA 0 77 6 := fun _ => rfl
theorem zA_78 : zA 0 78 6 := fun _ => rfl
theorem zA_80 : zA 2 80 240 := fun _ => rfl
theorem zA_81 : zA 2 81 960 := fun _ => rfl
theorem zA_82 : zA 0 82 4 := fun _ => rfl
theorem zA_83 : zA 0 83 128 := fun _ => rfl
theorem zA_84 : zA 0 84 5 := fun _ => rfl
theorem zA_85 : zA 0 85 5 := fun _ => rfl
theorem zA_86 : zA 0 86 42 := fun _ => rfl
theorem zA_87 : zA 0 87 12 := fun _ => rfl
theorem zA_88 : zA 0 88 48 := fun _ => rfl
theorem zA_89 : zA 0 89 48 := fun _ => rfl
theorem zA_90 : zA 0 90 6 := fun _ => rfl
theorem zA_91 : zA 0 91 6 := fun _ => rfl
theorem zA_92 : zA 0 92 178 := fun _ => rfl
theorem zA_93 : zA 0 93 178 := fun _ => rfl
theorem zA_94 : zA 0 94 10 := fun _ => rfl
theorem zA_95 : zA 0 95 10 := fun _ => rfl
theorem zA_96 : zAL 96 8191 := fun _ => rfl
theorem zA_97 : zA 0 97 8191 := fun _ => rfl
theorem zA_98 : zA 0 98 7120 := fun _ => rfl
theorem zA_99 : zA 0 99 240 := fun _ => rfl
theorem zA_100 : zA 3 100 40 := fun _ => rfl
theorem zA_101 : zA 0 101 6 := fun _ => rfl
theorem zA_102 : zA 0 102 6 := fun _ => rfl
theorem zA_103 : zA 0 103 16 := fun _ => rfl
theorem zA_104 : zA 0 104 16 := fun _ => rfl
theorem zA_105 : zA 0 105 178 := fun _ => rfl
theorem zA_106 : zAL 106 1 := fun _ => rfl
theorem zS_8 : zS 8 := ⟨zA_8, fun _ => ⟨rfl, rfl⟩⟩
theorem zS_17 : zS 17 := ⟨zA_17, fun _ => ⟨rfl, rfl⟩⟩
theorem zS_67 : zS 67 := ⟨zA_67, fun _ => ⟨rfl, rfl⟩⟩
theorem zS_70 : zS 70 := ⟨zA_70, fun _ => ⟨rfl, rfl⟩⟩
theorem zS_74 : zS 74 := ⟨zA_74, fun _ => ⟨rfl, rfl⟩⟩
theorem zS_76 : zS 76 := ⟨zA_76, fun _ => ⟨rfl, rfl⟩⟩
theorem zS_25 : zS 25 := ⟨zA_25, fun _ => ⟨rfl, rfl⟩⟩
theorem zS_26 : zS 26 := ⟨zA_26, fun _ => ⟨rfl, rfl⟩⟩
theorem zS_27 : zS 27 := ⟨zA_27, fun _ => ⟨rfl, rfl⟩⟩
theorem zS_28 : zS 28 := ⟨zA_28, fun _ => ⟨rfl, rfl⟩⟩
theorem zS_29 : zS 29 := ⟨zA_29, fun _ => ⟨rfl, rfl⟩⟩
theorem zS_30 : zS 30 := ⟨zA_30, fun _ => ⟨rfl, rfl⟩⟩
theorem zS_31 : zS 31 := ⟨zA_31, fun _ => ⟨rfl, rfl⟩⟩
theorem zS_32 : zS 32 := ⟨zA_32, fun _ => ⟨rfl, rfl⟩⟩
theorem zS_33 : zS 33 := ⟨zA_33, fun _ => ⟨rfl, rfl⟩⟩
theorem zS_34 : zS 34 := ⟨zA_34, fun _ => ⟨rfl, rfl⟩⟩
theorem zS_35 : zS 35 := ⟨zA_35, fun _ => ⟨rfl, rfl⟩⟩
theorem zS_36 : zS 36 := ⟨zA_36, fun _ => ⟨rfl, rfl⟩⟩
theorem zS_37 : zS 37 := ⟨zA_37, fun _ => ⟨rfl, rfl⟩⟩
theorem zS_38 : zS 38 := ⟨zA_38, fun _ => ⟨rfl, rfl⟩⟩
theorem zS_39 : zS 39 := ⟨zA_39, fun _ => ⟨rfl, rfl⟩⟩
theorem zS_40 : zS 40 := ⟨zA_40, fun _ => ⟨rfl, rfl⟩⟩
theorem zS_41 : zS 41 := ⟨zA_41, fun _ => ⟨rfl, rfl⟩⟩
theorem zS_42 : zS 42 := ⟨zA_42, fun _ => ⟨rfl, rfl⟩⟩
theorem zS_43 : zS 43 := ⟨zA_43, fun _ => ⟨rfl, rfl⟩⟩
theorem zS_44 : zS 44 := ⟨zA_44, fun _ => ⟨rfl, rfl⟩⟩
theorem zS_45 : zS 45 := ⟨zA_45, fun _ => ⟨rfl, rfl⟩⟩
theorem zS_46 : zS 46 := ⟨zA_46, fun _ => ⟨rfl, rfl⟩⟩
theorem zS_47 : zS 47 := ⟨zA_47, fun _ => ⟨rfl, rfl⟩⟩
theorem zS_48 : zS 48 := ⟨zA_48, fun _ => ⟨rfl, rfl⟩⟩
theorem zS_49 : zS 49 := ⟨zA_49, fun _ => ⟨rfl, rfl⟩⟩
theorem zS_50 : zS 50 := ⟨zA_50, fun _ => ⟨rfl, rfl⟩⟩
theorem zS_51 : zS 51 := ⟨zA_51, fun _ => ⟨rfl, rfl⟩⟩
theorem zS_52 : zS 52 := ⟨zA_52, fun _ => ⟨rfl, rfl⟩⟩
theorem zS_53 : zS 53 := ⟨zA_53, fun _ => ⟨rfl, rfl⟩⟩
theorem zS_54 : zS 54 := ⟨zA_54, fun _ => ⟨rfl, rfl⟩⟩
theorem zS_55 : zS 55 := ⟨zA_55, fun _ => ⟨rfl, rfl⟩⟩
theorem zS_56 : zS 56 := ⟨zA_56, fun _ => ⟨rfl, rfl⟩⟩
theorem zS_57 : zS 57 := ⟨zA_57, fun _ => ⟨rfl, rfl⟩⟩
theorem zS_58 : zS 58 := ⟨zA_58, fun _ => ⟨rfl, rfl⟩⟩
theorem zS_59 : zS 59 := ⟨zA_59, fun _ => ⟨rfl, rfl⟩⟩
theorem zS_60 : zS 60 := ⟨zA_60, fun _ => ⟨rfl, rfl⟩⟩
theorem zS_61 : zS 61 := ⟨zA_61, fun _ => ⟨rfl, rfl⟩⟩
theorem zS_62 : zS 62 := ⟨zA_62, fun _ => ⟨rfl, rfl⟩⟩
theorem zS_63 : zS 63 := ⟨zA_63, fun _ => ⟨rfl, rfl⟩⟩
theorem zS_64 : zS 64 := ⟨zA_64, fun _ => ⟨rfl, rfl⟩⟩
def zfl (m : zM) (p n : Nat) (v : Int) : zM := fun q i => if q = p ∧ i < n then v else m q i
theorem S_fill (zn : Bool) (d : Nat) {c : Nat × Nat} (hN : 107 ≤ c.1) (hC : c.1 < z_RO) {p n : Nat} (hp : zA 0 p n) (hlt : p < 107 ∧ p ≠ 12 ∧ p ≠ 18 ∧ p ≠ 0) (hn : n ≤ 2000000000) {v : Int} (m : zM) (hI : zI c m) (hv : ∀ i, i < n → zlo p i ≤ v ∧ v ≤ zhi p i) :
    ∃ m1, z_sem zn (d + 1) 28 [.ref p, .int (Int32.ofInt v)] (zk c m) none (zk c m1) ∧ zI c m1 ∧ (∀ q i, q ≠ p → m1 q i = m q i) ∧ ∀ i, i < n → m1 p i = v := by
  refine ⟨zfl m p n v, ?_, ?_, ?_, ?_⟩
  · have h := zf_fill zn d (N := c.1) (sl := c.2) (a := p) (n := n) (g := (zk c m).2.2) (f := fun j => Int32.ofInt (m p j)) (v := Int32.ofInt v) (hp _) (Nat.ble_eq_true_of_le (Nat.lt_of_lt_of_le hlt.1 hN)) (Nat.ble_eq_true_of_le hC) hn
    have e : ((c.1, c.2, va_up (zk c m).2.2 p (.inl (0, n, .inl (zfillf (fun j => Int32.ofInt (m p j)) (Int32.ofInt v) n)))) : z_H) = zk c (zfl m p n v) := by
      unfold zk
      congr 2
      funext k
      unfold va_up
      by_cases h : k = p
      · subst h
        rw [if_pos rfl, hp]
        congr 4
        funext j
        unfold zfillf zfl
        by_cases hj : j < n
        · simp [hj]
        · simp [hj]
      · rw [if_neg h]
        show zm_sh k (m k) = zm_sh k (zfl m p n v k)
        congr 1
        funext j
        unfold zfl
        rw [if_neg (fun q => h q.1)]
    rw [e] at h
    exact h
  · refine ⟨fun p1 i1 => ?_, ?_⟩
    · unfold zfl
      by_cases q : p1 = p ∧ i1 < n
      · rw [if_pos q, q.1]; exact hv i1 q.2
      · rw [if_neg q]; exact hI.1 p1 i1
    · obtain ⟨h1, h2, h3⟩ := hI.2
      have e : ∀ q i, q ≠ p → zfl m p n v q i = m q i := fun q i hq => by unfold zfl; rw [if_neg (fun z => hq z.1)]
      refine ⟨by rw [e 18 1 (fun e => hlt.2.2.1 e.symm)]; exact h1, by rw [e 0 13 (fun e => hlt.2.2.2 e.symm)]; exact h2, fun j hj => ?_⟩
      rw [e 12 j (fun e => hlt.2.1 e.symm)]
      exact h3 j (by rw [e 0 13 (fun e => hlt.2.2.2 e.symm)] at hj; exact hj)
  · intro q i hq
    show (if q = p ∧ i < n then v else m q i) = _
    rw [if_neg (fun z => hq z.1)]
  · intro i hi
    show (if p = p ∧ i < n then v else m p i) = _
    rw [if_pos ⟨rfl, hi⟩]
theorem zT_stk {c : Nat × Nat} {m : zM} {k i : Nat} (hI : zI c m) (h : zTp k) : -9223372036854775808 ≤ m (k + 2) i ∧ m (k + 2) i ≤ 9223372036854775807 := by
  have h1 := hI.1 (k + 2) i
  have hl : -9223372036854775808 ≤ zlo (k + 2) i ∧ zhi (k + 2) i ≤ 9223372036854775807 := by
    rcases h with h | h | h | h
    · subst h
      have e1 : zlo (107 + 2) i = (bif Nat.beq i 1001 then (0 : Int) else (-9223372036854775808)) := rfl
      have e2 : zhi (107 + 2) i = (bif Nat.beq i 1001 then (240 : Int) else 9223372036854775807) := rfl
      rw [e1, e2]
      cases Nat.beq i 1001 <;> decide
    · subst h
      have e1 : zlo (111 + 2) i = (bif Nat.beq i 1001 then (0 : Int) else (-9223372036854775808)) := rfl
      have e2 : zhi (111 + 2) i = (bif Nat.beq i 1001 then (240 : Int) else 9223372036854775807) := rfl
      rw [e1, e2]
      cases Nat.beq i 1001 <;> decide
    · subst h
      have e1 : zlo (115 + 2) i = (bif Nat.beq i 1001 then (0 : Int) else (-9223372036854775808)) := rfl
      have e2 : zhi (115 + 2) i = (bif Nat.beq i 1001 then (240 : Int) else 9223372036854775807) := rfl
      rw [e1, e2]
      cases Nat.beq i 1001 <;> decide
    · subst h
      have e1 : zlo (119 + 2) i = (bif Nat.beq i 1001 then (0 : Int) else (-9223372036854775808)) := rfl
      have e2 : zhi (119 + 2) i = (bif Nat.beq i 1001 then (240 : Int) else 9223372036854775807) := rfl
      rw [e1, e2]
      cases Nat.beq i 1001 <;> decide
  omega
theorem zT_int {c : Nat × Nat} {m : zM} {k i : Nat} (hI : zI c m) (h : zTp k) (d : Nat) (hd : d = 0 ∨ d = 1) : -2147483648 ≤ m (k + d) i ∧ m (k + d) i ≤ 2147483647 := by
  have h1 := hI.1 (k + d) i
  have hl : -2147483648 ≤ zlo (k + d) i ∧ zhi (k + d) i ≤ 2147483647 := by
    rcases hd with hd | hd
    · subst hd
      rcases h with h | h | h | h
      · subst h
        have e1 : zlo (107 + 0) i = (bif Nat.beq i 1001 then (0 : Int) else (-2147483648)) := rfl
        have e2 : zhi (107 + 0) i = (bif Nat.beq i 1001 then (240 : Int) else 2147483647) := rfl
        rw [e1, e2]
        cases Nat.beq i 1001 <;> decide
      · subst h
        have e1 : zlo (111 + 0) i = (bif Nat.beq i 1001 then (0 : Int) else (-2147483648)) := rfl
        have e2 : zhi (111 + 0) i = (bif Nat.beq i 1001 then (240 : Int) else 2147483647) := rfl
        rw [e1, e2]
        cases Nat.beq i 1001 <;> decide
      · subst h
        have e1 : zlo (115 + 0) i = (bif Nat.beq i 1001 then (0 : Int) else (-2147483648)) := rfl
        have e2 : zhi (115 + 0) i = (bif Nat.beq i 1001 then (240 : Int) else 2147483647) := rfl
        rw [e1, e2]
        cases Nat.beq i 1001 <;> decide
      · subst h
        have e1 : zlo (119 + 0) i = (bif Nat.beq i 1001 then (0 : Int) else (-2147483648)) := rfl
        have e2 : zhi (119 + 0) i = (bif Nat.beq i 1001 then (240 : Int) else 2147483647) := rfl
        rw [e1, e2]
        cases Nat.beq i 1001 <;> decide
    · subst hd
      rcases h with h | h | h | h
      · subst h
        have e1 : zlo (107 + 1) i = (bif Nat.beq i 1001 then (0 : Int) else (-2147483648)) := rfl
        have e2 : zhi (107 + 1) i = (bif Nat.beq i 1001 then (240 : Int) else 2147483647) := rfl
        rw [e1, e2]
        cases Nat.beq i 1001 <;> decide
      · subst h
        have e1 : zlo (111 + 1) i = (bif Nat.beq i 1001 then (0 : Int) else (-2147483648)) := rfl
        have e2 : zhi (111 + 1) i = (bif Nat.beq i 1001 then (240 : Int) else 2147483647) := rfl
        rw [e1, e2]
        cases Nat.beq i 1001 <;> decide
      · subst h
        have e1 : zlo (115 + 1) i = (bif Nat.beq i 1001 then (0 : Int) else (-2147483648)) := rfl
        have e2 : zhi (115 + 1) i = (bif Nat.beq i 1001 then (240 : Int) else 2147483647) := rfl
        rw [e1, e2]
        cases Nat.beq i 1001 <;> decide
      · subst h
        have e1 : zlo (119 + 1) i = (bif Nat.beq i 1001 then (0 : Int) else (-2147483648)) := rfl
        have e2 : zhi (119 + 1) i = (bif Nat.beq i 1001 then (240 : Int) else 2147483647) := rfl
        rw [e1, e2]
        cases Nat.beq i 1001 <;> decide
  omega
theorem zT_code {c : Nat × Nat} {m : zM} {k i : Nat} (hI : zI c m) (h : zTp k) : 0 ≤ m (k + 3) i ∧ m (k + 3) i ≤ 2147483647 := by
  have h1 := hI.1 (k + 3) i
  have hl : 0 ≤ zlo (k + 3) i ∧ zhi (k + 3) i ≤ 2147483647 := by
    rcases h with h | h | h | h
    · subst h
      have e1 : zlo (107 + 3) i = (bif Nat.beq i 1001 then (0 : Int) else (0)) := rfl
      have e2 : zhi (107 + 3) i = (bif Nat.beq i 1001 then (240 : Int) else 2147483647) := rfl
      rw [e1, e2]
      cases Nat.beq i 1001 <;> decide
    · subst h
      have e1 : zlo (111 + 3) i = (bif Nat.beq i 1001 then (0 : Int) else (0)) := rfl
      have e2 : zhi (111 + 3) i = (bif Nat.beq i 1001 then (240 : Int) else 2147483647) := rfl
      rw [e1, e2]
      cases Nat.beq i 1001 <;> decide
    · subst h
      have e1 : zlo (115 + 3) i = (bif Nat.beq i 1001 then (0 : Int) else (0)) := rfl
      have e2 : zhi (115 + 3) i = (bif Nat.beq i 1001 then (240 : Int) else 2147483647) := rfl
      rw [e1, e2]
      cases Nat.beq i 1001 <;> decide
    · subst h
      have e1 : zlo (119 + 3) i = (bif Nat.beq i 1001 then (0 : Int) else (0)) := rfl
      have e2 : zhi (119 + 3) i = (bif Nat.beq i 1001 then (240 : Int) else 2147483647) := rfl
      rw [e1, e2]
      cases Nat.beq i 1001 <;> decide
  omega
theorem zT_len {c : Nat × Nat} {m : zM} {k : Nat} (hI : zI c m) (h : zTp k) : 0 ≤ m (k + 3) 1001 ∧ m (k + 3) 1001 ≤ 240 := by
  have h1 := hI.1 (k + 3) 1001
  rcases h with h | h | h | h <;> (subst h; exact h1)
theorem zTw_stk {k i : Nat} {v : Int} (h : zTp k) (hi : i ≠ 1001) (hv : -9223372036854775808 ≤ v ∧ v ≤ 9223372036854775807) : zlo (k + 2) i ≤ v ∧ v ≤ zhi (k + 2) i := by
  have e := z_bqf hi
  rcases h with h | h | h | h
  · subst h
    have e1 : zlo (107 + 2) i = (bif Nat.beq i 1001 then (0 : Int) else (-9223372036854775808)) := rfl
    have e2 : zhi (107 + 2) i = (bif Nat.beq i 1001 then (240 : Int) else 9223372036854775807) := rfl
    rw [e1, e2]
    rw [e]; exact hv
  · subst h
    have e1 : zlo (111 + 2) i = (bif Nat.beq i 1001 then (0 : Int) else (-9223372036854775808)) := rfl
    have e2 : zhi (111 + 2) i = (bif Nat.beq i 1001 then (240 : Int) else 9223372036854775807) := rfl
    rw [e1, e2]
    rw [e]; exact hv
  · subst h
    have e1 : zlo (115 + 2) i = (bif Nat.beq i 1001 then (0 : Int) else (-9223372036854775808)) := rfl
    have e2 : zhi (115 + 2) i = (bif Nat.beq i 1001 then (240 : Int) else 9223372036854775807) := rfl
    rw [e1, e2]
    rw [e]; exact hv
  · subst h
    have e1 : zlo (119 + 2) i = (bif Nat.beq i 1001 then (0 : Int) else (-9223372036854775808)) := rfl
    have e2 : zhi (119 + 2) i = (bif Nat.beq i 1001 then (240 : Int) else 9223372036854775807) := rfl
    rw [e1, e2]
    rw [e]; exact hv
theorem zTw_int {k i : Nat} {v : Int} (h : zTp k) (hi : i ≠ 1001) (hv : -2147483648 ≤ v ∧ v ≤ 2147483647) : zlo (k + 1) i ≤ v ∧ v ≤ zhi (k + 1) i := by
  have e := z_bqf hi
  rcases h with h | h | h | h
  · subst h
    have e1 : zlo (107 + 1) i = (bif Nat.beq i 1001 then (0 : Int) else (-2147483648)) := rfl
    have e2 : zhi (107 + 1) i = (bif Nat.beq i 1001 then (240 : Int) else 2147483647) := rfl
    rw [e1, e2]
    rw [e]; exact hv
  · subst h
    have e1 : zlo (111 + 1) i = (bif Nat.beq i 1001 then (0 : Int) else (-2147483648)) := rfl
    have e2 : zhi (111 + 1) i = (bif Nat.beq i 1001 then (240 : Int) else 2147483647) := rfl
    rw [e1, e2]
    rw [e]; exact hv
  · subst h
    have e1 : zlo (115 + 1) i = (bif Nat.beq i 1001 then (0 : Int) else (-2147483648)) := rfl
    have e2 : zhi (115 + 1) i = (bif Nat.beq i 1001 then (240 : Int) else 2147483647) := rfl
    rw [e1, e2]
    rw [e]; exact hv
  · subst h
    have e1 : zlo (119 + 1) i = (bif Nat.beq i 1001 then (0 : Int) else (-2147483648)) := rfl
    have e2 : zhi (119 + 1) i = (bif Nat.beq i 1001 then (240 : Int) else 2147483647) := rfl
    rw [e1, e2]
    rw [e]; exact hv
/-- rows that last; rows at all -/
def zQ (p : Nat) : Prop := p = 8 ∨ p = 17 ∨ (25 ≤ p ∧ p ≤ 64) ∨ p = 67
def zRow (p : Nat) : Prop := p = 8 ∨ p = 17 ∨ (25 ≤ p ∧ p ≤ 64) ∨ p = 67 ∨ p = 70 ∨ p = 74 ∨ p = 76
/-- HOURs that stay: of all rows; of all that last but s; of s -/
def zN (m m1 : zM) : Prop := ∀ p, zRow p → m1 p 184 = m p 184
def zF (s : Nat) (m m1 : zM) : Prop := ∀ p, zQ p → p ≠ s → m1 p 184 = m p 184
def zG (s : Nat) (m m1 : zM) : Prop := m1 s 184 = m s 184
theorem zN_rf {m : zM} : zN m m := fun _ _ => rfl
theorem zF_rf {s : Nat} {m : zM} : zF s m m := fun _ _ _ => rfl
theorem zG_rf {s : Nat} {m : zM} : zG s m m := rfl
theorem zN_up {m M : zM} {p i : Nat} {v : Int} (h : zN m M) (q : ¬ zRow p ∨ i ≠ 184) : zN m (zm_up M p i v) := fun r hr => by
  rw [zm_ne (q.elim (fun w => Or.inl (fun e : r = p => w (by rw [← e]; exact hr))) (fun w => Or.inr (fun e => w e.symm)))]
  exact h r hr
theorem zF_up {s : Nat} {m M : zM} {p i : Nat} {v : Int} (h : zF s m M) (q : p = s ∨ ¬ zQ p ∨ i ≠ 184) : zF s m (zm_up M p i v) := fun r hr hs => by
  rw [zm_ne]
  · exact h r hr hs
  · rcases q with q | q | q
    · exact Or.inl (fun e => hs (e.trans q))
    · exact Or.inl (fun e : r = p => q (by rw [← e]; exact hr))
    · exact Or.inr (fun e => q e.symm)
theorem zG_up {s : Nat} {m M : zM} {p i : Nat} {v : Int} (h : zG s m M) (q : p ≠ s ∨ i ≠ 184) : zG s m (zm_up M p i v) := by
  unfold zG
  rw [zm_ne (q.elim (fun w => Or.inl (fun e => w e.symm)) (fun w => Or.inr (fun e => w e.symm)))]
  exact h
theorem zN_tr {a b c : zM} (h : zN a b) (h2 : zN b c) : zN a c := fun p hp => (h2 p hp).trans (h p hp)
theorem zQ_row {p : Nat} (h : zQ p) : zRow p := by unfold zQ at h; unfold zRow; omega
theorem zF_trN {s : Nat} {a b c : zM} (h : zF s a b) (h2 : zN b c) : zF s a c := fun p hp hs => (h2 p (zQ_row hp)).trans (h p hp hs)
theorem zG_trN {s : Nat} {a b c : zM} (h : zG s a b) (h2 : zN b c) (hs : zRow s) : zG s a c := (h2 s hs).trans h
theorem zF_tr {s s2 : Nat} {a b c : zM} (h : zF s a b) (h2 : zF s2 b c) (q : s2 = s ∨ ¬ zQ s2) : zF s a c := fun p hp hs => (h2 p hp (q.elim (fun e => by rw [e]; exact hs) (fun w (e : p = s2) => w (by rw [← e]; exact hp)))).trans (h p hp hs)
theorem zG_tr {s : Nat} {a b c : zM} (h : zG s a b) (h2 : zG s b c) : zG s a c := h2.trans h
theorem zG_c {s : Nat} {M M1 : zM} {x : Int} (h : zG s M M1) (e : M s 184 = x) : M1 s 184 = x := h.trans e
theorem zN_c {s : Nat} {M M1 : zM} {x : Int} (h : zN M M1) (hs : zRow s) (e : M s 184 = x) : M1 s 184 = x := (h s hs).trans e
theorem zN_fl {a b c : zM} {p : Nat} (h : zN a b) (h2 : ∀ q i, q ≠ p → c q i = b q i) (w : ¬ zRow p) : zN a c := fun r hr => (h2 r 184 (fun (e : r = p) => w (by rw [← e]; exact hr))).trans (h r hr)
theorem zF_fl {s : Nat} {a b c : zM} {p : Nat} (h : zF s a b) (h2 : ∀ q i, q ≠ p → c q i = b q i) (w : ¬ zQ p) : zF s a c := fun r hr hs => (h2 r 184 (fun (e : r = p) => w (by rw [← e]; exact hr))).trans (h r hr hs)
theorem zG_fl {s : Nat} {a b c : zM} {p : Nat} (h : zG s a b) (h2 : ∀ q i, q ≠ p → c q i = b q i) (w : p ≠ s) : zG s a c := (h2 s 184 (fun e => w e.symm)).trans h
/-- System.arraycopy from a place's first rows to another's -/
def zm_cp (m : zM) (a b k : Nat) : zM := fun p i => if p = a ∧ i < k then m b i else m p i
theorem zm_cp_ne {m : zM} {a b k p i : Nat} (h : p ≠ a ∨ k ≤ i) : zm_cp m a b k p i = m p i := by
  unfold zm_cp
  rw [if_neg (fun z => h.elim (fun w => w z.1) (fun w => absurd z.2 (Nat.not_lt.mpr w)))]
theorem zm_cp_eq {m : zM} {a b k i : Nat} (h : i < k) : zm_cp m a b k a i = m b i := by
  unfold zm_cp
  rw [if_pos ⟨rfl, h⟩]
theorem zk_acp (c : Nat × Nat) (m : zM) {a b n1 : Nat} {k : Int} {x y z : Int32} (ha : zA 0 a n1) (hx : x = Int32.ofInt 0) (hy : y = Int32.ofInt 0) (hz : z = Int32.ofInt k) (hk : zR k) :
    z_hup (zk c m) a (.inl (0, n1, .inl (va_cpy (fun j => Int32.ofInt (m b j)) (fun j => Int32.ofInt (m a j)) x.toNatClampNeg y.toNatClampNeg z.toNatClampNeg))) = zk c (zm_cp m a b k.toNat) := by
  have e0 : (Int32.ofInt 0).toNatClampNeg = 0 := by decide
  rw [hx, hy, e0, zi_nat hz hk]
  unfold z_hup zk
  dsimp only
  congr 2
  funext q
  unfold va_up
  by_cases h : q = a
  · subst h
    rw [if_pos rfl]
    show _ = zm_sh q (zm_cp m q b k.toNat q)
    rw [ha]
    congr 4
    funext j
    unfold va_cpy zm_cp
    by_cases hj : j < k.toNat
    · rw [if_pos ⟨Nat.zero_le _, by omega⟩, if_pos ⟨rfl, hj⟩]
      congr 2
      omega
    · rw [if_neg (fun w => hj (by omega)), if_neg (fun w => hj w.2)]
  · rw [if_neg h]
    show zm_sh q (m q) = zm_sh q (zm_cp m a b k.toNat q)
    congr 1
    funext j
    rw [zm_cp_ne (Or.inl h)]
theorem zI_cp {c : Nat × Nat} {m : zM} {a b k : Nat} (h : zI c m) (hk : a ≠ 12 ∧ a ≠ 18 ∧ a ≠ 0) (hb : ∀ i, i < k → zlo a i ≤ zlo b i ∧ zhi b i ≤ zhi a i) : zI c (zm_cp m a b k) := by
  refine ⟨fun p i => ?_, ?_⟩
  · by_cases q : p = a ∧ i < k
    · rw [q.1, zm_cp_eq q.2]
      have h1 := hb i q.2
      have h2 := h.1 b i
      omega
    · unfold zm_cp
      rw [if_neg q]
      exact h.1 p i
  · obtain ⟨h1, h2, h3⟩ := h.2
    refine ⟨by rw [zm_cp_ne (Or.inl (fun e => hk.2.1 e.symm))]; exact h1, by rw [zm_cp_ne (Or.inl (fun e => hk.2.2 e.symm))]; exact h2, fun j hj => ?_⟩
    rw [zm_cp_ne (Or.inl (fun e => hk.1 e.symm))]
    exact h3 j (by rw [zm_cp_ne (Or.inl (fun e => hk.2.2 e.symm))] at hj; exact hj)
theorem zS_cp {a b : Nat} (ha : zS a) (hb : zS b) (i : Nat) : zlo a i ≤ zlo b i ∧ zhi b i ≤ zhi a i := by
  rw [(ha.2 i).1, (ha.2 i).2, (hb.2 i).1, (hb.2 i).2]
  exact ⟨Int.le_refl _, Int.le_refl _⟩
/-- what is copied comes out of a static array -/
def zm_cs (m : zM) (a K k : Nat) : zM := fun p i => if p = a ∧ i < k then zst9 K i else m p i
theorem zm_cs_ne {m : zM} {a K k p i : Nat} (h : p ≠ a ∨ k ≤ i) : zm_cs m a K k p i = m p i := by
  unfold zm_cs
  rw [if_neg (fun z => h.elim (fun w => w z.1) (fun w => by omega))]
theorem zk_acs (c : Nat × Nat) (m : zM) {a K n1 : Nat} {k : Int} {x y z : Int32} (ha : zA 0 a n1) (hx : x = Int32.ofInt 0) (hy : y = Int32.ofInt 0) (hz : z = Int32.ofInt k) (hk : zR k) :
    z_hup (zk c m) a (.inl (0, n1, .inl (va_cpy (fun j => (z_sta.getD K []).getD j 0) (fun j => Int32.ofInt (m a j)) x.toNatClampNeg y.toNatClampNeg z.toNatClampNeg))) = zk c (zm_cs m a K k.toNat) := by
  have e0 : (Int32.ofInt 0).toNatClampNeg = 0 := by decide
  rw [hx, hy, e0, zi_nat hz hk]
  unfold z_hup zk
  dsimp only
  congr 2
  funext q
  unfold va_up
  by_cases h : q = a
  · subst h
    rw [if_pos rfl]
    show _ = zm_sh q (zm_cs m q K k.toNat q)
    rw [ha]
    congr 4
    funext j
    unfold va_cpy zm_cs
    by_cases hj : j < k.toNat
    · rw [if_pos ⟨Nat.zero_le _, by omega⟩, if_pos ⟨rfl, hj⟩, zst9, Int32.ofInt_toInt]
      congr 1
      omega
    · rw [if_neg (fun w => hj (by omega)), if_neg (fun w => hj w.2)]
  · rw [if_neg h]
    show zm_sh q (m q) = zm_sh q (zm_cs m a K k.toNat q)
    congr 1
    funext j
    rw [zm_cs_ne (Or.inl h)]
theorem zI_cs {c : Nat × Nat} {m : zM} {a K k : Nat} (h : zI c m) (hk : a ≠ 12 ∧ a ≠ 18 ∧ a ≠ 0) (hb : ∀ i, i < k → zlo a i ≤ zst9 K i ∧ zst9 K i ≤ zhi a i) : zI c (zm_cs m a K k) := by
  refine ⟨fun p i => ?_, ?_⟩
  · unfold zm_cs
    by_cases q : p = a ∧ i < k
    · rw [if_pos q, q.1]; exact hb i q.2
    · rw [if_neg q]; exact h.1 p i
  · obtain ⟨h1, h2, h3⟩ := h.2
    refine ⟨by rw [zm_cs_ne (Or.inl (fun e => hk.2.1 e.symm))]; exact h1, by rw [zm_cs_ne (Or.inl (fun e => hk.2.2 e.symm))]; exact h2, fun j hj => ?_⟩
    rw [zm_cs_ne (Or.inl (fun e => hk.1 e.symm))]
    exact h3 j (by rw [zm_cs_ne (Or.inl (fun e => hk.2.2 e.symm))] at hj; exact hj)
theorem zN_cs {a K k : Nat} {m M : zM} (h : zN m M) (q : ¬ zRow a) : zN m (zm_cs M a K k) := fun r hr => by
  rw [zm_cs_ne (Or.inl (fun e : r = a => q (by rw [← e]; exact hr)))]
  exact h r hr
theorem zF_cp {s a b k : Nat} {m M : zM} (h : zF s m M) (q : a = s ∨ ¬ zQ a ∨ k ≤ 184) : zF s m (zm_cp M a b k) := fun r hr hs => by
  rw [zm_cp_ne]
  · exact h r hr hs
  · rcases q with q | q | q
    · exact Or.inl (fun e => hs (e.trans q))
    · exact Or.inl (fun e : r = a => q (by rw [← e]; exact hr))
    · exact Or.inr q
theorem zN_cp {a b k : Nat} {m M : zM} (h : zN m M) (q : ¬ zRow a ∨ k ≤ 184) : zN m (zm_cp M a b k) := fun r hr => by
  rw [zm_cp_ne (q.elim (fun w => Or.inl (fun e : r = a => w (by rw [← e]; exact hr))) Or.inr)]
  exact h r hr
theorem zG_cp {s a b k : Nat} {m M : zM} (h : zG s m M) (q : a ≠ s ∨ k ≤ 184) : zG s m (zm_cp M a b k) := by
  unfold zG
  rw [zm_cp_ne (q.elim (fun w => Or.inl (fun e => w e.symm)) Or.inr)]
  exact h
/-- the HOURs of all rows that last are at most t -/
def zH (t : Int) (m : zM) : Prop := ∀ p, zQ p → m p 184 ≤ t
theorem zH_up {t : Int} {m : zM} {p i : Nat} {v : Int} (h : zH t m) (q : ¬ zQ p ∨ i ≠ 184 ∨ v ≤ t) : zH t (zm_up m p i v) := fun r hr => by
  unfold zm_up
  split
  · next w =>
    rcases q with q | q | q
    · exact absurd (by rw [← w.1]; exact hr) q
    · exact absurd w.2.symm q
    · exact q
  · exact h r hr
theorem zH_cp {t : Int} {m : zM} {a b k : Nat} (h : zH t m) (q : ¬ zQ a ∨ k ≤ 184 ∨ m b 184 ≤ t) : zH t (zm_cp m a b k) := fun r hr => by
  unfold zm_cp
  split
  · next w =>
    rcases q with q | q | q
    · exact absurd (by rw [← w.1]; exact hr) q
    · exact absurd w.2 (Nat.not_lt.mpr q)
    · exact q
  · exact h r hr
theorem zH_N {t : Int} {m m1 : zM} (h : zH t m) (h2 : zN m m1) : zH t m1 := fun p hp => by rw [h2 p (zQ_row hp)]; exact h p hp
theorem zH_F {t : Int} {s : Nat} {m m1 : zM} (h : zH t m) (h2 : zF s m m1) (h3 : ¬ zQ s ∨ m1 s 184 ≤ t) : zH t m1 := fun p hp => by
  by_cases e : p = s
  · rcases h3 with q | q
    · exact absurd (by rw [← e]; exact hp) q
    · rw [e]; exact q
  · rw [h2 p hp e]; exact h p hp
theorem zH_fl {t : Int} {m m1 : zM} {p n : Nat} {v : Int} (h : zH t m) (h2 : ∀ q i, q ≠ p → m1 q i = m q i) (h3 : ∀ i, i < n → m1 p i = v) (w : ¬ zQ p ∨ (184 < n ∧ v ≤ t)) : zH t m1 := fun r hr => by
  by_cases e : r = p
  · rcases w with w | w
    · exact absurd (e ▸ hr) w
    · rw [e, h3 184 w.1]; exact w.2
  · rw [h2 r 184 e]; exact h r hr
theorem zH_le {t t1 : Int} {m : zM} (h : zH t m) (hl : t ≤ t1) : zH t1 m := fun p hp => Int.le_trans (h p hp) hl
theorem zS_w {w : Nat} (h : 25 ≤ w ∧ w ≤ 64) : zS w := by
  have h1 : w = 25 ∨ w = 26 ∨ w = 27 ∨ w = 28 ∨ w = 29 ∨ w = 30 ∨ w = 31 ∨ w = 32 ∨ w = 33 ∨ w = 34 ∨ w = 35 ∨ w = 36 ∨ w = 37 ∨ w = 38 ∨ w = 39 ∨ w = 40 ∨ w = 41 ∨ w = 42 ∨ w = 43 ∨ w = 44 ∨ w = 45 ∨ w = 46 ∨ w = 47 ∨ w = 48 ∨ w = 49 ∨ w = 50 ∨ w = 51 ∨ w = 52 ∨ w = 53 ∨ w = 54 ∨ w = 55 ∨ w = 56 ∨ w = 57 ∨ w = 58 ∨ w = 59 ∨ w = 60 ∨ w = 61 ∨ w = 62 ∨ w = 63 ∨ w = 64 := by omega
  rcases h1 with h1 | h1 | h1 | h1 | h1 | h1 | h1 | h1 | h1 | h1 | h1 | h1 | h1 | h1 | h1 | h1 | h1 | h1 | h1 | h1 | h1 | h1 | h1 | h1 | h1 | h1 | h1 | h1 | h1 | h1 | h1 | h1 | h1 | h1 | h1 | h1 | h1 | h1 | h1 | h1
  · subst h1; exact zS_25
  · subst h1; exact zS_26
  · subst h1; exact zS_27
  · subst h1; exact zS_28
  · subst h1; exact zS_29
  · subst h1; exact zS_30
  · subst h1; exact zS_31
  · subst h1; exact zS_32
  · subst h1; exact zS_33
  · subst h1; exact zS_34
  · subst h1; exact zS_35
  · subst h1; exact zS_36
  · subst h1; exact zS_37
  · subst h1; exact zS_38
  · subst h1; exact zS_39
  · subst h1; exact zS_40
  · subst h1; exact zS_41
  · subst h1; exact zS_42
  · subst h1; exact zS_43
  · subst h1; exact zS_44
  · subst h1; exact zS_45
  · subst h1; exact zS_46
  · subst h1; exact zS_47
  · subst h1; exact zS_48
  · subst h1; exact zS_49
  · subst h1; exact zS_50
  · subst h1; exact zS_51
  · subst h1; exact zS_52
  · subst h1; exact zS_53
  · subst h1; exact zS_54
  · subst h1; exact zS_55
  · subst h1; exact zS_56
  · subst h1; exact zS_57
  · subst h1; exact zS_58
  · subst h1; exact zS_59
  · subst h1; exact zS_60
  · subst h1; exact zS_61
  · subst h1; exact zS_62
  · subst h1; exact zS_63
  · subst h1; exact zS_64
theorem zk_row {x : Int32} {a : Int} {w : Nat} (hx : x = Int32.ofInt a) (h : 0 ≤ a ∧ a < 40) (hw : w = 25 + a.toNat) : (fun j => if j < 40 then some (25 + j) else none) x.toNatClampNeg = some w := by
  have e := zi_nat hx (show zR a by unfold zR; omega)
  show (if x.toNatClampNeg < 40 then some (25 + x.toNatClampNeg) else none) = some w
  rw [e, if_pos (by omega), hw]
