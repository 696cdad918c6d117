/-! clock: the law behind its own clock (wip/tools/law.py) -/
set_option maxRecDepth 100000 in
set_option maxHeartbeats 4000000 in
theorem zq423 (zn : Bool) (d : Nat) (a1 : Int32) (ha1l : -2147483648 ≤ a1.toInt) (ha1h : a1.toInt ≤ -1) : z_sem zn (d + 1) 233 [.ref 79, .int a1] zh40 (some (.int (Int32.ofInt 0))) zh40 := by
  refine ⟨zu_X12_isClock, Nat.le_of_ble_eq_true rfl, Nat.le_of_ble_eq_true rfl, [zo, zt, zo], _, _, rfl, ?_, ?_⟩
  · exact ⟨trivial, zT_lt (q := 0) rfl (by decide +kernel) (by omega), trivial, trivial⟩
  · exact zfin_i rfl rfl rfl
def zh424 : z_H := (107, 35862, va_up (zh40.2.2) 79 (.inr (12, [.int (Int32.ofInt 1), .ref 80, .ref 81, .ref 82, .ref 83, .ref 80, .int 0, .int 0, .int 0, .int 0, .int 0, .int 0, .int 0, .int 0, .int 0, .ref (z_RO + 5), .ref (z_RO + 3), .int 0, .ref 84, .ref 85, .ref 86, .ref 87, .ref 88, .ref 89, .ref 90, .ref 91, .int 0, .int 0, .int 0, .int 0, .int 0, .ref 92, .ref 93, .int (Int32.ofInt (-1)), .int 0, .ref 94, .ref 95, .int 0, .int 0, .int 0, .int 0, .int 0, .int 0, .ref 96, .ref 97, .ref 98, .ref 99, .ref 100, .int 0, .int 0, .long 0, .ref 101, .ref 102, .int 0, .ref 103, .ref 104, .ref 105, .int 0])))
set_option maxRecDepth 100000 in
set_option maxHeartbeats 4000000 in
theorem zq425 (zn : Bool) (d : Nat) (a1 : Int32) (ha1l : -2147483648 ≤ a1.toInt) (ha1h : a1.toInt ≤ -1) (a2 : Int32) (ha2l : -2147483648 ≤ a2.toInt) (ha2h : a2.toInt ≤ 2147483647) : z_sem zn (d + 2) 196 [.ref 79, .int a1, .int a2] zh40 (some (.int (Int32.ofInt 0))) zh424 := by
  refine ⟨zu_X12_clock, Nat.le_of_ble_eq_true rfl, Nat.le_of_ble_eq_true rfl, [zo, zo, zo, zc (some (.int (Int32.ofInt 0))) zh40, zt, zo, zo, zo, zo, zo, zo, zo], _, _, rfl, ?_, ?_⟩
  · exact ⟨trivial, trivial, trivial, ⟨⟨(Nat.le_of_ble_eq_true rfl), (Nat.le_of_ble_eq_true rfl)⟩, zq423 zn (d + 0) a1 ha1l ha1h, (Nat.le_of_ble_eq_true rfl), (Nat.le_of_ble_eq_true rfl), (Nat.le_of_ble_eq_true rfl), (Nat.le_of_ble_eq_true rfl), (Nat.le_of_ble_eq_true rfl)⟩, zbt (by decide +kernel), trivial, ⟨(Nat.le_of_ble_eq_true rfl), rfl, rfl⟩, trivial, (Nat.le_of_ble_eq_true rfl), zbf (by decide +kernel), trivial, trivial, trivial⟩
  · exact zfin_i rfl rfl rfl
set_option maxRecDepth 100000 in
set_option maxHeartbeats 4000000 in
theorem zq426 (zn : Bool) (d : Nat) : z_sem zn (d + 1) 290 [.ref 79] zh424 (some (.int (Int32.ofInt 1))) zh424 := by
  refine ⟨zu_X12_thrown, Nat.le_of_ble_eq_true rfl, Nat.le_of_ble_eq_true rfl, [zo, zo], _, _, rfl, ?_, ?_⟩
  · exact ⟨trivial, (Nat.le_of_ble_eq_true rfl), trivial⟩
  · exact zfin_i rfl rfl rfl
set_option maxRecDepth 100000 in
set_option maxHeartbeats 4000000 in
theorem zq427 (zn : Bool) (d : Nat) (a1 : Int32) (ha1l : 0 ≤ a1.toInt) (ha1h : a1.toInt ≤ 0) : z_sem zn (d + 1) 233 [.ref 79, .int a1] zh40 (some (.int (Int32.ofInt 0))) zh40 := by
  refine ⟨zu_X12_isClock, Nat.le_of_ble_eq_true rfl, Nat.le_of_ble_eq_true rfl, [zo, zo, zo, zo, zo, zo, zo, zt, zo], _, _, rfl, ?_, ?_⟩
  · exact ⟨trivial, zF_lt (q := 0) rfl (by decide +kernel) (by omega), trivial, trivial, (Nat.le_of_ble_eq_true rfl), trivial, ⟨(Nat.le_of_ble_eq_true rfl), (zvin (by decide +kernel))⟩, zT_le (p := 0) (by decide +kernel) rfl (by omega), trivial, trivial⟩
  · exact zfin_i rfl rfl rfl
set_option maxRecDepth 100000 in
set_option maxHeartbeats 4000000 in
theorem zq428 (zn : Bool) (d : Nat) (a1 : Int32) (ha1l : 0 ≤ a1.toInt) (ha1h : a1.toInt ≤ 0) (a2 : Int32) (ha2l : -2147483648 ≤ a2.toInt) (ha2h : a2.toInt ≤ 2147483647) : z_sem zn (d + 2) 196 [.ref 79, .int a1, .int a2] zh40 (some (.int (Int32.ofInt 0))) zh424 := by
  refine ⟨zu_X12_clock, Nat.le_of_ble_eq_true rfl, Nat.le_of_ble_eq_true rfl, [zo, zo, zo, zc (some (.int (Int32.ofInt 0))) zh40, zt, zo, zo, zo, zo, zo, zo, zo], _, _, rfl, ?_, ?_⟩
  · exact ⟨trivial, trivial, trivial, ⟨⟨(Nat.le_of_ble_eq_true rfl), (Nat.le_of_ble_eq_true rfl)⟩, zq427 zn (d + 0) a1 ha1l ha1h, (Nat.le_of_ble_eq_true rfl), (Nat.le_of_ble_eq_true rfl), (Nat.le_of_ble_eq_true rfl), (Nat.le_of_ble_eq_true rfl), (Nat.le_of_ble_eq_true rfl)⟩, zbt (by decide +kernel), trivial, ⟨(Nat.le_of_ble_eq_true rfl), rfl, rfl⟩, trivial, (Nat.le_of_ble_eq_true rfl), zbf (by decide +kernel), trivial, trivial, trivial⟩
  · exact zfin_i rfl rfl rfl
set_option maxRecDepth 100000 in
set_option maxHeartbeats 4000000 in
theorem zq429 (zn : Bool) (d : Nat) (a1 : Int32) (ha1l : 1 ≤ a1.toInt) (ha1h : a1.toInt ≤ 2147483647) : z_sem zn (d + 1) 233 [.ref 79, .int a1] zh40 (some (.int (Int32.ofInt 0))) zh40 := by
  refine ⟨zu_X12_isClock, Nat.le_of_ble_eq_true rfl, Nat.le_of_ble_eq_true rfl, [zo, zo, zo, zo, zo, zo, zo, zt, zo], _, _, rfl, ?_, ?_⟩
  · exact ⟨trivial, zF_lt (q := 0) rfl (by decide +kernel) (by omega), trivial, trivial, (Nat.le_of_ble_eq_true rfl), trivial, ⟨(Nat.le_of_ble_eq_true rfl), (zvin (by decide +kernel))⟩, zT_le (p := 0) (by decide +kernel) rfl (by omega), trivial, trivial⟩
  · exact zfin_i rfl rfl rfl
set_option maxRecDepth 100000 in
set_option maxHeartbeats 4000000 in
theorem zq430 (zn : Bool) (d : Nat) (a1 : Int32) (ha1l : 1 ≤ a1.toInt) (ha1h : a1.toInt ≤ 2147483647) (a2 : Int32) (ha2l : -2147483648 ≤ a2.toInt) (ha2h : a2.toInt ≤ 2147483647) : z_sem zn (d + 2) 196 [.ref 79, .int a1, .int a2] zh40 (some (.int (Int32.ofInt 0))) zh424 := by
  refine ⟨zu_X12_clock, Nat.le_of_ble_eq_true rfl, Nat.le_of_ble_eq_true rfl, [zo, zo, zo, zc (some (.int (Int32.ofInt 0))) zh40, zt, zo, zo, zo, zo, zo, zo, zo], _, _, rfl, ?_, ?_⟩
  · exact ⟨trivial, trivial, trivial, ⟨⟨(Nat.le_of_ble_eq_true rfl), (Nat.le_of_ble_eq_true rfl)⟩, zq429 zn (d + 0) a1 ha1l ha1h, (Nat.le_of_ble_eq_true rfl), (Nat.le_of_ble_eq_true rfl), (Nat.le_of_ble_eq_true rfl), (Nat.le_of_ble_eq_true rfl), (Nat.le_of_ble_eq_true rfl)⟩, zbt (by decide +kernel), trivial, ⟨(Nat.le_of_ble_eq_true rfl), rfl, rfl⟩, trivial, (Nat.le_of_ble_eq_true rfl), zbf (by decide +kernel), trivial, trivial, trivial⟩
  · exact zfin_i rfl rfl rfl
set_option maxRecDepth 100000 in
set_option maxHeartbeats 4000000 in
theorem zkc_0 (zn : Bool) (d : Nat) (xs : Nat → Int32) (ha1l : -2147483648 ≤ (xs (Int32.ofInt 0 + Int32.ofInt 1).toNatClampNeg).toInt) (ha1h : (xs (Int32.ofInt 0 + Int32.ofInt 1).toNatClampNeg).toInt ≤ -1) (ha2l : -2147483648 ≤ (xs (Int32.ofInt 0 + Int32.ofInt 2).toNatClampNeg).toInt) (ha2h : (xs (Int32.ofInt 0 + Int32.ofInt 2).toNatClampNeg).toInt ≤ 2147483647) : z_reach (z_sem zn (d + 10)) (some (6, xs), zn) (200, 40000) 1 (397, [some (.ref (z_RO + 300)), some (.ref 0), some (.ref 79), some (.ref 106), some (.int (Int32.ofInt 0)), none, none], [.int (Int32.ofInt 1)], zh40) (1722, [some (.ref (z_RO + 300)), some (.ref 0), some (.ref 79), some (.ref 106), some (.int ((Int32.ofInt 0) + Int32.ofInt 6)), some (.int (Int32.ofInt 1)), some (.int (Int32.ofInt 0))], [.int (Int32.ofInt 1)], zh424) := by
  refine ⟨[zo, zo, zo, zo, zo, zo, zo, zo, zo, zo, zo, zo, zc (some (.int (Int32.ofInt 0))) zh424, zo, zo, zc (some (.int (Int32.ofInt 1))) zh424, zo, zt, zo, zt, zo, zo, zo, zo, zo, zo, zo, zo, zt, zo], _, rfl, ?_⟩
  exact ⟨trivial, trivial, trivial, trivial, trivial, trivial, z6i1, trivial, trivial, trivial, trivial, z6i2, ⟨⟨(Nat.le_of_ble_eq_true rfl), (Nat.le_of_ble_eq_true rfl)⟩, zq425 zn (d + 8) (xs (Int32.ofInt 0 + Int32.ofInt 1).toNatClampNeg) ha1l ha1h (xs (Int32.ofInt 0 + Int32.ofInt 2).toNatClampNeg) ha2l ha2h, (Nat.le_of_ble_eq_true rfl), (Nat.le_of_ble_eq_true rfl), (Nat.le_of_ble_eq_true rfl), (Nat.le_of_ble_eq_true rfl), (Nat.le_of_ble_eq_true rfl)⟩, trivial, trivial, ⟨⟨(Nat.le_of_ble_eq_true rfl), (Nat.le_of_ble_eq_true rfl)⟩, zq426 zn (d + 9), (Nat.le_of_ble_eq_true rfl), (Nat.le_of_ble_eq_true rfl), (Nat.le_of_ble_eq_true rfl), (Nat.le_of_ble_eq_true rfl), (Nat.le_of_ble_eq_true rfl)⟩, trivial, zbt (by decide +kernel), trivial, zbt (by decide +kernel), trivial, trivial, trivial, trivial, trivial, trivial, trivial, trivial, zbt z6e, trivial, trivial⟩
set_option maxRecDepth 100000 in
set_option maxHeartbeats 4000000 in
theorem zkc_1 (zn : Bool) (d : Nat) (xs : Nat → Int32) (ha1l : 0 ≤ (xs (Int32.ofInt 0 + Int32.ofInt 1).toNatClampNeg).toInt) (ha1h : (xs (Int32.ofInt 0 + Int32.ofInt 1).toNatClampNeg).toInt ≤ 0) (ha2l : -2147483648 ≤ (xs (Int32.ofInt 0 + Int32.ofInt 2).toNatClampNeg).toInt) (ha2h : (xs (Int32.ofInt 0 + Int32.ofInt 2).toNatClampNeg).toInt ≤ 2147483647) : z_reach (z_sem zn (d + 10)) (some (6, xs), zn) (200, 40000) 1 (397, [some (.ref (z_RO + 300)), some (.ref 0), some (.ref 79), some (.ref 106), some (.int (Int32.ofInt 0)), none, none], [.int (Int32.ofInt 1)], zh40) (1722, [some (.ref (z_RO + 300)), some (.ref 0), some (.ref 79), some (.ref 106), some (.int ((Int32.ofInt 0) + Int32.ofInt 6)), some (.int (Int32.ofInt 1)), some (.int (Int32.ofInt 0))], [.int (Int32.ofInt 1)], zh424) := by
  refine ⟨[zo, zo, zo, zo, zo, zo, zo, zo, zo, zo, zo, zo, zc (some (.int (Int32.ofInt 0))) zh424, zo, zo, zc (some (.int (Int32.ofInt 1))) zh424, zo, zt, zo, zt, zo, zo, zo, zo, zo, zo, zo, zo, zt, zo], _, rfl, ?_⟩
  exact ⟨trivial, trivial, trivial, trivial, trivial, trivial, z6i1, trivial, trivial, trivial, trivial, z6i2, ⟨⟨(Nat.le_of_ble_eq_true rfl), (Nat.le_of_ble_eq_true rfl)⟩, zq428 zn (d + 8) (xs (Int32.ofInt 0 + Int32.ofInt 1).toNatClampNeg) ha1l ha1h (xs (Int32.ofInt 0 + Int32.ofInt 2).toNatClampNeg) ha2l ha2h, (Nat.le_of_ble_eq_true rfl), (Nat.le_of_ble_eq_true rfl), (Nat.le_of_ble_eq_true rfl), (Nat.le_of_ble_eq_true rfl), (Nat.le_of_ble_eq_true rfl)⟩, trivial, trivial, ⟨⟨(Nat.le_of_ble_eq_true rfl), (Nat.le_of_ble_eq_true rfl)⟩, zq426 zn (d + 9), (Nat.le_of_ble_eq_true rfl), (Nat.le_of_ble_eq_true rfl), (Nat.le_of_ble_eq_true rfl), (Nat.le_of_ble_eq_true rfl), (Nat.le_of_ble_eq_true rfl)⟩, trivial, zbt (by decide +kernel), trivial, zbt (by decide +kernel), trivial, trivial, trivial, trivial, trivial, trivial, trivial, trivial, zbt z6e, trivial, trivial⟩
set_option maxRecDepth 100000 in
set_option maxHeartbeats 4000000 in
theorem zkc_2 (zn : Bool) (d : Nat) (xs : Nat → Int32) (ha1l : 1 ≤ (xs (Int32.ofInt 0 + Int32.ofInt 1).toNatClampNeg).toInt) (ha1h : (xs (Int32.ofInt 0 + Int32.ofInt 1).toNatClampNeg).toInt ≤ 2147483647) (ha2l : -2147483648 ≤ (xs (Int32.ofInt 0 + Int32.ofInt 2).toNatClampNeg).toInt) (ha2h : (xs (Int32.ofInt 0 + Int32.ofInt 2).toNatClampNeg).toInt ≤ 2147483647) : z_reach (z_sem zn (d + 10)) (some (6, xs), zn) (200, 40000) 1 (397, [some (.ref (z_RO + 300)), some (.ref 0), some (.ref 79), some (.ref 106), some (.int (Int32.ofInt 0)), none, none], [.int (Int32.ofInt 1)], zh40) (1722, [some (.ref (z_RO + 300)), some (.ref 0), some (.ref 79), some (.ref 106), some (.int ((Int32.ofInt 0) + Int32.ofInt 6)), some (.int (Int32.ofInt 1)), some (.int (Int32.ofInt 0))], [.int (Int32.ofInt 1)], zh424) := by
  refine ⟨[zo, zo, zo, zo, zo, zo, zo, zo, zo, zo, zo, zo, zc (some (.int (Int32.ofInt 0))) zh424, zo, zo, zc (some (.int (Int32.ofInt 1))) zh424, zo, zt, zo, zt, zo, zo, zo, zo, zo, zo, zo, zo, zt, zo], _, rfl, ?_⟩
  exact ⟨trivial, trivial, trivial, trivial, trivial, trivial, z6i1, trivial, trivial, trivial, trivial, z6i2, ⟨⟨(Nat.le_of_ble_eq_true rfl), (Nat.le_of_ble_eq_true rfl)⟩, zq430 zn (d + 8) (xs (Int32.ofInt 0 + Int32.ofInt 1).toNatClampNeg) ha1l ha1h (xs (Int32.ofInt 0 + Int32.ofInt 2).toNatClampNeg) ha2l ha2h, (Nat.le_of_ble_eq_true rfl), (Nat.le_of_ble_eq_true rfl), (Nat.le_of_ble_eq_true rfl), (Nat.le_of_ble_eq_true rfl), (Nat.le_of_ble_eq_true rfl)⟩, trivial, trivial, ⟨⟨(Nat.le_of_ble_eq_true rfl), (Nat.le_of_ble_eq_true rfl)⟩, zq426 zn (d + 9), (Nat.le_of_ble_eq_true rfl), (Nat.le_of_ble_eq_true rfl), (Nat.le_of_ble_eq_true rfl), (Nat.le_of_ble_eq_true rfl), (Nat.le_of_ble_eq_true rfl)⟩, trivial, zbt (by decide +kernel), trivial, zbt (by decide +kernel), trivial, trivial, trivial, trivial, trivial, trivial, trivial, trivial, zbt z6e, trivial, trivial⟩
set_option maxHeartbeats 4000000 in
theorem zop_clock (zn : Bool) (d : Nat) (xs : Nat → Int32) : ∃ (lv : List (Option Value)) (h : z_H), z_reach (z_sem zn (d + 10)) (some (6, xs), zn) (200, 40000) 1 (397, [some (.ref (z_RO + 300)), some (.ref 0), some (.ref 79), some (.ref 106), some (.int (Int32.ofInt 0)), none, none], [.int (Int32.ofInt 1)], zh40) (1722, lv, [.int (Int32.ofInt 1)], h) ∧ h.1 ≤ 200 ∧ h.2.1 ≤ 40000 := by
  have a1A := Int32.le_toInt (xs (Int32.ofInt 0 + Int32.ofInt 1).toNatClampNeg)
  have a1B := Int32.toInt_lt (xs (Int32.ofInt 0 + Int32.ofInt 1).toNatClampNeg)
  have a2A := Int32.le_toInt (xs (Int32.ofInt 0 + Int32.ofInt 2).toNatClampNeg)
  have a2B := Int32.toInt_lt (xs (Int32.ofInt 0 + Int32.ofInt 2).toNatClampNeg)
  by_cases q_a1_0 : (xs (Int32.ofInt 0 + Int32.ofInt 1).toNatClampNeg).toInt ≤ -1
  · exact ⟨_, _, zkc_0 zn d xs (by omega) (by omega) (by omega) (by omega), Nat.le_of_ble_eq_true rfl, Nat.le_of_ble_eq_true rfl⟩
  by_cases q_a1_1 : (xs (Int32.ofInt 0 + Int32.ofInt 1).toNatClampNeg).toInt ≤ 0
  · exact ⟨_, _, zkc_1 zn d xs (by omega) (by omega) (by omega) (by omega), Nat.le_of_ble_eq_true rfl, Nat.le_of_ble_eq_true rfl⟩
  exact ⟨_, _, zkc_2 zn d xs (by omega) (by omega) (by omega) (by omega), Nat.le_of_ble_eq_true rfl, Nat.le_of_ble_eq_true rfl⟩
