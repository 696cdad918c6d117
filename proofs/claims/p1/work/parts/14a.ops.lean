/-! methods of fresh objects, by program (wip/tools/ops.py) -/
set_option maxRecDepth 100000 in
set_option maxHeartbeats 4000000 in
theorem zq41 (zn : Bool) (d : Nat) (a1 : Int32) (ha1l : 1 ≤ a1.toInt) (ha1h : a1.toInt ≤ 2147483647) : z_sem zn (d + 1) 138 [.ref 0, .int a1] zh40 (some (.int (Int32.ofInt 0))) zh40 := by
  refine ⟨zu_X11_end, Nat.le_of_ble_eq_true rfl, Nat.le_of_ble_eq_true rfl, [zo, zo, zo, zo, zo, zo, zo, zo], _, _, rfl, ?_, ?_⟩
  · exact ⟨trivial, zF_lt (q := 0) rfl (by decide +kernel) (by omega), trivial, trivial, (Nat.le_of_ble_eq_true rfl), (Nat.le_of_ble_eq_true rfl), zF_le (q := 0) rfl (by decide +kernel) (by omega), trivial, trivial⟩
  · exact zfin_i rfl rfl rfl
def zh42 : z_H := (107, 35862, va_up (zh40.2.2) 79 (.inr (12, [.int (Int32.ofInt 0), .ref 80, .ref 81, .ref 82, .ref 83, .ref 80, .int 0, .int 0, .int 0, .int 0, .int 0, .int 0, .int 0, .int 0, .int 0, .ref (z_RO + 5), .ref (z_RO + 3), .int 0, .ref 84, .ref 85, .ref 86, .ref 87, .ref 88, .ref 89, .ref 90, .ref 91, .int 0, .int 0, .int 0, .int 0, .int 0, .ref 92, .ref 93, .int (Int32.ofInt (-1)), .int 0, .ref 94, .ref 95, .int 0, .int 0, .int 0, .int 0, .int 0, .int 0, .ref 96, .ref 97, .ref 98, .ref 99, .ref 100, .int 0, .int 0, .long 0, .ref 101, .ref 102, .int 0, .ref 103, .ref 104, .ref 105, .int 0])))
set_option maxRecDepth 100000 in
set_option maxHeartbeats 4000000 in
theorem zq43 (zn : Bool) (d : Nat) (a1 : Int32) (ha1l : 1 ≤ a1.toInt) (ha1h : a1.toInt ≤ 2147483647) : z_sem zn (d + 1) 208 [.ref 79, .int a1] zh40 (some (.int (Int32.ofInt 0))) zh42 := by
  refine ⟨zu_X12_end, Nat.le_of_ble_eq_true rfl, Nat.le_of_ble_eq_true rfl, [zo, zo, zo, zo, zo, zo, zo, zo, zo, zo], _, _, rfl, ?_, ?_⟩
  · exact ⟨trivial, trivial, ⟨(Nat.le_of_ble_eq_true rfl), rfl, rfl⟩, trivial, zF_lt (q := 0) rfl (by decide +kernel) (by omega), trivial, trivial, (Nat.le_of_ble_eq_true rfl), zF_le (q := 0) rfl (by decide +kernel) (by omega), trivial, trivial⟩
  · exact zfin_i rfl rfl rfl
def zh44 (a1 : Int32) : z_H := (107, 35862, va_up (zh40.2.2) 1 (.inr (8, [.ref 2, .int a1, .int (Int32.ofInt 0), .int (Int32.ofInt 0)])))
set_option maxRecDepth 100000 in
set_option maxHeartbeats 4000000 in
theorem zq45 (zn : Bool) (d : Nat) (a1 : Int32) (ha1l : 0 ≤ a1.toInt) (ha1h : a1.toInt ≤ 0) : z_sem zn (d + 1) 138 [.ref 0, .int a1] zh40 (some (.int (Int32.ofInt 1))) (zh44 a1) := by
  refine ⟨zu_X11_end, Nat.le_of_ble_eq_true rfl, Nat.le_of_ble_eq_true rfl, [zo, zo, zo, zo, zo, zo, zt, zo, zo, zo, zo, zo], _, _, rfl, ?_, ?_⟩
  · exact ⟨trivial, zF_lt (q := 0) rfl (by decide +kernel) (by omega), trivial, trivial, (Nat.le_of_ble_eq_true rfl), (Nat.le_of_ble_eq_true rfl), zT_le (q := 0) rfl (by decide +kernel) (by omega), trivial, (Nat.le_of_ble_eq_true rfl), trivial, ⟨(Nat.le_of_ble_eq_true rfl), rfl, rfl⟩, trivial, trivial⟩
  · exact zfin_i rfl rfl rfl
def zh46 (a1 : Int32) : z_H := (107, 35862, va_up (va_up ((zh44 a1).2.2) 79 (.inr (12, [.int (Int32.ofInt 0), .ref 80, .ref 81, .ref 82, .ref 83, .ref 80, .int 0, .int 0, .int 0, .int 0, .int 0, .int 0, .int 0, .int 0, .int 0, .ref (z_RO + 5), .ref (z_RO + 3), .int 0, .ref 84, .ref 85, .ref 86, .ref 87, .ref 88, .ref 89, .ref 90, .ref 91, .int 0, .int 0, .int 0, .int 0, .int 0, .ref 92, .ref 93, .int (Int32.ofInt (-1)), .int 0, .ref 94, .ref 95, .int 0, .int 0, .int 0, .int 0, .int 0, .int 0, .ref 96, .ref 97, .ref 98, .ref 99, .ref 100, .int 0, .int 0, .long 0, .ref 101, .ref 102, .int 0, .ref 103, .ref 104, .ref 105, .int 0]))) 79 (.inr (12, [.int (Int32.ofInt 0), .ref 80, .ref 81, .ref 82, .ref 83, .ref 80, .int a1, .int 0, .int 0, .int 0, .int 0, .int 0, .int 0, .int 0, .int 0, .ref (z_RO + 5), .ref (z_RO + 3), .int 0, .ref 84, .ref 85, .ref 86, .ref 87, .ref 88, .ref 89, .ref 90, .ref 91, .int 0, .int 0, .int 0, .int 0, .int 0, .ref 92, .ref 93, .int (Int32.ofInt (-1)), .int 0, .ref 94, .ref 95, .int 0, .int 0, .int 0, .int 0, .int 0, .int 0, .ref 96, .ref 97, .ref 98, .ref 99, .ref 100, .int 0, .int 0, .long 0, .ref 101, .ref 102, .int 0, .ref 103, .ref 104, .ref 105, .int 0])))
set_option maxRecDepth 100000 in
set_option maxHeartbeats 4000000 in
theorem zq47 (zn : Bool) (d : Nat) (a1 : Int32) (ha1l : 0 ≤ a1.toInt) (ha1h : a1.toInt ≤ 0) : z_sem zn (d + 1) 208 [.ref 79, .int a1] (zh44 a1) (some (.int (Int32.ofInt 1))) (zh46 a1) := by
  refine ⟨zu_X12_end, Nat.le_of_ble_eq_true rfl, Nat.le_of_ble_eq_true rfl, [zo, zo, zo, zo, zo, zo, zo, zo, zt, zo, zo, zo, zo], _, _, rfl, ?_, ?_⟩
  · exact ⟨trivial, trivial, ⟨(Nat.le_of_ble_eq_true rfl), rfl, rfl⟩, trivial, zF_lt (q := 0) rfl (by decide +kernel) (by omega), trivial, trivial, (Nat.le_of_ble_eq_true rfl), zT_le (q := 0) rfl (by decide +kernel) (by omega), trivial, trivial, ⟨(Nat.le_of_ble_eq_true rfl), rfl, rfl⟩, trivial, trivial⟩
  · exact zfin_i rfl rfl rfl
set_option maxRecDepth 100000 in
set_option maxHeartbeats 4000000 in
theorem zq48 (zn : Bool) (d : Nat) (a1 : Int32) (ha1l : -2147483648 ≤ a1.toInt) (ha1h : a1.toInt ≤ -1) : z_sem zn (d + 1) 138 [.ref 0, .int a1] zh40 (some (.int (Int32.ofInt 0))) zh40 := by
  refine ⟨zu_X11_end, Nat.le_of_ble_eq_true rfl, Nat.le_of_ble_eq_true rfl, [zo, zt, zo], _, _, rfl, ?_, ?_⟩
  · exact ⟨trivial, zT_lt (q := 0) rfl (by decide +kernel) (by omega), trivial, trivial⟩
  · exact zfin_i rfl rfl rfl
set_option maxRecDepth 100000 in
set_option maxHeartbeats 4000000 in
theorem zq49 (zn : Bool) (d : Nat) (a1 : Int32) (ha1l : -2147483648 ≤ a1.toInt) (ha1h : a1.toInt ≤ -1) : z_sem zn (d + 1) 208 [.ref 79, .int a1] zh40 (some (.int (Int32.ofInt 0))) zh42 := by
  refine ⟨zu_X12_end, Nat.le_of_ble_eq_true rfl, Nat.le_of_ble_eq_true rfl, [zo, zo, zo, zo, zt, zo], _, _, rfl, ?_, ?_⟩
  · exact ⟨trivial, trivial, ⟨(Nat.le_of_ble_eq_true rfl), rfl, rfl⟩, trivial, zT_lt (q := 0) rfl (by decide +kernel) (by omega), trivial, trivial⟩
  · exact zfin_i rfl rfl rfl
set_option maxRecDepth 100000 in
set_option maxHeartbeats 4000000 in
theorem zq50 (zn : Bool) (d : Nat) (a1 : Int32) (ha1l : 2 ≤ a1.toInt) (ha1h : a1.toInt ≤ 2147483647) : z_sem zn (d + 1) 140 [.ref 0, .int a1] zh40 (some (.int ((Int8.ofInt (-2)).toInt32))) zh40 := by
  refine ⟨zu_X11_fault, Nat.le_of_ble_eq_true rfl, Nat.le_of_ble_eq_true rfl, [zo, zo, zo], _, _, rfl, ?_, ?_⟩
  · exact ⟨trivial, (by show (if (0 : Int) = a1.toInt then _ else if (1 : Int) = a1.toInt then _ else _) = _; rw [if_neg (by omega), if_neg (by omega)] <;> rfl), trivial, trivial⟩
  · exact zfin_i rfl rfl rfl
set_option maxRecDepth 100000 in
set_option maxHeartbeats 4000000 in
theorem zq51 (zn : Bool) (d : Nat) (a1 : Int32) (ha1l : 2 ≤ a1.toInt) (ha1h : a1.toInt ≤ 2147483647) : z_sem zn (d + 1) 236 [.long (a1.toInt64), .long (Int64.ofNat 0), .long (Int64.ofNat 1)] zh42 (some (.int (Int32.ofInt 0))) zh42 := by
  refine ⟨zu_X12_isIn, Nat.le_of_ble_eq_true rfl, Nat.le_of_ble_eq_true rfl, [zo, zo, zo, zo, zo, zo, zo, zt, zo], _, _, rfl, ?_, ?_⟩
  · exact ⟨trivial, trivial, trivial, zbf (by rw [zc_gt (p := (a1).toInt) (q := 0) (by simp only [zi_64]) (by decide +kernel) (by omega)]; decide), trivial, trivial, trivial, zbt (by rw [zc_gt (p := (a1).toInt) (q := 1) (by simp only [zi_64]) (by decide +kernel) (by omega)]; decide), trivial, trivial⟩
  · exact zfin_i rfl rfl rfl
set_option maxRecDepth 100000 in
set_option maxHeartbeats 4000000 in
theorem zq52 (zn : Bool) (d : Nat) (a1 : Int32) (ha1l : 2 ≤ a1.toInt) (ha1h : a1.toInt ≤ 2147483647) : z_sem zn (d + 2) 211 [.ref 79, .int a1] zh40 (some (.int ((Int8.ofInt (-2)).toInt32))) zh42 := by
  refine ⟨zu_X12_fault, Nat.le_of_ble_eq_true rfl, Nat.le_of_ble_eq_true rfl, [zo, zo, zo, zo, zo, zo, zo, zc (some (.int (Int32.ofInt 0))) zh42, zo, zo], _, _, rfl, ?_, ?_⟩
  · exact ⟨trivial, trivial, ⟨(Nat.le_of_ble_eq_true rfl), rfl, rfl⟩, trivial, trivial, trivial, trivial, ⟨(Nat.le_of_ble_eq_true rfl), zq51 zn (d + 0) a1 ha1l ha1h, (Nat.le_of_ble_eq_true rfl), (Nat.le_of_ble_eq_true rfl), (Nat.le_of_ble_eq_true rfl), (Nat.le_of_ble_eq_true rfl), (Nat.le_of_ble_eq_true rfl)⟩, zbf (by decide +kernel), trivial, trivial⟩
  · exact zfin_i rfl rfl rfl
def zh53 : z_H := (107, 35862, va_up (va_up (va_up (zh40.2.2) 10 (.inr (10, [.ref 1, .ref 11, .int (Int32.ofInt 0), .int (Int32.ofInt 0)]))) 10 (.inr (10, [.ref 1, .ref 11, .int (Int32.ofInt 0), .int (Int32.ofInt 0)]))) 1 (.inr (8, [.ref 2, .int (Int32.ofInt 0), .int (Int32.ofInt 0), .int (Int32.ofInt 0)])))
set_option maxRecDepth 100000 in
set_option maxHeartbeats 4000000 in
theorem zq54 (zn : Bool) (d : Nat) : z_sem zn (d + 1) 106 [.ref 1] zh53 (some (.int (Int32.ofInt (-1)))) zh53 := by
  refine ⟨zu_X8_here, Nat.le_of_ble_eq_true rfl, Nat.le_of_ble_eq_true rfl, [zo, zo, zo, zo, zt, zo], _, _, rfl, ?_, ?_⟩
  · exact ⟨trivial, (Nat.le_of_ble_eq_true rfl), trivial, (Nat.le_of_ble_eq_true rfl), zbt (by decide +kernel), trivial, trivial⟩
  · exact zfin_i rfl rfl rfl
set_option maxRecDepth 100000 in
set_option maxHeartbeats 4000000 in
theorem zq55 (zn : Bool) (d : Nat) : z_sem zn (d + 2) 109 [.ref 1] zh53 (some (.int (Int32.ofInt (-1)))) zh53 := by
  refine ⟨zu_X8_next, Nat.le_of_ble_eq_true rfl, Nat.le_of_ble_eq_true rfl, [zo, zo, zo, zo, zt, zo, zc (some (.int (Int32.ofInt (-1)))) zh53], _, _, rfl, ?_, ?_⟩
  · exact ⟨trivial, (Nat.le_of_ble_eq_true rfl), trivial, (Nat.le_of_ble_eq_true rfl), zbt (by decide +kernel), trivial, ⟨⟨(Nat.le_of_ble_eq_true rfl), (Nat.le_of_ble_eq_true rfl)⟩, zq54 zn (d + 0), (Nat.le_of_ble_eq_true rfl), (Nat.le_of_ble_eq_true rfl), (Nat.le_of_ble_eq_true rfl), (Nat.le_of_ble_eq_true rfl), (Nat.le_of_ble_eq_true rfl)⟩, trivial⟩
  · exact zfin_i rfl rfl rfl
set_option maxRecDepth 100000 in
set_option maxHeartbeats 4000000 in
theorem zq56 (zn : Bool) (d : Nat) : z_sem zn (d + 3) 111 [.ref 1, .int ((Int8.ofInt 121).toInt32)] zh53 (some (.int (Int32.ofInt 0))) zh53 := by
  refine ⟨zu_X8_takes, Nat.le_of_ble_eq_true rfl, Nat.le_of_ble_eq_true rfl, [zo, zc (some (.int (Int32.ofInt (-1)))) zh53, zo, zo, zo], _, _, rfl, ?_, ?_⟩
  · exact ⟨trivial, ⟨⟨(Nat.le_of_ble_eq_true rfl), (Nat.le_of_ble_eq_true rfl)⟩, zq55 zn (d + 0), (Nat.le_of_ble_eq_true rfl), (Nat.le_of_ble_eq_true rfl), (Nat.le_of_ble_eq_true rfl), (Nat.le_of_ble_eq_true rfl), (Nat.le_of_ble_eq_true rfl)⟩, trivial, zbf (by decide +kernel), trivial, trivial⟩
  · exact zfin_i rfl rfl rfl
set_option maxRecDepth 100000 in
set_option maxHeartbeats 4000000 in
theorem zq57 (zn : Bool) (d : Nat) : z_sem zn (d + 4) 116 [.ref 10] zh53 (some (.int (Int32.ofInt 0))) zh53 := by
  refine ⟨zu_X10_clause, Nat.le_of_ble_eq_true rfl, Nat.le_of_ble_eq_true rfl, [zo, zo, zo, zc (some (.int (Int32.ofInt 0))) zh53, zt, zo], _, _, rfl, ?_, ?_⟩
  · exact ⟨trivial, (Nat.le_of_ble_eq_true rfl), trivial, ⟨⟨(Nat.le_of_ble_eq_true rfl), (Nat.le_of_ble_eq_true rfl)⟩, zq56 zn (d + 0), (Nat.le_of_ble_eq_true rfl), (Nat.le_of_ble_eq_true rfl), (Nat.le_of_ble_eq_true rfl), (Nat.le_of_ble_eq_true rfl), (Nat.le_of_ble_eq_true rfl)⟩, zbt (by decide +kernel), trivial, trivial⟩
  · exact zfin_i rfl rfl rfl
set_option maxRecDepth 100000 in
set_option maxHeartbeats 4000000 in
theorem zq58 (zn : Bool) (d : Nat) : z_sem zn (d + 5) 121 [.ref 10] zh40 (some (.int (Int32.ofInt 0))) zh53 := by
  refine ⟨zu_X10_read, Nat.le_of_ble_eq_true rfl, Nat.le_of_ble_eq_true rfl, [zo, zo, zo, zo, zo, zo, zo, zo, zo, zo, zo, zo, zo, zo, zo, zo, zc (some (.int (Int32.ofInt 0))) zh53, zo, zo, zo, zo], _, _, rfl, ?_, ?_⟩
  · exact ⟨trivial, trivial, ⟨(Nat.le_of_ble_eq_true rfl), rfl, rfl⟩, trivial, trivial, ⟨(Nat.le_of_ble_eq_true rfl), rfl, rfl⟩, trivial, (Nat.le_of_ble_eq_true rfl), trivial, ⟨(Nat.le_of_ble_eq_true rfl), rfl, rfl⟩, trivial, trivial, trivial, trivial, zbf (by decide +kernel), trivial, ⟨⟨(Nat.le_of_ble_eq_true rfl), (Nat.le_of_ble_eq_true rfl)⟩, zq57 zn (d + 0), (Nat.le_of_ble_eq_true rfl), (Nat.le_of_ble_eq_true rfl), (Nat.le_of_ble_eq_true rfl), (Nat.le_of_ble_eq_true rfl), (Nat.le_of_ble_eq_true rfl)⟩, zbf (by decide +kernel), trivial, (Nat.le_of_ble_eq_true rfl), (Nat.le_of_ble_eq_true rfl), trivial⟩
  · exact zfin_i rfl rfl rfl
set_option maxRecDepth 100000 in
set_option maxHeartbeats 4000000 in
theorem zq59 (zn : Bool) (d : Nat) (a1 : Int32) (ha1l : 1 ≤ a1.toInt) (ha1h : a1.toInt ≤ 1) : z_sem zn (d + 6) 140 [.ref 0, .int a1] zh40 (some (.int (Int32.ofInt 0))) zh53 := by
  refine ⟨zu_X11_fault, Nat.le_of_ble_eq_true rfl, Nat.le_of_ble_eq_true rfl, [zo, (true, 1, none, zh0, none), zo, zo, zc (some (.int (Int32.ofInt 0))) zh53], _, _, rfl, ?_, ?_⟩
  · exact ⟨trivial, (by show (if (0 : Int) = a1.toInt then _ else if (1 : Int) = a1.toInt then _ else _) = _; rw [if_neg (by omega), if_pos (by omega)] <;> rfl), trivial, (Nat.le_of_ble_eq_true rfl), ⟨⟨(Nat.le_of_ble_eq_true rfl), (Nat.le_of_ble_eq_true rfl)⟩, zq58 zn (d + 0), (Nat.le_of_ble_eq_true rfl), (Nat.le_of_ble_eq_true rfl), (Nat.le_of_ble_eq_true rfl), (Nat.le_of_ble_eq_true rfl), (Nat.le_of_ble_eq_true rfl)⟩, trivial⟩
  · exact zfin_i rfl rfl rfl
def zh60 : z_H := (107, 35862, va_up (zh53.2.2) 79 (.inr (12, [.int (Int32.ofInt 0), .ref 80, .ref 81, .ref 82, .ref 83, .ref 80, .int 0, .int 0, .int 0, .int 0, .int 0, .int 0, .int 0, .int 0, .int 0, .ref (z_RO + 5), .ref (z_RO + 3), .int 0, .ref 84, .ref 85, .ref 86, .ref 87, .ref 88, .ref 89, .ref 90, .ref 91, .int 0, .int 0, .int 0, .int 0, .int 0, .ref 92, .ref 93, .int (Int32.ofInt (-1)), .int 0, .ref 94, .ref 95, .int 0, .int 0, .int 0, .int 0, .int 0, .int 0, .ref 96, .ref 97, .ref 98, .ref 99, .ref 100, .int 0, .int 0, .long 0, .ref 101, .ref 102, .int 0, .ref 103, .ref 104, .ref 105, .int 0])))
set_option maxRecDepth 100000 in
set_option maxHeartbeats 4000000 in
theorem zq61 (zn : Bool) (d : Nat) (a1 : Int32) (ha1l : 1 ≤ a1.toInt) (ha1h : a1.toInt ≤ 1) : z_sem zn (d + 1) 236 [.long (a1.toInt64), .long (Int64.ofNat 0), .long (Int64.ofNat 1)] zh60 (some (.int (Int32.ofInt 1))) zh60 := by
  refine ⟨zu_X12_isIn, Nat.le_of_ble_eq_true rfl, Nat.le_of_ble_eq_true rfl, [zo, zo, zo, zo, zo, zo, zo, zo, zo, zo], _, _, rfl, ?_, ?_⟩
  · exact ⟨trivial, trivial, trivial, zbf (by rw [zc_gt (p := (a1).toInt) (q := 0) (by simp only [zi_64]) (by decide +kernel) (by omega)]; decide), trivial, trivial, trivial, zbf (by rw [zc_eq (p := (a1).toInt) (q := 1) (by simp only [zi_64]) (by decide +kernel) (by omega)]; decide), trivial, trivial, trivial⟩
  · exact zfin_i rfl rfl rfl
def zh62 : z_H := (107, 35862, va_up (va_up (va_up (va_up (va_up (zh60.2.2) 79 (.inr (12, [.int (Int32.ofInt 0), .ref 80, .ref 81, .ref 82, .ref 83, .ref 80, .int 0, .int 0, .int 0, .int 0, .int 0, .int 0, .int 0, .int 0, .int 0, .ref (z_RO + 5), .ref (z_RO + 3), .int 0, .ref 84, .ref 85, .ref 86, .ref 87, .ref 88, .ref 89, .ref 90, .ref 91, .int 0, .int 0, .int 0, .int 0, .int 0, .ref 92, .ref 93, .int (Int32.ofInt (-1)), .int 0, .ref 94, .ref 95, .int 0, .int 0, .int 0, .int 0, .int 0, .int 0, .ref 96, .ref 97, .ref 98, .ref 99, .ref 100, .int 0, .int 0, .long 0, .ref 101, .ref 102, .int 0, .ref 103, .ref 104, .ref 105, .int 0]))) 79 (.inr (12, [.int (Int32.ofInt 0), .ref 80, .ref 81, .ref 82, .ref 83, .ref 80, .int 0, .int 0, .int (Int32.ofInt 0), .int 0, .int 0, .int 0, .int 0, .int 0, .int 0, .ref (z_RO + 5), .ref (z_RO + 3), .int 0, .ref 84, .ref 85, .ref 86, .ref 87, .ref 88, .ref 89, .ref 90, .ref 91, .int 0, .int 0, .int 0, .int 0, .int 0, .ref 92, .ref 93, .int (Int32.ofInt (-1)), .int 0, .ref 94, .ref 95, .int 0, .int 0, .int 0, .int 0, .int 0, .int 0, .ref 96, .ref 97, .ref 98, .ref 99, .ref 100, .int 0, .int 0, .long 0, .ref 101, .ref 102, .int 0, .ref 103, .ref 104, .ref 105, .int 0]))) 79 (.inr (12, [.int (Int32.ofInt 0), .ref 80, .ref 81, .ref 82, .ref 83, .ref 80, .int 0, .int 0, .int (Int32.ofInt 0), .int 0, .int 0, .int 0, .int 0, .int 0, .int 0, .ref (z_RO + 5), .ref (z_RO + 3), .int 0, .ref 84, .ref 85, .ref 86, .ref 87, .ref 88, .ref 89, .ref 90, .ref 91, .int 0, .int 0, .int 0, .int 0, .int 0, .ref 92, .ref 93, .int (Int32.ofInt (-1)), .int 0, .ref 94, .ref 95, .int 0, .int 0, .int 0, .int 0, .int 0, .int 0, .ref 96, .ref 97, .ref 98, .ref 99, .ref 100, .int 0, .int 0, .long 0, .ref 101, .ref 102, .int 0, .ref 103, .ref 104, .ref 105, .int 0]))) 79 (.inr (12, [.int (Int32.ofInt 0), .ref 80, .ref 81, .ref 82, .ref 83, .ref 80, .int 0, .int 0, .int (Int32.ofInt 0), .int 0, .int (Int32.ofInt 0), .int 0, .int 0, .int 0, .int 0, .ref (z_RO + 5), .ref (z_RO + 3), .int 0, .ref 84, .ref 85, .ref 86, .ref 87, .ref 88, .ref 89, .ref 90, .ref 91, .int 0, .int 0, .int 0, .int 0, .int 0, .ref 92, .ref 93, .int (Int32.ofInt (-1)), .int 0, .ref 94, .ref 95, .int 0, .int 0, .int 0, .int 0, .int 0, .int 0, .ref 96, .ref 97, .ref 98, .ref 99, .ref 100, .int 0, .int 0, .long 0, .ref 101, .ref 102, .int 0, .ref 103, .ref 104, .ref 105, .int 0]))) 79 (.inr (12, [.int (Int32.ofInt 0), .ref 80, .ref 81, .ref 82, .ref 83, .ref 80, .int 0, .int 0, .int (Int32.ofInt 0), .int 0, .int (Int32.ofInt 0), .int (Int32.ofInt (-1)), .int 0, .int 0, .int 0, .ref (z_RO + 5), .ref (z_RO + 3), .int 0, .ref 84, .ref 85, .ref 86, .ref 87, .ref 88, .ref 89, .ref 90, .ref 91, .int 0, .int 0, .int 0, .int 0, .int 0, .ref 92, .ref 93, .int (Int32.ofInt (-1)), .int 0, .ref 94, .ref 95, .int 0, .int 0, .int 0, .int 0, .int 0, .int 0, .ref 96, .ref 97, .ref 98, .ref 99, .ref 100, .int 0, .int 0, .long 0, .ref 101, .ref 102, .int 0, .ref 103, .ref 104, .ref 105, .int 0])))
set_option maxRecDepth 100000 in
set_option maxHeartbeats 4000000 in
theorem zq63 (zn : Bool) (d : Nat) : z_sem zn (d + 1) 280 [.ref 79, .ref 80, .int (Int32.ofInt 0), .int 0] zh60 none zh62 := by
  refine ⟨zu_X12_starts, Nat.le_of_ble_eq_true rfl, Nat.le_of_ble_eq_true rfl, [zo, zo, zo, zo, zo, zo, zo, zo, zo, zo, zo, zo, zo, zo, zo], _, _, rfl, ?_, ?_⟩
  · exact ⟨trivial, trivial, ⟨(Nat.le_of_ble_eq_true rfl), rfl, rfl⟩, trivial, trivial, ⟨(Nat.le_of_ble_eq_true rfl), rfl, rfl⟩, trivial, trivial, ⟨(Nat.le_of_ble_eq_true rfl), rfl, rfl⟩, trivial, trivial, ⟨(Nat.le_of_ble_eq_true rfl), rfl, rfl⟩, trivial, trivial, ⟨(Nat.le_of_ble_eq_true rfl), rfl, rfl⟩, trivial⟩
  · exact zfin_v rfl rfl
def zh64 : z_H := (107, 35862, va_up (va_up (va_up (va_up (zh62.2.2) 79 (.inr (12, [.int (Int32.ofInt 0), .ref 80, .ref 81, .ref 82, .ref 83, .ref 80, .int 0, .int 0, .int (Int32.ofInt 0), .int 0, .int (Int32.ofInt 0), .int (Int32.ofInt (-1)), .int 0, .int ((Int8.ofInt 121).toInt32), .int 0, .ref (z_RO + 5), .ref (z_RO + 3), .int 0, .ref 84, .ref 85, .ref 86, .ref 87, .ref 88, .ref 89, .ref 90, .ref 91, .int 0, .int 0, .int 0, .int 0, .int 0, .ref 92, .ref 93, .int (Int32.ofInt (-1)), .int 0, .ref 94, .ref 95, .int 0, .int 0, .int 0, .int 0, .int 0, .int 0, .ref 96, .ref 97, .ref 98, .ref 99, .ref 100, .int 0, .int 0, .long 0, .ref 101, .ref 102, .int 0, .ref 103, .ref 104, .ref 105, .int 0]))) 79 (.inr (12, [.int (Int32.ofInt 0), .ref 80, .ref 81, .ref 82, .ref 83, .ref 80, .int 0, .int 0, .int (Int32.ofInt 0), .int 0, .int (Int32.ofInt 0), .int (Int32.ofInt (-1)), .int (Int32.ofInt 0), .int ((Int8.ofInt 121).toInt32), .int 0, .ref (z_RO + 5), .ref (z_RO + 3), .int 0, .ref 84, .ref 85, .ref 86, .ref 87, .ref 88, .ref 89, .ref 90, .ref 91, .int 0, .int 0, .int 0, .int 0, .int 0, .ref 92, .ref 93, .int (Int32.ofInt (-1)), .int 0, .ref 94, .ref 95, .int 0, .int 0, .int 0, .int 0, .int 0, .int 0, .ref 96, .ref 97, .ref 98, .ref 99, .ref 100, .int 0, .int 0, .long 0, .ref 101, .ref 102, .int 0, .ref 103, .ref 104, .ref 105, .int 0]))) 79 (.inr (12, [.int (Int32.ofInt 0), .ref 80, .ref 81, .ref 82, .ref 83, .ref 80, .int 0, .int 0, .int (Int32.ofInt 0), .int 0, .int (Int32.ofInt 0), .int (Int32.ofInt (-1)), .int (Int32.ofInt 0), .int ((Int8.ofInt 121).toInt32), .int 0, .ref (z_RO + 5), .ref (z_RO + 3), .int (Int32.ofInt 0), .ref 84, .ref 85, .ref 86, .ref 87, .ref 88, .ref 89, .ref 90, .ref 91, .int 0, .int 0, .int 0, .int 0, .int 0, .ref 92, .ref 93, .int (Int32.ofInt (-1)), .int 0, .ref 94, .ref 95, .int 0, .int 0, .int 0, .int 0, .int 0, .int 0, .ref 96, .ref 97, .ref 98, .ref 99, .ref 100, .int 0, .int 0, .long 0, .ref 101, .ref 102, .int 0, .ref 103, .ref 104, .ref 105, .int 0]))) 79 (.inr (12, [.int (Int32.ofInt 0), .ref 80, .ref 81, .ref 82, .ref 83, .ref 80, .int 0, .int 0, .int (Int32.ofInt 0), .int 0, .int (Int32.ofInt 0), .int (Int32.ofInt (-1)), .int (Int32.ofInt 0), .int ((Int8.ofInt 121).toInt32), .int (Int32.ofInt 0), .ref (z_RO + 5), .ref (z_RO + 3), .int (Int32.ofInt 0), .ref 84, .ref 85, .ref 86, .ref 87, .ref 88, .ref 89, .ref 90, .ref 91, .int 0, .int 0, .int 0, .int 0, .int 0, .ref 92, .ref 93, .int (Int32.ofInt (-1)), .int 0, .ref 94, .ref 95, .int 0, .int 0, .int 0, .int 0, .int 0, .int 0, .ref 96, .ref 97, .ref 98, .ref 99, .ref 100, .int 0, .int 0, .long 0, .ref 101, .ref 102, .int 0, .ref 103, .ref 104, .ref 105, .int 0])))
set_option maxRecDepth 100000 in
set_option maxHeartbeats 4000000 in
theorem zq65 (zn : Bool) (d : Nat) : z_sem zn (d + 1) 253 [.ref 79] zh64 (some (.int (Int32.ofInt (-1)))) zh64 := by
  refine ⟨zu_X12_look, Nat.le_of_ble_eq_true rfl, Nat.le_of_ble_eq_true rfl, [zo, zo, zo, zo, zt, zo, zo, zo, zo, zt, zo], _, _, rfl, ?_, ?_⟩
  · exact ⟨trivial, (Nat.le_of_ble_eq_true rfl), trivial, (Nat.le_of_ble_eq_true rfl), zbt (by decide +kernel), trivial, (Nat.le_of_ble_eq_true rfl), trivial, (Nat.le_of_ble_eq_true rfl), zbt (by decide +kernel), trivial, trivial⟩
  · exact zfin_i rfl rfl rfl
set_option maxRecDepth 100000 in
set_option maxHeartbeats 4000000 in
theorem zq66 (zn : Bool) (d : Nat) : z_sem zn (d + 1) 5 [.ref (z_RO + 5)] zh64 (some (.int 0)) zh64 := by
  refine ⟨zu_J0_coder_7d493, Nat.le_of_ble_eq_true rfl, Nat.le_of_ble_eq_true rfl, [zo, zo, zo, zo, zo], _, _, rfl, ?_, ?_⟩
  · exact ⟨trivial, zbf (by decide +kernel), trivial, trivial, trivial, trivial⟩
  · exact zfin_i rfl rfl rfl
set_option maxRecDepth 100000 in
set_option maxHeartbeats 4000000 in
theorem zq67 (zn : Bool) (d : Nat) : z_sem zn (d + 2) 9 [.ref (z_RO + 5)] zh64 (some (.int ((Int32.ofNat 1) >>> (0 &&& 31)))) zh64 := by
  refine ⟨zu_J0_length_8abf5, Nat.le_of_ble_eq_true rfl, Nat.le_of_ble_eq_true rfl, [zo, zo, zo, zo, zc (some (.int 0)) zh64, zo], _, _, rfl, ?_, ?_⟩
  · exact ⟨trivial, trivial, trivial, trivial, ⟨(Nat.le_of_ble_eq_true rfl), zq66 zn (d + 0), (Nat.le_of_ble_eq_true rfl), (Nat.le_of_ble_eq_true rfl), (Nat.le_of_ble_eq_true rfl), (Nat.le_of_ble_eq_true rfl), (Nat.le_of_ble_eq_true rfl)⟩, trivial, trivial⟩
  · exact zfin_i rfl rfl rfl
set_option maxRecDepth 100000 in
set_option maxHeartbeats 4000000 in
theorem zq68 (zn : Bool) (d : Nat) : z_sem zn (d + 1) 8 [.ref (z_RO + 5)] zh64 (some (.int (Int32.ofInt 1))) zh64 := by
  refine ⟨zu_J0_isLatin1_aae02, Nat.le_of_ble_eq_true rfl, Nat.le_of_ble_eq_true rfl, [zo, zo, zo, zo, zo, zo, zo], _, _, rfl, ?_, ?_⟩
  · exact ⟨trivial, zbf (by decide +kernel), trivial, trivial, zbf (by decide +kernel), trivial, trivial, trivial⟩
  · exact zfin_i rfl rfl rfl
set_option maxRecDepth 100000 in
set_option maxHeartbeats 4000000 in
theorem zq69 (zn : Bool) (d : Nat) : z_sem zn (d + 1) 24 [.int (Int32.ofInt 0), .int (Int32.ofNat 1), (bif zn then .null else .ref (z_RO + 400))] zh64 (some (.int (Int32.ofInt 0))) zh64 := by
  refine ⟨zu_J3_checkIndex_8e157, Nat.le_of_ble_eq_true rfl, (by cases zn <;> exact Nat.le_of_ble_eq_true rfl), [zo, zo, zo, zo, zt, zo], _, _, rfl, ?_, ?_⟩
  · exact ⟨trivial, zbf (by decide +kernel), trivial, trivial, zbt (by decide +kernel), trivial, trivial⟩
  · exact zfin_i rfl rfl rfl
set_option maxRecDepth 100000 in
set_option maxHeartbeats 4000000 in
theorem zq70 (zn : Bool) (d : Nat) : z_sem zn (d + 2) 4 [.int (Int32.ofInt 0), .int (Int32.ofNat 1)] zh64 none zh64 := by
  refine ⟨zu_J0_checkIndex_df160, Nat.le_of_ble_eq_true rfl, Nat.le_of_ble_eq_true rfl, [zo, zo, zo, zc (some (.int (Int32.ofInt 0))) zh64, zo], _, _, rfl, ?_, ?_⟩
  · exact ⟨trivial, trivial, trivial, ⟨(Nat.le_of_ble_eq_true rfl), zq69 zn (d + 0), (Nat.le_of_ble_eq_true rfl), (Nat.le_of_ble_eq_true rfl), (Nat.le_of_ble_eq_true rfl), (Nat.le_of_ble_eq_true rfl), (Nat.le_of_ble_eq_true rfl)⟩, trivial, trivial⟩
  · exact zfin_v rfl rfl
set_option maxRecDepth 100000 in
set_option maxHeartbeats 4000000 in
theorem zq71 (zn : Bool) (d : Nat) : z_sem zn (d + 3) 11 [.ref ((z_RO + 5) + 100), .int (Int32.ofInt 0)] zh64 (some (.int (((121 &&& ((Int16.ofInt 255).toInt32)).toUInt32 % 65536).toInt32))) zh64 := by
  refine ⟨zu_J1_charAt_3b067, Nat.le_of_ble_eq_true rfl, Nat.le_of_ble_eq_true rfl, [zo, zo, zo, zc (none) zh64, zo, zo, zo, zo, zo, zo], _, _, rfl, ?_, ?_⟩
  · exact ⟨trivial, trivial, trivial, ⟨(Nat.le_of_ble_eq_true rfl), zq70 zn (d + 0), (Nat.le_of_ble_eq_true rfl), (Nat.le_of_ble_eq_true rfl), (Nat.le_of_ble_eq_true rfl), (Nat.le_of_ble_eq_true rfl), (Nat.le_of_ble_eq_true rfl)⟩, trivial, trivial, (zvin (by decide +kernel)), trivial, trivial, trivial, trivial⟩
  · exact zfin_i rfl rfl rfl
set_option maxRecDepth 100000 in
set_option maxHeartbeats 4000000 in
theorem zq72 (zn : Bool) (d : Nat) : z_sem zn (d + 4) 2 [.ref (z_RO + 5), .int (Int32.ofInt 0)] zh64 (some (.int (((121 &&& ((Int16.ofInt 255).toInt32)).toUInt32 % 65536).toInt32))) zh64 := by
  refine ⟨zu_J0_charAt_5068e, Nat.le_of_ble_eq_true rfl, Nat.le_of_ble_eq_true rfl, [zo, zc (some (.int (Int32.ofInt 1))) zh64, zo, zo, zo, zo, zc (some (.int (((121 &&& ((Int16.ofInt 255).toInt32)).toUInt32 % 65536).toInt32))) zh64], _, _, rfl, ?_, ?_⟩
  · exact ⟨trivial, ⟨(Nat.le_of_ble_eq_true rfl), zq68 zn (d + 2), (Nat.le_of_ble_eq_true rfl), (Nat.le_of_ble_eq_true rfl), (Nat.le_of_ble_eq_true rfl), (Nat.le_of_ble_eq_true rfl), (Nat.le_of_ble_eq_true rfl)⟩, zbf (by decide +kernel), trivial, trivial, trivial, ⟨(Nat.le_of_ble_eq_true rfl), zq71 zn (d + 0), (Nat.le_of_ble_eq_true rfl), (Nat.le_of_ble_eq_true rfl), (Nat.le_of_ble_eq_true rfl), (Nat.le_of_ble_eq_true rfl), (Nat.le_of_ble_eq_true rfl)⟩, trivial⟩
  · exact zfin_i rfl rfl rfl
set_option maxRecDepth 100000 in
set_option maxHeartbeats 4000000 in
theorem zq73 (zn : Bool) (d : Nat) : z_sem zn (d + 5) 231 [.ref (z_RO + 5), .int (Int32.ofInt (-1))] zh64 (some (.int (Int32.ofInt 0))) zh64 := by
  refine ⟨zu_X12_isAmong, Nat.le_of_ble_eq_true rfl, Nat.le_of_ble_eq_true rfl, [zo, zo, zo, zo, zc (some (.int ((Int32.ofNat 1) >>> (0 &&& 31)))) zh64, zo, zo, zo, zc (some (.int (((121 &&& ((Int16.ofInt 255).toInt32)).toUInt32 % 65536).toInt32))) zh64, zo, zt, zo, zo, zo, zo, zc (some (.int ((Int32.ofNat 1) >>> (0 &&& 31)))) zh64, zt, zo], _, _, rfl, ?_, ?_⟩
  · exact ⟨trivial, trivial, trivial, trivial, ⟨(Nat.le_of_ble_eq_true rfl), zq67 zn (d + 2), (Nat.le_of_ble_eq_true rfl), (Nat.le_of_ble_eq_true rfl), (Nat.le_of_ble_eq_true rfl), (Nat.le_of_ble_eq_true rfl), (Nat.le_of_ble_eq_true rfl)⟩, zbf (by decide +kernel), trivial, trivial, ⟨(Nat.le_of_ble_eq_true rfl), zq72 zn (d + 0), (Nat.le_of_ble_eq_true rfl), (Nat.le_of_ble_eq_true rfl), (Nat.le_of_ble_eq_true rfl), (Nat.le_of_ble_eq_true rfl), (Nat.le_of_ble_eq_true rfl)⟩, trivial, zbt (by decide +kernel), trivial, trivial, trivial, trivial, ⟨(Nat.le_of_ble_eq_true rfl), zq67 zn (d + 2), (Nat.le_of_ble_eq_true rfl), (Nat.le_of_ble_eq_true rfl), (Nat.le_of_ble_eq_true rfl), (Nat.le_of_ble_eq_true rfl), (Nat.le_of_ble_eq_true rfl)⟩, zbt (by decide +kernel), trivial, trivial⟩
  · exact zfin_i rfl rfl rfl
def zh74 : z_H := (107, 35862, va_up (zh64.2.2) 79 (.inr (12, [.int (Int32.ofInt 0), .ref 80, .ref 81, .ref 82, .ref 83, .ref 80, .int 0, .int 0, .int (Int32.ofInt 0), .int 0, .int (Int32.ofInt 0), .int (Int32.ofInt 0), .int (Int32.ofInt 0), .int ((Int8.ofInt 121).toInt32), .int (Int32.ofInt 0), .ref (z_RO + 5), .ref (z_RO + 3), .int (Int32.ofInt 0), .ref 84, .ref 85, .ref 86, .ref 87, .ref 88, .ref 89, .ref 90, .ref 91, .int 0, .int 0, .int 0, .int 0, .int 0, .ref 92, .ref 93, .int (Int32.ofInt (-1)), .int 0, .ref 94, .ref 95, .int 0, .int 0, .int 0, .int 0, .int 0, .int 0, .ref 96, .ref 97, .ref 98, .ref 99, .ref 100, .int 0, .int 0, .long 0, .ref 101, .ref 102, .int 0, .ref 103, .ref 104, .ref 105, .int 0])))
set_option maxRecDepth 100000 in
set_option maxHeartbeats 4000000 in
theorem zq75 (zn : Bool) (d : Nat) : z_sem zn (d + 1) 210 [.ref 79] zh64 (some (.int (Int32.ofInt 0))) zh74 := by
  refine ⟨zu_X12_fails, Nat.le_of_ble_eq_true rfl, Nat.le_of_ble_eq_true rfl, [zo, zo, zo, zo, zo, zo, zo, zo, zo], _, _, rfl, ?_, ?_⟩
  · exact ⟨trivial, (Nat.le_of_ble_eq_true rfl), trivial, zbf (by decide +kernel), trivial, trivial, (Nat.le_of_ble_eq_true rfl), ⟨(Nat.le_of_ble_eq_true rfl), rfl, rfl⟩, trivial, trivial⟩
  · exact zfin_i rfl rfl rfl
set_option maxRecDepth 100000 in
set_option maxHeartbeats 4000000 in
theorem zq76 (zn : Bool) (d : Nat) : z_sem zn (d + 6) 195 [.ref 79] zh64 none zh74 := by
  refine ⟨zu_X12_clause, Nat.le_of_ble_eq_true rfl, Nat.le_of_ble_eq_true rfl, [zo, zc (some (.int (Int32.ofInt (-1)))) zh64, zo, zo, zo, zc (some (.int (Int32.ofInt 0))) zh64, zo, zo, zc (some (.int (Int32.ofInt 0))) zh74, zo], _, _, rfl, ?_, ?_⟩
  · exact ⟨trivial, ⟨⟨(Nat.le_of_ble_eq_true rfl), (Nat.le_of_ble_eq_true rfl)⟩, zq65 zn (d + 4), (Nat.le_of_ble_eq_true rfl), (Nat.le_of_ble_eq_true rfl), (Nat.le_of_ble_eq_true rfl), (Nat.le_of_ble_eq_true rfl), (Nat.le_of_ble_eq_true rfl)⟩, trivial, trivial, trivial, ⟨(Nat.le_of_ble_eq_true rfl), zq73 zn (d + 0), (Nat.le_of_ble_eq_true rfl), (Nat.le_of_ble_eq_true rfl), (Nat.le_of_ble_eq_true rfl), (Nat.le_of_ble_eq_true rfl), (Nat.le_of_ble_eq_true rfl)⟩, zbf (by decide +kernel), trivial, ⟨⟨(Nat.le_of_ble_eq_true rfl), (Nat.le_of_ble_eq_true rfl)⟩, zq75 zn (d + 4), (Nat.le_of_ble_eq_true rfl), (Nat.le_of_ble_eq_true rfl), (Nat.le_of_ble_eq_true rfl), (Nat.le_of_ble_eq_true rfl), (Nat.le_of_ble_eq_true rfl)⟩, trivial, trivial⟩
  · exact zfin_v rfl rfl
set_option maxRecDepth 100000 in
set_option maxHeartbeats 4000000 in
theorem zq77 (zn : Bool) (d : Nat) : z_sem zn (d + 7) 220 [.ref 79, .ref 80, .int (Int32.ofInt 0), .int 0] zh60 none zh74 := by
  refine ⟨zu_X12_goThrough, Nat.le_of_ble_eq_true rfl, Nat.le_of_ble_eq_true rfl, [zo, zo, zo, zo, zc (none) zh62, zo, zo, zo, zo, zo, zo, zo, zo, zo, zo, zo, zo, zo, zc (none) zh74, zo, zo, zo, zt, zo, zo, zo, zt], _, _, rfl, ?_, ?_⟩
  · exact ⟨trivial, trivial, trivial, trivial, ⟨⟨(Nat.le_of_ble_eq_true rfl), (Nat.le_of_ble_eq_true rfl)⟩, zq63 zn (d + 5), (Nat.le_of_ble_eq_true rfl), (Nat.le_of_ble_eq_true rfl), (Nat.le_of_ble_eq_true rfl), (Nat.le_of_ble_eq_true rfl), (Nat.le_of_ble_eq_true rfl)⟩, trivial, trivial, ⟨(Nat.le_of_ble_eq_true rfl), rfl, rfl⟩, trivial, trivial, ⟨(Nat.le_of_ble_eq_true rfl), rfl, rfl⟩, trivial, trivial, ⟨(Nat.le_of_ble_eq_true rfl), rfl, rfl⟩, trivial, trivial, ⟨(Nat.le_of_ble_eq_true rfl), rfl, rfl⟩, trivial, ⟨⟨(Nat.le_of_ble_eq_true rfl), (Nat.le_of_ble_eq_true rfl)⟩, zq76 zn (d + 0), (Nat.le_of_ble_eq_true rfl), (Nat.le_of_ble_eq_true rfl), (Nat.le_of_ble_eq_true rfl), (Nat.le_of_ble_eq_true rfl), (Nat.le_of_ble_eq_true rfl)⟩, trivial, (Nat.le_of_ble_eq_true rfl), trivial, zbt (by decide +kernel), trivial, (Nat.le_of_ble_eq_true rfl), trivial, zbt (by decide +kernel), trivial⟩
  · exact zfin_v rfl rfl
set_option maxRecDepth 100000 in
set_option maxHeartbeats 4000000 in
theorem zq78 (zn : Bool) (d : Nat) (a1 : Int32) (ha1l : 1 ≤ a1.toInt) (ha1h : a1.toInt ≤ 1) : z_sem zn (d + 8) 211 [.ref 79, .int a1] zh53 (some (.int (Int32.ofInt 0))) zh74 := by
  refine ⟨zu_X12_fault, Nat.le_of_ble_eq_true rfl, Nat.le_of_ble_eq_true rfl, [zo, zo, zo, zo, zo, zo, zo, zc (some (.int (Int32.ofInt 1))) zh60, zt, zo, zt, zo, zo, zo, zo, zo, zo, zc (none) zh74, zo, zo], _, _, rfl, ?_, ?_⟩
  · exact ⟨trivial, trivial, ⟨(Nat.le_of_ble_eq_true rfl), rfl, rfl⟩, trivial, trivial, trivial, trivial, ⟨(Nat.le_of_ble_eq_true rfl), zq61 zn (d + 6) a1 ha1l ha1h, (Nat.le_of_ble_eq_true rfl), (Nat.le_of_ble_eq_true rfl), (Nat.le_of_ble_eq_true rfl), (Nat.le_of_ble_eq_true rfl), (Nat.le_of_ble_eq_true rfl)⟩, zbt (by decide +kernel), trivial, zT_ne (q := 0) rfl (by decide +kernel) (by omega), trivial, trivial, (Nat.le_of_ble_eq_true rfl), trivial, trivial, (Nat.le_of_ble_eq_true rfl), ⟨⟨(Nat.le_of_ble_eq_true rfl), (Nat.le_of_ble_eq_true rfl)⟩, zq77 zn (d + 0), (Nat.le_of_ble_eq_true rfl), (Nat.le_of_ble_eq_true rfl), (Nat.le_of_ble_eq_true rfl), (Nat.le_of_ble_eq_true rfl), (Nat.le_of_ble_eq_true rfl)⟩, trivial, (Nat.le_of_ble_eq_true rfl), trivial⟩
  · exact zfin_i rfl rfl rfl
def zh79 : z_H := (107, 35862, va_up (zh40.2.2) 8 (.inl (0, 188, .inl (zfillf (fun _ => 0) (Int32.ofInt 0) 188))))
def zh80 : z_H := (107, 35862, va_up (va_up (va_up (zh79.2.2) 4 (.inr (6, [.ref 5, .ref 6, .ref 7, .int (Int32.ofInt 0), .int (Int32.ofInt 0)]))) 4 (.inr (6, [.ref 5, .ref 6, .ref 7, .int (Int32.ofInt 0), .int (Int32.ofInt 0)]))) 1 (.inr (8, [.ref 2, .int (Int32.ofInt 0), .int (Int32.ofInt 0), .int (Int32.ofInt 0)])))
set_option maxRecDepth 100000 in
set_option maxHeartbeats 4000000 in
theorem zq81 (zn : Bool) (d : Nat) : z_sem zn (d + 1) 106 [.ref 1] zh80 (some (.int (Int32.ofInt (-1)))) zh80 := by
  refine ⟨zu_X8_here, Nat.le_of_ble_eq_true rfl, Nat.le_of_ble_eq_true rfl, [zo, zo, zo, zo, zt, zo], _, _, rfl, ?_, ?_⟩
  · exact ⟨trivial, (Nat.le_of_ble_eq_true rfl), trivial, (Nat.le_of_ble_eq_true rfl), zbt (by decide +kernel), trivial, trivial⟩
  · exact zfin_i rfl rfl rfl
set_option maxRecDepth 100000 in
set_option maxHeartbeats 4000000 in
theorem zq82 (zn : Bool) (d : Nat) : z_sem zn (d + 2) 109 [.ref 1] zh80 (some (.int (Int32.ofInt (-1)))) zh80 := by
  refine ⟨zu_X8_next, Nat.le_of_ble_eq_true rfl, Nat.le_of_ble_eq_true rfl, [zo, zo, zo, zo, zt, zo, zc (some (.int (Int32.ofInt (-1)))) zh80], _, _, rfl, ?_, ?_⟩
  · exact ⟨trivial, (Nat.le_of_ble_eq_true rfl), trivial, (Nat.le_of_ble_eq_true rfl), zbt (by decide +kernel), trivial, ⟨⟨(Nat.le_of_ble_eq_true rfl), (Nat.le_of_ble_eq_true rfl)⟩, zq81 zn (d + 0), (Nat.le_of_ble_eq_true rfl), (Nat.le_of_ble_eq_true rfl), (Nat.le_of_ble_eq_true rfl), (Nat.le_of_ble_eq_true rfl), (Nat.le_of_ble_eq_true rfl)⟩, trivial⟩
  · exact zfin_i rfl rfl rfl
set_option maxRecDepth 100000 in
set_option maxHeartbeats 4000000 in
theorem zq83 (zn : Bool) (d : Nat) : z_sem zn (d + 3) 111 [.ref 1, .int ((Int8.ofInt 114).toInt32)] zh80 (some (.int (Int32.ofInt 0))) zh80 := by
  refine ⟨zu_X8_takes, Nat.le_of_ble_eq_true rfl, Nat.le_of_ble_eq_true rfl, [zo, zc (some (.int (Int32.ofInt (-1)))) zh80, zo, zo, zo], _, _, rfl, ?_, ?_⟩
  · exact ⟨trivial, ⟨⟨(Nat.le_of_ble_eq_true rfl), (Nat.le_of_ble_eq_true rfl)⟩, zq82 zn (d + 0), (Nat.le_of_ble_eq_true rfl), (Nat.le_of_ble_eq_true rfl), (Nat.le_of_ble_eq_true rfl), (Nat.le_of_ble_eq_true rfl), (Nat.le_of_ble_eq_true rfl)⟩, trivial, zbf (by decide +kernel), trivial, trivial⟩
  · exact zfin_i rfl rfl rfl
set_option maxRecDepth 100000 in
set_option maxHeartbeats 4000000 in
theorem zq84 (zn : Bool) (d : Nat) : z_sem zn (d + 3) 111 [.ref 1, .int ((Int8.ofInt 99).toInt32)] zh80 (some (.int (Int32.ofInt 0))) zh80 := by
  refine ⟨zu_X8_takes, Nat.le_of_ble_eq_true rfl, Nat.le_of_ble_eq_true rfl, [zo, zc (some (.int (Int32.ofInt (-1)))) zh80, zo, zo, zo], _, _, rfl, ?_, ?_⟩
  · exact ⟨trivial, ⟨⟨(Nat.le_of_ble_eq_true rfl), (Nat.le_of_ble_eq_true rfl)⟩, zq82 zn (d + 0), (Nat.le_of_ble_eq_true rfl), (Nat.le_of_ble_eq_true rfl), (Nat.le_of_ble_eq_true rfl), (Nat.le_of_ble_eq_true rfl), (Nat.le_of_ble_eq_true rfl)⟩, trivial, zbf (by decide +kernel), trivial, trivial⟩
  · exact zfin_i rfl rfl rfl
set_option maxRecDepth 100000 in
set_option maxHeartbeats 4000000 in
theorem zq85 (zn : Bool) (d : Nat) : z_sem zn (d + 3) 111 [.ref 1, .int ((Int8.ofInt 112).toInt32)] zh80 (some (.int (Int32.ofInt 0))) zh80 := by
  refine ⟨zu_X8_takes, Nat.le_of_ble_eq_true rfl, Nat.le_of_ble_eq_true rfl, [zo, zc (some (.int (Int32.ofInt (-1)))) zh80, zo, zo, zo], _, _, rfl, ?_, ?_⟩
  · exact ⟨trivial, ⟨⟨(Nat.le_of_ble_eq_true rfl), (Nat.le_of_ble_eq_true rfl)⟩, zq82 zn (d + 0), (Nat.le_of_ble_eq_true rfl), (Nat.le_of_ble_eq_true rfl), (Nat.le_of_ble_eq_true rfl), (Nat.le_of_ble_eq_true rfl), (Nat.le_of_ble_eq_true rfl)⟩, trivial, zbf (by decide +kernel), trivial, trivial⟩
  · exact zfin_i rfl rfl rfl
set_option maxRecDepth 100000 in
set_option maxHeartbeats 4000000 in
theorem zq86 (zn : Bool) (d : Nat) : z_sem zn (d + 4) 74 [.ref 3] zh80 (some (.int (Int32.ofInt 0))) zh80 := by
  refine ⟨zu_X4_clause, Nat.le_of_ble_eq_true rfl, Nat.le_of_ble_eq_true rfl, [zo, zo, zo, zo, zo, zo, zo, zo, zc (some (.int (Int32.ofInt 0))) zh80, zt, zo, zo, zo, zo, zo, zo, zo, zo, zo, zc (some (.int (Int32.ofInt 0))) zh80, zt, zo, zo, zo, zo, zo, zo, zo, zo, zc (some (.int (Int32.ofInt 0))) zh80, zt, zo, zo, zc (some (.int (Int32.ofInt (-1)))) zh80, zo, zo], _, _, rfl, ?_, ?_⟩
  · exact ⟨trivial, (Nat.le_of_ble_eq_true rfl), (Nat.le_of_ble_eq_true rfl), trivial, zbf (by decide +kernel), trivial, (Nat.le_of_ble_eq_true rfl), trivial, ⟨⟨(Nat.le_of_ble_eq_true rfl), (Nat.le_of_ble_eq_true rfl)⟩, zq83 zn (d + 0), (Nat.le_of_ble_eq_true rfl), (Nat.le_of_ble_eq_true rfl), (Nat.le_of_ble_eq_true rfl), (Nat.le_of_ble_eq_true rfl), (Nat.le_of_ble_eq_true rfl)⟩, zbt (by decide +kernel), trivial, (Nat.le_of_ble_eq_true rfl), trivial, ⟨(Nat.le_of_ble_eq_true rfl), (zvin (by decide +kernel))⟩, trivial, zbf (by decide +kernel), trivial, (Nat.le_of_ble_eq_true rfl), trivial, ⟨⟨(Nat.le_of_ble_eq_true rfl), (Nat.le_of_ble_eq_true rfl)⟩, zq84 zn (d + 0), (Nat.le_of_ble_eq_true rfl), (Nat.le_of_ble_eq_true rfl), (Nat.le_of_ble_eq_true rfl), (Nat.le_of_ble_eq_true rfl), (Nat.le_of_ble_eq_true rfl)⟩, zbt (by decide +kernel), trivial, (Nat.le_of_ble_eq_true rfl), (Nat.le_of_ble_eq_true rfl), trivial, zbf (by decide +kernel), trivial, (Nat.le_of_ble_eq_true rfl), trivial, ⟨⟨(Nat.le_of_ble_eq_true rfl), (Nat.le_of_ble_eq_true rfl)⟩, zq85 zn (d + 0), (Nat.le_of_ble_eq_true rfl), (Nat.le_of_ble_eq_true rfl), (Nat.le_of_ble_eq_true rfl), (Nat.le_of_ble_eq_true rfl), (Nat.le_of_ble_eq_true rfl)⟩, zbt (by decide +kernel), trivial, (Nat.le_of_ble_eq_true rfl), ⟨⟨(Nat.le_of_ble_eq_true rfl), (Nat.le_of_ble_eq_true rfl)⟩, zq82 zn (d + 1), (Nat.le_of_ble_eq_true rfl), (Nat.le_of_ble_eq_true rfl), (Nat.le_of_ble_eq_true rfl), (Nat.le_of_ble_eq_true rfl), (Nat.le_of_ble_eq_true rfl)⟩, trivial, trivial, trivial⟩
  · exact zfin_i rfl rfl rfl
set_option maxRecDepth 100000 in
set_option maxHeartbeats 4000000 in
theorem zq87 (zn : Bool) (d : Nat) : z_sem zn (d + 5) 79 [.ref 3] zh40 (some (.int (Int32.ofInt 0))) zh80 := by
  refine ⟨zu_X4_read, Nat.le_of_ble_eq_true rfl, Nat.le_of_ble_eq_true rfl, [zo, zo, zo, zc none zh79, zo, zo, zo, zo, zo, zo, zo, zo, zo, zo, zo, zo, zo, zo, zo, zo, zo, zo, zc (some (.int (Int32.ofInt 0))) zh80, zo, zo, zo, zo], _, _, rfl, ?_, ?_⟩
  · exact ⟨trivial, (Nat.le_of_ble_eq_true rfl), trivial, ⟨(Nat.le_of_ble_eq_true rfl), zf_fill zn _ rfl rfl rfl (Nat.le_of_ble_eq_true rfl), (Nat.le_of_ble_eq_true rfl), (Nat.le_of_ble_eq_true rfl), (Nat.le_of_ble_eq_true rfl), (Nat.le_of_ble_eq_true rfl), (Nat.le_of_ble_eq_true rfl)⟩, trivial, (Nat.le_of_ble_eq_true rfl), trivial, ⟨(Nat.le_of_ble_eq_true rfl), rfl, rfl⟩, trivial, (Nat.le_of_ble_eq_true rfl), trivial, ⟨(Nat.le_of_ble_eq_true rfl), rfl, rfl⟩, trivial, (Nat.le_of_ble_eq_true rfl), trivial, ⟨(Nat.le_of_ble_eq_true rfl), rfl, rfl⟩, trivial, trivial, trivial, trivial, zbf (by decide +kernel), trivial, ⟨⟨(Nat.le_of_ble_eq_true rfl), (Nat.le_of_ble_eq_true rfl)⟩, zq86 zn (d + 0), (Nat.le_of_ble_eq_true rfl), (Nat.le_of_ble_eq_true rfl), (Nat.le_of_ble_eq_true rfl), (Nat.le_of_ble_eq_true rfl), (Nat.le_of_ble_eq_true rfl)⟩, zbf (by decide +kernel), trivial, (Nat.le_of_ble_eq_true rfl), (Nat.le_of_ble_eq_true rfl), trivial⟩
  · exact zfin_i rfl rfl rfl
set_option maxRecDepth 100000 in
set_option maxHeartbeats 4000000 in
theorem zq88 (zn : Bool) (d : Nat) (a1 : Int32) (ha1l : 0 ≤ a1.toInt) (ha1h : a1.toInt ≤ 0) : z_sem zn (d + 6) 140 [.ref 0, .int a1] zh40 (some (.int (Int32.ofInt 0))) zh80 := by
  refine ⟨zu_X11_fault, Nat.le_of_ble_eq_true rfl, Nat.le_of_ble_eq_true rfl, [zo, (true, 0, none, zh0, none), zo, zo, zc (some (.int (Int32.ofInt 0))) zh80], _, _, rfl, ?_, ?_⟩
  · exact ⟨trivial, (by show (if (0 : Int) = a1.toInt then _ else _) = _; rw [if_pos (by omega)] <;> rfl), trivial, (Nat.le_of_ble_eq_true rfl), ⟨⟨(Nat.le_of_ble_eq_true rfl), (Nat.le_of_ble_eq_true rfl)⟩, zq87 zn (d + 0), (Nat.le_of_ble_eq_true rfl), (Nat.le_of_ble_eq_true rfl), (Nat.le_of_ble_eq_true rfl), (Nat.le_of_ble_eq_true rfl), (Nat.le_of_ble_eq_true rfl)⟩, trivial⟩
  · exact zfin_i rfl rfl rfl
def zh89 : z_H := (107, 35862, va_up (zh80.2.2) 79 (.inr (12, [.int (Int32.ofInt 0), .ref 80, .ref 81, .ref 82, .ref 83, .ref 80, .int 0, .int 0, .int 0, .int 0, .int 0, .int 0, .int 0, .int 0, .int 0, .ref (z_RO + 5), .ref (z_RO + 3), .int 0, .ref 84, .ref 85, .ref 86, .ref 87, .ref 88, .ref 89, .ref 90, .ref 91, .int 0, .int 0, .int 0, .int 0, .int 0, .ref 92, .ref 93, .int (Int32.ofInt (-1)), .int 0, .ref 94, .ref 95, .int 0, .int 0, .int 0, .int 0, .int 0, .int 0, .ref 96, .ref 97, .ref 98, .ref 99, .ref 100, .int 0, .int 0, .long 0, .ref 101, .ref 102, .int 0, .ref 103, .ref 104, .ref 105, .int 0])))
set_option maxRecDepth 100000 in
set_option maxHeartbeats 4000000 in
theorem zq90 (zn : Bool) (d : Nat) (a1 : Int32) (ha1l : 0 ≤ a1.toInt) (ha1h : a1.toInt ≤ 0) : z_sem zn (d + 1) 236 [.long (a1.toInt64), .long (Int64.ofNat 0), .long (Int64.ofNat 1)] zh89 (some (.int (Int32.ofInt 1))) zh89 := by
  refine ⟨zu_X12_isIn, Nat.le_of_ble_eq_true rfl, Nat.le_of_ble_eq_true rfl, [zo, zo, zo, zo, zo, zo, zo, zo, zo, zo], _, _, rfl, ?_, ?_⟩
  · exact ⟨trivial, trivial, trivial, zbf (by rw [zc_eq (p := (a1).toInt) (q := 0) (by simp only [zi_64]) (by decide +kernel) (by omega)]; decide), trivial, trivial, trivial, zbf (by rw [zc_lt (p := (a1).toInt) (q := 1) (by simp only [zi_64]) (by decide +kernel) (by omega)]; decide), trivial, trivial, trivial⟩
  · exact zfin_i rfl rfl rfl
def zh91 : z_H := (107, 35862, va_up (va_up (va_up (va_up (va_up (zh89.2.2) 79 (.inr (12, [.int (Int32.ofInt 0), .ref 80, .ref 81, .ref 82, .ref 83, .ref 80, .int 0, .int 0, .int 0, .int 0, .int 0, .int 0, .int 0, .int 0, .int 0, .ref (z_RO + 5), .ref (z_RO + 3), .int 0, .ref 84, .ref 85, .ref 86, .ref 87, .ref 88, .ref 89, .ref 90, .ref 91, .int 0, .int 0, .int 0, .int 0, .int 0, .ref 92, .ref 93, .int (Int32.ofInt (-1)), .int 0, .ref 94, .ref 95, .int 0, .int 0, .int 0, .int 0, .int 0, .int 0, .ref 96, .ref 97, .ref 98, .ref 99, .ref 100, .int 0, .int 0, .long 0, .ref 101, .ref 102, .int 0, .ref 103, .ref 104, .ref 105, .int 0]))) 79 (.inr (12, [.int (Int32.ofInt 0), .ref 80, .ref 81, .ref 82, .ref 83, .ref 80, .int 0, .int 0, .int (Int32.ofInt 0), .int 0, .int 0, .int 0, .int 0, .int 0, .int 0, .ref (z_RO + 5), .ref (z_RO + 3), .int 0, .ref 84, .ref 85, .ref 86, .ref 87, .ref 88, .ref 89, .ref 90, .ref 91, .int 0, .int 0, .int 0, .int 0, .int 0, .ref 92, .ref 93, .int (Int32.ofInt (-1)), .int 0, .ref 94, .ref 95, .int 0, .int 0, .int 0, .int 0, .int 0, .int 0, .ref 96, .ref 97, .ref 98, .ref 99, .ref 100, .int 0, .int 0, .long 0, .ref 101, .ref 102, .int 0, .ref 103, .ref 104, .ref 105, .int 0]))) 79 (.inr (12, [.int (Int32.ofInt 0), .ref 80, .ref 81, .ref 82, .ref 83, .ref 80, .int 0, .int 0, .int (Int32.ofInt 0), .int 0, .int 0, .int 0, .int 0, .int 0, .int 0, .ref (z_RO + 5), .ref (z_RO + 3), .int 0, .ref 84, .ref 85, .ref 86, .ref 87, .ref 88, .ref 89, .ref 90, .ref 91, .int 0, .int 0, .int 0, .int 0, .int 0, .ref 92, .ref 93, .int (Int32.ofInt (-1)), .int 0, .ref 94, .ref 95, .int 0, .int 0, .int 0, .int 0, .int 0, .int 0, .ref 96, .ref 97, .ref 98, .ref 99, .ref 100, .int 0, .int 0, .long 0, .ref 101, .ref 102, .int 0, .ref 103, .ref 104, .ref 105, .int 0]))) 79 (.inr (12, [.int (Int32.ofInt 0), .ref 80, .ref 81, .ref 82, .ref 83, .ref 80, .int 0, .int 0, .int (Int32.ofInt 0), .int 0, .int (Int32.ofInt 0), .int 0, .int 0, .int 0, .int 0, .ref (z_RO + 5), .ref (z_RO + 3), .int 0, .ref 84, .ref 85, .ref 86, .ref 87, .ref 88, .ref 89, .ref 90, .ref 91, .int 0, .int 0, .int 0, .int 0, .int 0, .ref 92, .ref 93, .int (Int32.ofInt (-1)), .int 0, .ref 94, .ref 95, .int 0, .int 0, .int 0, .int 0, .int 0, .int 0, .ref 96, .ref 97, .ref 98, .ref 99, .ref 100, .int 0, .int 0, .long 0, .ref 101, .ref 102, .int 0, .ref 103, .ref 104, .ref 105, .int 0]))) 79 (.inr (12, [.int (Int32.ofInt 0), .ref 80, .ref 81, .ref 82, .ref 83, .ref 80, .int 0, .int 0, .int (Int32.ofInt 0), .int 0, .int (Int32.ofInt 0), .int (Int32.ofInt (-1)), .int 0, .int 0, .int 0, .ref (z_RO + 5), .ref (z_RO + 3), .int 0, .ref 84, .ref 85, .ref 86, .ref 87, .ref 88, .ref 89, .ref 90, .ref 91, .int 0, .int 0, .int 0, .int 0, .int 0, .ref 92, .ref 93, .int (Int32.ofInt (-1)), .int 0, .ref 94, .ref 95, .int 0, .int 0, .int 0, .int 0, .int 0, .int 0, .ref 96, .ref 97, .ref 98, .ref 99, .ref 100, .int 0, .int 0, .long 0, .ref 101, .ref 102, .int 0, .ref 103, .ref 104, .ref 105, .int 0])))
set_option maxRecDepth 100000 in
set_option maxHeartbeats 4000000 in
theorem zq92 (zn : Bool) (d : Nat) : z_sem zn (d + 1) 280 [.ref 79, .ref 80, .int (Int32.ofInt 0), .int 0] zh89 none zh91 := by
  refine ⟨zu_X12_starts, Nat.le_of_ble_eq_true rfl, Nat.le_of_ble_eq_true rfl, [zo, zo, zo, zo, zo, zo, zo, zo, zo, zo, zo, zo, zo, zo, zo], _, _, rfl, ?_, ?_⟩
  · exact ⟨trivial, trivial, ⟨(Nat.le_of_ble_eq_true rfl), rfl, rfl⟩, trivial, trivial, ⟨(Nat.le_of_ble_eq_true rfl), rfl, rfl⟩, trivial, trivial, ⟨(Nat.le_of_ble_eq_true rfl), rfl, rfl⟩, trivial, trivial, ⟨(Nat.le_of_ble_eq_true rfl), rfl, rfl⟩, trivial, trivial, ⟨(Nat.le_of_ble_eq_true rfl), rfl, rfl⟩, trivial⟩
  · exact zfin_v rfl rfl
def zh93 : z_H := (107, 35862, va_up (va_up (va_up (zh91.2.2) 79 (.inr (12, [.int (Int32.ofInt 0), .ref 80, .ref 81, .ref 82, .ref 83, .ref 80, .int 0, .int 0, .int (Int32.ofInt 0), .int 0, .int (Int32.ofInt 0), .int (Int32.ofInt (-1)), .int 0, .int 0, .int 0, .ref (z_RO + 5), .ref (z_RO + 3), .int 0, .ref 84, .ref 85, .ref 86, .ref 87, .ref 88, .ref 89, .ref 90, .ref 91, .int 0, .int 0, .int (Int32.ofInt 0), .int 0, .int 0, .ref 92, .ref 93, .int (Int32.ofInt (-1)), .int 0, .ref 94, .ref 95, .int 0, .int 0, .int 0, .int 0, .int 0, .int 0, .ref 96, .ref 97, .ref 98, .ref 99, .ref 100, .int 0, .int 0, .long 0, .ref 101, .ref 102, .int 0, .ref 103, .ref 104, .ref 105, .int 0]))) 79 (.inr (12, [.int (Int32.ofInt 0), .ref 80, .ref 81, .ref 82, .ref 83, .ref 80, .int 0, .int 0, .int (Int32.ofInt 0), .int 0, .int (Int32.ofInt 0), .int (Int32.ofInt (-1)), .int 0, .int 0, .int 0, .ref (z_RO + 5), .ref (z_RO + 3), .int 0, .ref 84, .ref 85, .ref 86, .ref 87, .ref 88, .ref 89, .ref 90, .ref 91, .int 0, .int 0, .int (Int32.ofInt 0), .int (Int32.ofInt 0), .int 0, .ref 92, .ref 93, .int (Int32.ofInt (-1)), .int 0, .ref 94, .ref 95, .int 0, .int 0, .int 0, .int 0, .int 0, .int 0, .ref 96, .ref 97, .ref 98, .ref 99, .ref 100, .int 0, .int 0, .long 0, .ref 101, .ref 102, .int 0, .ref 103, .ref 104, .ref 105, .int 0]))) 79 (.inr (12, [.int (Int32.ofInt 0), .ref 80, .ref 81, .ref 82, .ref 83, .ref 80, .int 0, .int 0, .int (Int32.ofInt 0), .int 0, .int (Int32.ofInt 0), .int (Int32.ofInt (-1)), .int 0, .int 0, .int 0, .ref (z_RO + 5), .ref (z_RO + 3), .int 0, .ref 84, .ref 85, .ref 86, .ref 87, .ref 88, .ref 89, .ref 90, .ref 91, .int 0, .int 0, .int (Int32.ofInt 0), .int (Int32.ofInt 0), .int (Int32.ofInt 0), .ref 92, .ref 93, .int (Int32.ofInt (-1)), .int 0, .ref 94, .ref 95, .int 0, .int 0, .int 0, .int 0, .int 0, .int 0, .ref 96, .ref 97, .ref 98, .ref 99, .ref 100, .int 0, .int 0, .long 0, .ref 101, .ref 102, .int 0, .ref 103, .ref 104, .ref 105, .int 0])))
set_option maxRecDepth 100000 in
set_option maxHeartbeats 4000000 in
theorem zq94 (zn : Bool) (d : Nat) : z_sem zn (d + 1) 253 [.ref 79] zh93 (some (.int (Int32.ofInt (-1)))) zh93 := by
  refine ⟨zu_X12_look, Nat.le_of_ble_eq_true rfl, Nat.le_of_ble_eq_true rfl, [zo, zo, zo, zo, zt, zo, zo, zo, zo, zt, zo], _, _, rfl, ?_, ?_⟩
  · exact ⟨trivial, (Nat.le_of_ble_eq_true rfl), trivial, (Nat.le_of_ble_eq_true rfl), zbt (by decide +kernel), trivial, (Nat.le_of_ble_eq_true rfl), trivial, (Nat.le_of_ble_eq_true rfl), zbt (by decide +kernel), trivial, trivial⟩
  · exact zfin_i rfl rfl rfl
def zh95 : z_H := (107, 35862, va_up (zh93.2.2) 79 (.inr (12, [.int (Int32.ofInt 0), .ref 80, .ref 81, .ref 82, .ref 83, .ref 80, .int 0, .int 0, .int (Int32.ofInt 0), .int 0, .int (Int32.ofInt 0), .int (Int32.ofInt 0), .int 0, .int 0, .int 0, .ref (z_RO + 5), .ref (z_RO + 3), .int 0, .ref 84, .ref 85, .ref 86, .ref 87, .ref 88, .ref 89, .ref 90, .ref 91, .int 0, .int 0, .int (Int32.ofInt 0), .int (Int32.ofInt 0), .int (Int32.ofInt 0), .ref 92, .ref 93, .int (Int32.ofInt (-1)), .int 0, .ref 94, .ref 95, .int 0, .int 0, .int 0, .int 0, .int 0, .int 0, .ref 96, .ref 97, .ref 98, .ref 99, .ref 100, .int 0, .int 0, .long 0, .ref 101, .ref 102, .int 0, .ref 103, .ref 104, .ref 105, .int 0])))
set_option maxRecDepth 100000 in
set_option maxHeartbeats 4000000 in
theorem zq96 (zn : Bool) (d : Nat) : z_sem zn (d + 1) 210 [.ref 79] zh93 (some (.int (Int32.ofInt 0))) zh95 := by
  refine ⟨zu_X12_fails, Nat.le_of_ble_eq_true rfl, Nat.le_of_ble_eq_true rfl, [zo, zo, zo, zo, zo, zo, zo, zo, zo], _, _, rfl, ?_, ?_⟩
  · exact ⟨trivial, (Nat.le_of_ble_eq_true rfl), trivial, zbf (by decide +kernel), trivial, trivial, (Nat.le_of_ble_eq_true rfl), ⟨(Nat.le_of_ble_eq_true rfl), rfl, rfl⟩, trivial, trivial⟩
  · exact zfin_i rfl rfl rfl
set_option maxRecDepth 100000 in
set_option maxHeartbeats 4000000 in
theorem zq97 (zn : Bool) (d : Nat) : z_sem zn (d + 2) 266 [.ref 79] zh93 none zh95 := by
  refine ⟨zu_X12_readClause, Nat.le_of_ble_eq_true rfl, Nat.le_of_ble_eq_true rfl, [zo, zc (some (.int (Int32.ofInt (-1)))) zh93, zo, zo, zo, zt, zo, zo, zt, zo, zo, zt, zo, zo, zo, zo, zo, zc (some (.int (Int32.ofInt 0))) zh95, zo], _, _, rfl, ?_, ?_⟩
  · exact ⟨trivial, ⟨⟨(Nat.le_of_ble_eq_true rfl), (Nat.le_of_ble_eq_true rfl)⟩, zq94 zn (d + 0), (Nat.le_of_ble_eq_true rfl), (Nat.le_of_ble_eq_true rfl), (Nat.le_of_ble_eq_true rfl), (Nat.le_of_ble_eq_true rfl), (Nat.le_of_ble_eq_true rfl)⟩, trivial, trivial, trivial, zbt (by decide +kernel), trivial, trivial, zbt (by decide +kernel), trivial, trivial, zbt (by decide +kernel), trivial, trivial, trivial, zbf (by decide +kernel), trivial, ⟨⟨(Nat.le_of_ble_eq_true rfl), (Nat.le_of_ble_eq_true rfl)⟩, zq96 zn (d + 0), (Nat.le_of_ble_eq_true rfl), (Nat.le_of_ble_eq_true rfl), (Nat.le_of_ble_eq_true rfl), (Nat.le_of_ble_eq_true rfl), (Nat.le_of_ble_eq_true rfl)⟩, trivial, trivial⟩
  · exact zfin_v rfl rfl
set_option maxRecDepth 100000 in
set_option maxHeartbeats 4000000 in
theorem zq98 (zn : Bool) (d : Nat) : z_sem zn (d + 3) 267 [.ref 79] zh89 none zh95 := by
  refine ⟨zu_X12_readHouse, Nat.le_of_ble_eq_true rfl, Nat.le_of_ble_eq_true rfl, [zo, zo, zo, zo, zo, zo, zc (none) zh91, zo, zo, zo, zo, zo, zo, zo, zo, zo, zo, zo, zo, zo, zo, zo, zo, zo, zo, zc (none) zh95, zo, zo, zo, zt, zo, zo, zo, zt, zo, zt, zo, zo, zo, zt], _, _, rfl, ?_, ?_⟩
  · exact ⟨trivial, trivial, (Nat.le_of_ble_eq_true rfl), trivial, trivial, (Nat.le_of_ble_eq_true rfl), ⟨⟨(Nat.le_of_ble_eq_true rfl), (Nat.le_of_ble_eq_true rfl)⟩, zq92 zn (d + 1), (Nat.le_of_ble_eq_true rfl), (Nat.le_of_ble_eq_true rfl), (Nat.le_of_ble_eq_true rfl), (Nat.le_of_ble_eq_true rfl), (Nat.le_of_ble_eq_true rfl)⟩, trivial, trivial, ⟨(Nat.le_of_ble_eq_true rfl), rfl, rfl⟩, trivial, trivial, ⟨(Nat.le_of_ble_eq_true rfl), rfl, rfl⟩, trivial, trivial, ⟨(Nat.le_of_ble_eq_true rfl), rfl, rfl⟩, trivial, trivial, trivial, zbf (by decide +kernel), trivial, (Nat.le_of_ble_eq_true rfl), trivial, zbf (by decide +kernel), trivial, ⟨⟨(Nat.le_of_ble_eq_true rfl), (Nat.le_of_ble_eq_true rfl)⟩, zq97 zn (d + 0), (Nat.le_of_ble_eq_true rfl), (Nat.le_of_ble_eq_true rfl), (Nat.le_of_ble_eq_true rfl), (Nat.le_of_ble_eq_true rfl), (Nat.le_of_ble_eq_true rfl)⟩, trivial, (Nat.le_of_ble_eq_true rfl), trivial, zbt (by decide +kernel), trivial, trivial, trivial, zbt (by decide +kernel), trivial, zbt (by decide +kernel), trivial, (Nat.le_of_ble_eq_true rfl), trivial, zbt (by decide +kernel), trivial⟩
  · exact zfin_v rfl rfl
set_option maxRecDepth 100000 in
set_option maxHeartbeats 4000000 in
theorem zq99 (zn : Bool) (d : Nat) (a1 : Int32) (ha1l : 0 ≤ a1.toInt) (ha1h : a1.toInt ≤ 0) : z_sem zn (d + 4) 211 [.ref 79, .int a1] zh80 (some (.int (Int32.ofInt 0))) zh95 := by
  refine ⟨zu_X12_fault, Nat.le_of_ble_eq_true rfl, Nat.le_of_ble_eq_true rfl, [zo, zo, zo, zo, zo, zo, zo, zc (some (.int (Int32.ofInt 1))) zh89, zt, zo, zo, zo, zc (none) zh95, zo, zo, zo], _, _, rfl, ?_, ?_⟩
  · exact ⟨trivial, trivial, ⟨(Nat.le_of_ble_eq_true rfl), rfl, rfl⟩, trivial, trivial, trivial, trivial, ⟨(Nat.le_of_ble_eq_true rfl), zq90 zn (d + 2) a1 ha1l ha1h, (Nat.le_of_ble_eq_true rfl), (Nat.le_of_ble_eq_true rfl), (Nat.le_of_ble_eq_true rfl), (Nat.le_of_ble_eq_true rfl), (Nat.le_of_ble_eq_true rfl)⟩, zbt (by decide +kernel), trivial, zF_ne (q := 0) rfl (by decide +kernel) (by omega), trivial, ⟨⟨(Nat.le_of_ble_eq_true rfl), (Nat.le_of_ble_eq_true rfl)⟩, zq98 zn (d + 0), (Nat.le_of_ble_eq_true rfl), (Nat.le_of_ble_eq_true rfl), (Nat.le_of_ble_eq_true rfl), (Nat.le_of_ble_eq_true rfl), (Nat.le_of_ble_eq_true rfl)⟩, trivial, trivial, (Nat.le_of_ble_eq_true rfl), trivial⟩
  · exact zfin_i rfl rfl rfl
set_option maxRecDepth 100000 in
set_option maxHeartbeats 4000000 in
theorem zq100 (zn : Bool) (d : Nat) (a1 : Int32) (ha1l : -2147483648 ≤ a1.toInt) (ha1h : a1.toInt ≤ -1) : z_sem zn (d + 1) 140 [.ref 0, .int a1] zh40 (some (.int ((Int8.ofInt (-2)).toInt32))) zh40 := by
  refine ⟨zu_X11_fault, Nat.le_of_ble_eq_true rfl, Nat.le_of_ble_eq_true rfl, [zo, zo, zo], _, _, rfl, ?_, ?_⟩
  · exact ⟨trivial, (by show (if (0 : Int) = a1.toInt then _ else if (1 : Int) = a1.toInt then _ else _) = _; rw [if_neg (by omega), if_neg (by omega)] <;> rfl), trivial, trivial⟩
  · exact zfin_i rfl rfl rfl
set_option maxRecDepth 100000 in
set_option maxHeartbeats 4000000 in
theorem zq101 (zn : Bool) (d : Nat) (a1 : Int32) (ha1l : -2147483648 ≤ a1.toInt) (ha1h : a1.toInt ≤ -1) : z_sem zn (d + 1) 236 [.long (a1.toInt64), .long (Int64.ofNat 0), .long (Int64.ofNat 1)] zh42 (some (.int (Int32.ofInt 0))) zh42 := by
  refine ⟨zu_X12_isIn, Nat.le_of_ble_eq_true rfl, Nat.le_of_ble_eq_true rfl, [zo, zo, zo, zt, zo], _, _, rfl, ?_, ?_⟩
  · exact ⟨trivial, trivial, trivial, zbt (by rw [zc_lt (p := (a1).toInt) (q := 0) (by simp only [zi_64]) (by decide +kernel) (by omega)]; decide), trivial, trivial⟩
  · exact zfin_i rfl rfl rfl
set_option maxRecDepth 100000 in
set_option maxHeartbeats 4000000 in
theorem zq102 (zn : Bool) (d : Nat) (a1 : Int32) (ha1l : -2147483648 ≤ a1.toInt) (ha1h : a1.toInt ≤ -1) : z_sem zn (d + 2) 211 [.ref 79, .int a1] zh40 (some (.int ((Int8.ofInt (-2)).toInt32))) zh42 := by
  refine ⟨zu_X12_fault, Nat.le_of_ble_eq_true rfl, Nat.le_of_ble_eq_true rfl, [zo, zo, zo, zo, zo, zo, zo, zc (some (.int (Int32.ofInt 0))) zh42, zo, zo], _, _, rfl, ?_, ?_⟩
  · exact ⟨trivial, trivial, ⟨(Nat.le_of_ble_eq_true rfl), rfl, rfl⟩, trivial, trivial, trivial, trivial, ⟨(Nat.le_of_ble_eq_true rfl), zq101 zn (d + 0) a1 ha1l ha1h, (Nat.le_of_ble_eq_true rfl), (Nat.le_of_ble_eq_true rfl), (Nat.le_of_ble_eq_true rfl), (Nat.le_of_ble_eq_true rfl), (Nat.le_of_ble_eq_true rfl)⟩, zbf (by decide +kernel), trivial, trivial⟩
  · exact zfin_i rfl rfl rfl
set_option maxRecDepth 100000 in
set_option maxHeartbeats 4000000 in
theorem zq103 (zn : Bool) (d : Nat) (a1 : Int32) (ha1l : 2 ≤ a1.toInt) (ha1h : a1.toInt ≤ 2147483647) : z_sem zn (d + 1) 180 [.ref 0, .int a1] zh40 (some (.int (Int32.ofInt (-1)))) zh40 := by
  refine ⟨zu_X11_text, Nat.le_of_ble_eq_true rfl, Nat.le_of_ble_eq_true rfl, [zo, zt, zo, zo, zt, zo], _, _, rfl, ?_, ?_⟩
  · exact ⟨trivial, zT_ne (q := 0) rfl (by decide +kernel) (by omega), trivial, trivial, zT_ne (q := 1) rfl (by decide +kernel) (by omega), trivial, trivial⟩
  · exact zfin_i rfl rfl rfl
set_option maxRecDepth 100000 in
set_option maxHeartbeats 4000000 in
theorem zq104 (zn : Bool) (d : Nat) (a1 : Int32) (ha1l : 2 ≤ a1.toInt) (ha1h : a1.toInt ≤ 2147483647) : z_sem zn (d + 2) 288 [.ref 79, .int a1] zh40 (some (.int (Int32.ofInt (-1)))) zh42 := by
  refine ⟨zu_X12_text, Nat.le_of_ble_eq_true rfl, Nat.le_of_ble_eq_true rfl, [zo, zo, zo, zo, zo, zo, zo, zc (some (.int (Int32.ofInt 0))) zh42, zt, zo], _, _, rfl, ?_, ?_⟩
  · exact ⟨trivial, trivial, ⟨(Nat.le_of_ble_eq_true rfl), rfl, rfl⟩, trivial, trivial, trivial, trivial, ⟨(Nat.le_of_ble_eq_true rfl), zq51 zn (d + 0) a1 ha1l ha1h, (Nat.le_of_ble_eq_true rfl), (Nat.le_of_ble_eq_true rfl), (Nat.le_of_ble_eq_true rfl), (Nat.le_of_ble_eq_true rfl), (Nat.le_of_ble_eq_true rfl)⟩, zbt (by decide +kernel), trivial, trivial⟩
  · exact zfin_i rfl rfl rfl
set_option maxRecDepth 100000 in
set_option maxHeartbeats 4000000 in
theorem zq105 (zn : Bool) (d : Nat) (a1 : Int32) (ha1l : 1 ≤ a1.toInt) (ha1h : a1.toInt ≤ 1) : z_sem zn (d + 6) 180 [.ref 0, .int a1] zh40 (some (.int (Int32.ofInt (-1)))) zh53 := by
  refine ⟨zu_X11_text, Nat.le_of_ble_eq_true rfl, Nat.le_of_ble_eq_true rfl, [zo, zt, zo, zo, zo, zo, zo, zo, zo, zo, zo, zc (some (.int (Int32.ofInt 0))) zh53, zo, zt, zo], _, _, rfl, ?_, ?_⟩
  · exact ⟨trivial, zT_ne (q := 0) rfl (by decide +kernel) (by omega), trivial, trivial, zF_ne (q := 1) rfl (by decide +kernel) (by omega), trivial, (Nat.le_of_ble_eq_true rfl), trivial, zbf (by decide +kernel), trivial, (Nat.le_of_ble_eq_true rfl), ⟨⟨(Nat.le_of_ble_eq_true rfl), (Nat.le_of_ble_eq_true rfl)⟩, zq58 zn (d + 0), (Nat.le_of_ble_eq_true rfl), (Nat.le_of_ble_eq_true rfl), (Nat.le_of_ble_eq_true rfl), (Nat.le_of_ble_eq_true rfl), (Nat.le_of_ble_eq_true rfl)⟩, trivial, zbt (by decide +kernel), trivial, trivial⟩
  · exact zfin_i rfl rfl rfl
def zh106 : z_H := (107, 35862, va_up (zh60.2.2) 79 (.inr (12, [.int (Int32.ofInt 0), .ref 80, .ref 81, .ref 82, .ref 83, .ref 80, .int 0, .int 0, .int 0, .int 0, .int 0, .int 0, .int 0, .int 0, .int 0, .ref (z_RO + 5), .ref (z_RO + 3), .int 0, .ref 84, .ref 85, .ref 86, .ref 87, .ref 88, .ref 89, .ref 90, .ref 91, .int 0, .int 0, .int 0, .int 0, .int 0, .ref 92, .ref 93, .int (Int32.ofInt (-1)), .int 0, .ref 94, .ref 95, .int 0, .int 0, .int 0, .int 0, .int 0, .int 0, .ref 96, .ref 97, .ref 98, .ref 99, .ref 100, .int 0, .int 0, .long 0, .ref 101, .ref 102, .int 0, .ref 103, .ref 104, .ref 105, .int 0])))
set_option maxRecDepth 100000 in
set_option maxHeartbeats 4000000 in
theorem zq107 (zn : Bool) (d : Nat) (a1 : Int32) (ha1l : 1 ≤ a1.toInt) (ha1h : a1.toInt ≤ 1) : z_sem zn (d + 1) 236 [.long (a1.toInt64), .long (Int64.ofNat 0), .long (Int64.ofNat 1)] zh106 (some (.int (Int32.ofInt 1))) zh106 := by
  refine ⟨zu_X12_isIn, Nat.le_of_ble_eq_true rfl, Nat.le_of_ble_eq_true rfl, [zo, zo, zo, zo, zo, zo, zo, zo, zo, zo], _, _, rfl, ?_, ?_⟩
  · exact ⟨trivial, trivial, trivial, zbf (by rw [zc_gt (p := (a1).toInt) (q := 0) (by simp only [zi_64]) (by decide +kernel) (by omega)]; decide), trivial, trivial, trivial, zbf (by rw [zc_eq (p := (a1).toInt) (q := 1) (by simp only [zi_64]) (by decide +kernel) (by omega)]; decide), trivial, trivial, trivial⟩
  · exact zfin_i rfl rfl rfl
def zh108 : z_H := (107, 35862, va_up (va_up (va_up (va_up (va_up (zh106.2.2) 79 (.inr (12, [.int (Int32.ofInt 0), .ref 80, .ref 81, .ref 82, .ref 83, .ref 80, .int 0, .int 0, .int 0, .int 0, .int 0, .int 0, .int 0, .int 0, .int 0, .ref (z_RO + 5), .ref (z_RO + 3), .int 0, .ref 84, .ref 85, .ref 86, .ref 87, .ref 88, .ref 89, .ref 90, .ref 91, .int 0, .int 0, .int 0, .int 0, .int 0, .ref 92, .ref 93, .int (Int32.ofInt (-1)), .int 0, .ref 94, .ref 95, .int 0, .int 0, .int 0, .int 0, .int 0, .int 0, .ref 96, .ref 97, .ref 98, .ref 99, .ref 100, .int 0, .int 0, .long 0, .ref 101, .ref 102, .int 0, .ref 103, .ref 104, .ref 105, .int 0]))) 79 (.inr (12, [.int (Int32.ofInt 0), .ref 80, .ref 81, .ref 82, .ref 83, .ref 80, .int 0, .int 0, .int (Int32.ofInt 0), .int 0, .int 0, .int 0, .int 0, .int 0, .int 0, .ref (z_RO + 5), .ref (z_RO + 3), .int 0, .ref 84, .ref 85, .ref 86, .ref 87, .ref 88, .ref 89, .ref 90, .ref 91, .int 0, .int 0, .int 0, .int 0, .int 0, .ref 92, .ref 93, .int (Int32.ofInt (-1)), .int 0, .ref 94, .ref 95, .int 0, .int 0, .int 0, .int 0, .int 0, .int 0, .ref 96, .ref 97, .ref 98, .ref 99, .ref 100, .int 0, .int 0, .long 0, .ref 101, .ref 102, .int 0, .ref 103, .ref 104, .ref 105, .int 0]))) 79 (.inr (12, [.int (Int32.ofInt 0), .ref 80, .ref 81, .ref 82, .ref 83, .ref 80, .int 0, .int 0, .int (Int32.ofInt 0), .int 0, .int 0, .int 0, .int 0, .int 0, .int 0, .ref (z_RO + 5), .ref (z_RO + 3), .int 0, .ref 84, .ref 85, .ref 86, .ref 87, .ref 88, .ref 89, .ref 90, .ref 91, .int 0, .int 0, .int 0, .int 0, .int 0, .ref 92, .ref 93, .int (Int32.ofInt (-1)), .int 0, .ref 94, .ref 95, .int 0, .int 0, .int 0, .int 0, .int 0, .int 0, .ref 96, .ref 97, .ref 98, .ref 99, .ref 100, .int 0, .int 0, .long 0, .ref 101, .ref 102, .int 0, .ref 103, .ref 104, .ref 105, .int 0]))) 79 (.inr (12, [.int (Int32.ofInt 0), .ref 80, .ref 81, .ref 82, .ref 83, .ref 80, .int 0, .int 0, .int (Int32.ofInt 0), .int 0, .int (Int32.ofInt 0), .int 0, .int 0, .int 0, .int 0, .ref (z_RO + 5), .ref (z_RO + 3), .int 0, .ref 84, .ref 85, .ref 86, .ref 87, .ref 88, .ref 89, .ref 90, .ref 91, .int 0, .int 0, .int 0, .int 0, .int 0, .ref 92, .ref 93, .int (Int32.ofInt (-1)), .int 0, .ref 94, .ref 95, .int 0, .int 0, .int 0, .int 0, .int 0, .int 0, .ref 96, .ref 97, .ref 98, .ref 99, .ref 100, .int 0, .int 0, .long 0, .ref 101, .ref 102, .int 0, .ref 103, .ref 104, .ref 105, .int 0]))) 79 (.inr (12, [.int (Int32.ofInt 0), .ref 80, .ref 81, .ref 82, .ref 83, .ref 80, .int 0, .int 0, .int (Int32.ofInt 0), .int 0, .int (Int32.ofInt 0), .int (Int32.ofInt (-1)), .int 0, .int 0, .int 0, .ref (z_RO + 5), .ref (z_RO + 3), .int 0, .ref 84, .ref 85, .ref 86, .ref 87, .ref 88, .ref 89, .ref 90, .ref 91, .int 0, .int 0, .int 0, .int 0, .int 0, .ref 92, .ref 93, .int (Int32.ofInt (-1)), .int 0, .ref 94, .ref 95, .int 0, .int 0, .int 0, .int 0, .int 0, .int 0, .ref 96, .ref 97, .ref 98, .ref 99, .ref 100, .int 0, .int 0, .long 0, .ref 101, .ref 102, .int 0, .ref 103, .ref 104, .ref 105, .int 0])))
set_option maxRecDepth 100000 in
set_option maxHeartbeats 4000000 in
theorem zq109 (zn : Bool) (d : Nat) : z_sem zn (d + 1) 280 [.ref 79, .ref 80, .int (Int32.ofInt 0), .int 0] zh106 none zh108 := by
  refine ⟨zu_X12_starts, Nat.le_of_ble_eq_true rfl, Nat.le_of_ble_eq_true rfl, [zo, zo, zo, zo, zo, zo, zo, zo, zo, zo, zo, zo, zo, zo, zo], _, _, rfl, ?_, ?_⟩
  · exact ⟨trivial, trivial, ⟨(Nat.le_of_ble_eq_true rfl), rfl, rfl⟩, trivial, trivial, ⟨(Nat.le_of_ble_eq_true rfl), rfl, rfl⟩, trivial, trivial, ⟨(Nat.le_of_ble_eq_true rfl), rfl, rfl⟩, trivial, trivial, ⟨(Nat.le_of_ble_eq_true rfl), rfl, rfl⟩, trivial, trivial, ⟨(Nat.le_of_ble_eq_true rfl), rfl, rfl⟩, trivial⟩
  · exact zfin_v rfl rfl
def zh110 : z_H := (107, 35862, va_up (va_up (va_up (va_up (zh108.2.2) 79 (.inr (12, [.int (Int32.ofInt 0), .ref 80, .ref 81, .ref 82, .ref 83, .ref 80, .int 0, .int 0, .int (Int32.ofInt 0), .int 0, .int (Int32.ofInt 0), .int (Int32.ofInt (-1)), .int 0, .int ((Int8.ofInt 121).toInt32), .int 0, .ref (z_RO + 5), .ref (z_RO + 3), .int 0, .ref 84, .ref 85, .ref 86, .ref 87, .ref 88, .ref 89, .ref 90, .ref 91, .int 0, .int 0, .int 0, .int 0, .int 0, .ref 92, .ref 93, .int (Int32.ofInt (-1)), .int 0, .ref 94, .ref 95, .int 0, .int 0, .int 0, .int 0, .int 0, .int 0, .ref 96, .ref 97, .ref 98, .ref 99, .ref 100, .int 0, .int 0, .long 0, .ref 101, .ref 102, .int 0, .ref 103, .ref 104, .ref 105, .int 0]))) 79 (.inr (12, [.int (Int32.ofInt 0), .ref 80, .ref 81, .ref 82, .ref 83, .ref 80, .int 0, .int 0, .int (Int32.ofInt 0), .int 0, .int (Int32.ofInt 0), .int (Int32.ofInt (-1)), .int (Int32.ofInt 0), .int ((Int8.ofInt 121).toInt32), .int 0, .ref (z_RO + 5), .ref (z_RO + 3), .int 0, .ref 84, .ref 85, .ref 86, .ref 87, .ref 88, .ref 89, .ref 90, .ref 91, .int 0, .int 0, .int 0, .int 0, .int 0, .ref 92, .ref 93, .int (Int32.ofInt (-1)), .int 0, .ref 94, .ref 95, .int 0, .int 0, .int 0, .int 0, .int 0, .int 0, .ref 96, .ref 97, .ref 98, .ref 99, .ref 100, .int 0, .int 0, .long 0, .ref 101, .ref 102, .int 0, .ref 103, .ref 104, .ref 105, .int 0]))) 79 (.inr (12, [.int (Int32.ofInt 0), .ref 80, .ref 81, .ref 82, .ref 83, .ref 80, .int 0, .int 0, .int (Int32.ofInt 0), .int 0, .int (Int32.ofInt 0), .int (Int32.ofInt (-1)), .int (Int32.ofInt 0), .int ((Int8.ofInt 121).toInt32), .int 0, .ref (z_RO + 5), .ref (z_RO + 3), .int (Int32.ofInt 0), .ref 84, .ref 85, .ref 86, .ref 87, .ref 88, .ref 89, .ref 90, .ref 91, .int 0, .int 0, .int 0, .int 0, .int 0, .ref 92, .ref 93, .int (Int32.ofInt (-1)), .int 0, .ref 94, .ref 95, .int 0, .int 0, .int 0, .int 0, .int 0, .int 0, .ref 96, .ref 97, .ref 98, .ref 99, .ref 100, .int 0, .int 0, .long 0, .ref 101, .ref 102, .int 0, .ref 103, .ref 104, .ref 105, .int 0]))) 79 (.inr (12, [.int (Int32.ofInt 0), .ref 80, .ref 81, .ref 82, .ref 83, .ref 80, .int 0, .int 0, .int (Int32.ofInt 0), .int 0, .int (Int32.ofInt 0), .int (Int32.ofInt (-1)), .int (Int32.ofInt 0), .int ((Int8.ofInt 121).toInt32), .int (Int32.ofInt 0), .ref (z_RO + 5), .ref (z_RO + 3), .int (Int32.ofInt 0), .ref 84, .ref 85, .ref 86, .ref 87, .ref 88, .ref 89, .ref 90, .ref 91, .int 0, .int 0, .int 0, .int 0, .int 0, .ref 92, .ref 93, .int (Int32.ofInt (-1)), .int 0, .ref 94, .ref 95, .int 0, .int 0, .int 0, .int 0, .int 0, .int 0, .ref 96, .ref 97, .ref 98, .ref 99, .ref 100, .int 0, .int 0, .long 0, .ref 101, .ref 102, .int 0, .ref 103, .ref 104, .ref 105, .int 0])))
set_option maxRecDepth 100000 in
set_option maxHeartbeats 4000000 in
theorem zq111 (zn : Bool) (d : Nat) : z_sem zn (d + 1) 253 [.ref 79] zh110 (some (.int (Int32.ofInt (-1)))) zh110 := by
  refine ⟨zu_X12_look, Nat.le_of_ble_eq_true rfl, Nat.le_of_ble_eq_true rfl, [zo, zo, zo, zo, zt, zo, zo, zo, zo, zt, zo], _, _, rfl, ?_, ?_⟩
  · exact ⟨trivial, (Nat.le_of_ble_eq_true rfl), trivial, (Nat.le_of_ble_eq_true rfl), zbt (by decide +kernel), trivial, (Nat.le_of_ble_eq_true rfl), trivial, (Nat.le_of_ble_eq_true rfl), zbt (by decide +kernel), trivial, trivial⟩
  · exact zfin_i rfl rfl rfl
set_option maxRecDepth 100000 in
set_option maxHeartbeats 4000000 in
theorem zq112 (zn : Bool) (d : Nat) : z_sem zn (d + 1) 5 [.ref (z_RO + 5)] zh110 (some (.int 0)) zh110 := by
  refine ⟨zu_J0_coder_7d493, Nat.le_of_ble_eq_true rfl, Nat.le_of_ble_eq_true rfl, [zo, zo, zo, zo, zo], _, _, rfl, ?_, ?_⟩
  · exact ⟨trivial, zbf (by decide +kernel), trivial, trivial, trivial, trivial⟩
  · exact zfin_i rfl rfl rfl
set_option maxRecDepth 100000 in
set_option maxHeartbeats 4000000 in
theorem zq113 (zn : Bool) (d : Nat) : z_sem zn (d + 2) 9 [.ref (z_RO + 5)] zh110 (some (.int ((Int32.ofNat 1) >>> (0 &&& 31)))) zh110 := by
  refine ⟨zu_J0_length_8abf5, Nat.le_of_ble_eq_true rfl, Nat.le_of_ble_eq_true rfl, [zo, zo, zo, zo, zc (some (.int 0)) zh110, zo], _, _, rfl, ?_, ?_⟩
  · exact ⟨trivial, trivial, trivial, trivial, ⟨(Nat.le_of_ble_eq_true rfl), zq112 zn (d + 0), (Nat.le_of_ble_eq_true rfl), (Nat.le_of_ble_eq_true rfl), (Nat.le_of_ble_eq_true rfl), (Nat.le_of_ble_eq_true rfl), (Nat.le_of_ble_eq_true rfl)⟩, trivial, trivial⟩
  · exact zfin_i rfl rfl rfl
set_option maxRecDepth 100000 in
set_option maxHeartbeats 4000000 in
theorem zq114 (zn : Bool) (d : Nat) : z_sem zn (d + 1) 8 [.ref (z_RO + 5)] zh110 (some (.int (Int32.ofInt 1))) zh110 := by
  refine ⟨zu_J0_isLatin1_aae02, Nat.le_of_ble_eq_true rfl, Nat.le_of_ble_eq_true rfl, [zo, zo, zo, zo, zo, zo, zo], _, _, rfl, ?_, ?_⟩
  · exact ⟨trivial, zbf (by decide +kernel), trivial, trivial, zbf (by decide +kernel), trivial, trivial, trivial⟩
  · exact zfin_i rfl rfl rfl
set_option maxRecDepth 100000 in
set_option maxHeartbeats 4000000 in
theorem zq115 (zn : Bool) (d : Nat) : z_sem zn (d + 1) 24 [.int (Int32.ofInt 0), .int (Int32.ofNat 1), (bif zn then .null else .ref (z_RO + 400))] zh110 (some (.int (Int32.ofInt 0))) zh110 := by
  refine ⟨zu_J3_checkIndex_8e157, Nat.le_of_ble_eq_true rfl, (by cases zn <;> exact Nat.le_of_ble_eq_true rfl), [zo, zo, zo, zo, zt, zo], _, _, rfl, ?_, ?_⟩
  · exact ⟨trivial, zbf (by decide +kernel), trivial, trivial, zbt (by decide +kernel), trivial, trivial⟩
  · exact zfin_i rfl rfl rfl
set_option maxRecDepth 100000 in
set_option maxHeartbeats 4000000 in
theorem zq116 (zn : Bool) (d : Nat) : z_sem zn (d + 2) 4 [.int (Int32.ofInt 0), .int (Int32.ofNat 1)] zh110 none zh110 := by
  refine ⟨zu_J0_checkIndex_df160, Nat.le_of_ble_eq_true rfl, Nat.le_of_ble_eq_true rfl, [zo, zo, zo, zc (some (.int (Int32.ofInt 0))) zh110, zo], _, _, rfl, ?_, ?_⟩
  · exact ⟨trivial, trivial, trivial, ⟨(Nat.le_of_ble_eq_true rfl), zq115 zn (d + 0), (Nat.le_of_ble_eq_true rfl), (Nat.le_of_ble_eq_true rfl), (Nat.le_of_ble_eq_true rfl), (Nat.le_of_ble_eq_true rfl), (Nat.le_of_ble_eq_true rfl)⟩, trivial, trivial⟩
  · exact zfin_v rfl rfl
set_option maxRecDepth 100000 in
set_option maxHeartbeats 4000000 in
theorem zq117 (zn : Bool) (d : Nat) : z_sem zn (d + 3) 11 [.ref ((z_RO + 5) + 100), .int (Int32.ofInt 0)] zh110 (some (.int (((121 &&& ((Int16.ofInt 255).toInt32)).toUInt32 % 65536).toInt32))) zh110 := by
  refine ⟨zu_J1_charAt_3b067, Nat.le_of_ble_eq_true rfl, Nat.le_of_ble_eq_true rfl, [zo, zo, zo, zc (none) zh110, zo, zo, zo, zo, zo, zo], _, _, rfl, ?_, ?_⟩
  · exact ⟨trivial, trivial, trivial, ⟨(Nat.le_of_ble_eq_true rfl), zq116 zn (d + 0), (Nat.le_of_ble_eq_true rfl), (Nat.le_of_ble_eq_true rfl), (Nat.le_of_ble_eq_true rfl), (Nat.le_of_ble_eq_true rfl), (Nat.le_of_ble_eq_true rfl)⟩, trivial, trivial, (zvin (by decide +kernel)), trivial, trivial, trivial, trivial⟩
  · exact zfin_i rfl rfl rfl
set_option maxRecDepth 100000 in
set_option maxHeartbeats 4000000 in
theorem zq118 (zn : Bool) (d : Nat) : z_sem zn (d + 4) 2 [.ref (z_RO + 5), .int (Int32.ofInt 0)] zh110 (some (.int (((121 &&& ((Int16.ofInt 255).toInt32)).toUInt32 % 65536).toInt32))) zh110 := by
  refine ⟨zu_J0_charAt_5068e, Nat.le_of_ble_eq_true rfl, Nat.le_of_ble_eq_true rfl, [zo, zc (some (.int (Int32.ofInt 1))) zh110, zo, zo, zo, zo, zc (some (.int (((121 &&& ((Int16.ofInt 255).toInt32)).toUInt32 % 65536).toInt32))) zh110], _, _, rfl, ?_, ?_⟩
  · exact ⟨trivial, ⟨(Nat.le_of_ble_eq_true rfl), zq114 zn (d + 2), (Nat.le_of_ble_eq_true rfl), (Nat.le_of_ble_eq_true rfl), (Nat.le_of_ble_eq_true rfl), (Nat.le_of_ble_eq_true rfl), (Nat.le_of_ble_eq_true rfl)⟩, zbf (by decide +kernel), trivial, trivial, trivial, ⟨(Nat.le_of_ble_eq_true rfl), zq117 zn (d + 0), (Nat.le_of_ble_eq_true rfl), (Nat.le_of_ble_eq_true rfl), (Nat.le_of_ble_eq_true rfl), (Nat.le_of_ble_eq_true rfl), (Nat.le_of_ble_eq_true rfl)⟩, trivial⟩
  · exact zfin_i rfl rfl rfl
set_option maxRecDepth 100000 in
set_option maxHeartbeats 4000000 in
theorem zq119 (zn : Bool) (d : Nat) : z_sem zn (d + 5) 231 [.ref (z_RO + 5), .int (Int32.ofInt (-1))] zh110 (some (.int (Int32.ofInt 0))) zh110 := by
  refine ⟨zu_X12_isAmong, Nat.le_of_ble_eq_true rfl, Nat.le_of_ble_eq_true rfl, [zo, zo, zo, zo, zc (some (.int ((Int32.ofNat 1) >>> (0 &&& 31)))) zh110, zo, zo, zo, zc (some (.int (((121 &&& ((Int16.ofInt 255).toInt32)).toUInt32 % 65536).toInt32))) zh110, zo, zt, zo, zo, zo, zo, zc (some (.int ((Int32.ofNat 1) >>> (0 &&& 31)))) zh110, zt, zo], _, _, rfl, ?_, ?_⟩
  · exact ⟨trivial, trivial, trivial, trivial, ⟨(Nat.le_of_ble_eq_true rfl), zq113 zn (d + 2), (Nat.le_of_ble_eq_true rfl), (Nat.le_of_ble_eq_true rfl), (Nat.le_of_ble_eq_true rfl), (Nat.le_of_ble_eq_true rfl), (Nat.le_of_ble_eq_true rfl)⟩, zbf (by decide +kernel), trivial, trivial, ⟨(Nat.le_of_ble_eq_true rfl), zq118 zn (d + 0), (Nat.le_of_ble_eq_true rfl), (Nat.le_of_ble_eq_true rfl), (Nat.le_of_ble_eq_true rfl), (Nat.le_of_ble_eq_true rfl), (Nat.le_of_ble_eq_true rfl)⟩, trivial, zbt (by decide +kernel), trivial, trivial, trivial, trivial, ⟨(Nat.le_of_ble_eq_true rfl), zq113 zn (d + 2), (Nat.le_of_ble_eq_true rfl), (Nat.le_of_ble_eq_true rfl), (Nat.le_of_ble_eq_true rfl), (Nat.le_of_ble_eq_true rfl), (Nat.le_of_ble_eq_true rfl)⟩, zbt (by decide +kernel), trivial, trivial⟩
  · exact zfin_i rfl rfl rfl
def zh120 : z_H := (107, 35862, va_up (zh110.2.2) 79 (.inr (12, [.int (Int32.ofInt 0), .ref 80, .ref 81, .ref 82, .ref 83, .ref 80, .int 0, .int 0, .int (Int32.ofInt 0), .int 0, .int (Int32.ofInt 0), .int (Int32.ofInt 0), .int (Int32.ofInt 0), .int ((Int8.ofInt 121).toInt32), .int (Int32.ofInt 0), .ref (z_RO + 5), .ref (z_RO + 3), .int (Int32.ofInt 0), .ref 84, .ref 85, .ref 86, .ref 87, .ref 88, .ref 89, .ref 90, .ref 91, .int 0, .int 0, .int 0, .int 0, .int 0, .ref 92, .ref 93, .int (Int32.ofInt (-1)), .int 0, .ref 94, .ref 95, .int 0, .int 0, .int 0, .int 0, .int 0, .int 0, .ref 96, .ref 97, .ref 98, .ref 99, .ref 100, .int 0, .int 0, .long 0, .ref 101, .ref 102, .int 0, .ref 103, .ref 104, .ref 105, .int 0])))
set_option maxRecDepth 100000 in
set_option maxHeartbeats 4000000 in
theorem zq121 (zn : Bool) (d : Nat) : z_sem zn (d + 1) 210 [.ref 79] zh110 (some (.int (Int32.ofInt 0))) zh120 := by
  refine ⟨zu_X12_fails, Nat.le_of_ble_eq_true rfl, Nat.le_of_ble_eq_true rfl, [zo, zo, zo, zo, zo, zo, zo, zo, zo], _, _, rfl, ?_, ?_⟩
  · exact ⟨trivial, (Nat.le_of_ble_eq_true rfl), trivial, zbf (by decide +kernel), trivial, trivial, (Nat.le_of_ble_eq_true rfl), ⟨(Nat.le_of_ble_eq_true rfl), rfl, rfl⟩, trivial, trivial⟩
  · exact zfin_i rfl rfl rfl
set_option maxRecDepth 100000 in
set_option maxHeartbeats 4000000 in
theorem zq122 (zn : Bool) (d : Nat) : z_sem zn (d + 6) 195 [.ref 79] zh110 none zh120 := by
  refine ⟨zu_X12_clause, Nat.le_of_ble_eq_true rfl, Nat.le_of_ble_eq_true rfl, [zo, zc (some (.int (Int32.ofInt (-1)))) zh110, zo, zo, zo, zc (some (.int (Int32.ofInt 0))) zh110, zo, zo, zc (some (.int (Int32.ofInt 0))) zh120, zo], _, _, rfl, ?_, ?_⟩
  · exact ⟨trivial, ⟨⟨(Nat.le_of_ble_eq_true rfl), (Nat.le_of_ble_eq_true rfl)⟩, zq111 zn (d + 4), (Nat.le_of_ble_eq_true rfl), (Nat.le_of_ble_eq_true rfl), (Nat.le_of_ble_eq_true rfl), (Nat.le_of_ble_eq_true rfl), (Nat.le_of_ble_eq_true rfl)⟩, trivial, trivial, trivial, ⟨(Nat.le_of_ble_eq_true rfl), zq119 zn (d + 0), (Nat.le_of_ble_eq_true rfl), (Nat.le_of_ble_eq_true rfl), (Nat.le_of_ble_eq_true rfl), (Nat.le_of_ble_eq_true rfl), (Nat.le_of_ble_eq_true rfl)⟩, zbf (by decide +kernel), trivial, ⟨⟨(Nat.le_of_ble_eq_true rfl), (Nat.le_of_ble_eq_true rfl)⟩, zq121 zn (d + 4), (Nat.le_of_ble_eq_true rfl), (Nat.le_of_ble_eq_true rfl), (Nat.le_of_ble_eq_true rfl), (Nat.le_of_ble_eq_true rfl), (Nat.le_of_ble_eq_true rfl)⟩, trivial, trivial⟩
  · exact zfin_v rfl rfl
set_option maxRecDepth 100000 in
set_option maxHeartbeats 4000000 in
theorem zq123 (zn : Bool) (d : Nat) : z_sem zn (d + 7) 220 [.ref 79, .ref 80, .int (Int32.ofInt 0), .int 0] zh106 none zh120 := by
  refine ⟨zu_X12_goThrough, Nat.le_of_ble_eq_true rfl, Nat.le_of_ble_eq_true rfl, [zo, zo, zo, zo, zc (none) zh108, zo, zo, zo, zo, zo, zo, zo, zo, zo, zo, zo, zo, zo, zc (none) zh120, zo, zo, zo, zt, zo, zo, zo, zt], _, _, rfl, ?_, ?_⟩
  · exact ⟨trivial, trivial, trivial, trivial, ⟨⟨(Nat.le_of_ble_eq_true rfl), (Nat.le_of_ble_eq_true rfl)⟩, zq109 zn (d + 5), (Nat.le_of_ble_eq_true rfl), (Nat.le_of_ble_eq_true rfl), (Nat.le_of_ble_eq_true rfl), (Nat.le_of_ble_eq_true rfl), (Nat.le_of_ble_eq_true rfl)⟩, trivial, trivial, ⟨(Nat.le_of_ble_eq_true rfl), rfl, rfl⟩, trivial, trivial, ⟨(Nat.le_of_ble_eq_true rfl), rfl, rfl⟩, trivial, trivial, ⟨(Nat.le_of_ble_eq_true rfl), rfl, rfl⟩, trivial, trivial, ⟨(Nat.le_of_ble_eq_true rfl), rfl, rfl⟩, trivial, ⟨⟨(Nat.le_of_ble_eq_true rfl), (Nat.le_of_ble_eq_true rfl)⟩, zq122 zn (d + 0), (Nat.le_of_ble_eq_true rfl), (Nat.le_of_ble_eq_true rfl), (Nat.le_of_ble_eq_true rfl), (Nat.le_of_ble_eq_true rfl), (Nat.le_of_ble_eq_true rfl)⟩, trivial, (Nat.le_of_ble_eq_true rfl), trivial, zbt (by decide +kernel), trivial, (Nat.le_of_ble_eq_true rfl), trivial, zbt (by decide +kernel), trivial⟩
  · exact zfin_v rfl rfl
set_option maxRecDepth 100000 in
set_option maxHeartbeats 4000000 in
theorem zq124 (zn : Bool) (d : Nat) (a1 : Int32) (ha1l : 1 ≤ a1.toInt) (ha1h : a1.toInt ≤ 1) : z_sem zn (d + 8) 211 [.ref 79, .int a1] zh60 (some (.int (Int32.ofInt 0))) zh120 := by
  refine ⟨zu_X12_fault, Nat.le_of_ble_eq_true rfl, Nat.le_of_ble_eq_true rfl, [zo, zo, zo, zo, zo, zo, zo, zc (some (.int (Int32.ofInt 1))) zh106, zt, zo, zt, zo, zo, zo, zo, zo, zo, zc (none) zh120, zo, zo], _, _, rfl, ?_, ?_⟩
  · exact ⟨trivial, trivial, ⟨(Nat.le_of_ble_eq_true rfl), rfl, rfl⟩, trivial, trivial, trivial, trivial, ⟨(Nat.le_of_ble_eq_true rfl), zq107 zn (d + 6) a1 ha1l ha1h, (Nat.le_of_ble_eq_true rfl), (Nat.le_of_ble_eq_true rfl), (Nat.le_of_ble_eq_true rfl), (Nat.le_of_ble_eq_true rfl), (Nat.le_of_ble_eq_true rfl)⟩, zbt (by decide +kernel), trivial, zT_ne (q := 0) rfl (by decide +kernel) (by omega), trivial, trivial, (Nat.le_of_ble_eq_true rfl), trivial, trivial, (Nat.le_of_ble_eq_true rfl), ⟨⟨(Nat.le_of_ble_eq_true rfl), (Nat.le_of_ble_eq_true rfl)⟩, zq123 zn (d + 0), (Nat.le_of_ble_eq_true rfl), (Nat.le_of_ble_eq_true rfl), (Nat.le_of_ble_eq_true rfl), (Nat.le_of_ble_eq_true rfl), (Nat.le_of_ble_eq_true rfl)⟩, trivial, (Nat.le_of_ble_eq_true rfl), trivial⟩
  · exact zfin_i rfl rfl rfl
set_option maxRecDepth 100000 in
set_option maxHeartbeats 4000000 in
theorem zq125 (zn : Bool) (d : Nat) (a1 : Int32) (ha1l : 1 ≤ a1.toInt) (ha1h : a1.toInt ≤ 1) : z_sem zn (d + 9) 288 [.ref 79, .int a1] zh53 (some (.int (Int32.ofInt (-1)))) zh120 := by
  refine ⟨zu_X12_text, Nat.le_of_ble_eq_true rfl, Nat.le_of_ble_eq_true rfl, [zo, zo, zo, zo, zo, zo, zo, zc (some (.int (Int32.ofInt 1))) zh60, zo, zo, zo, zo, zo, zo, zo, zo, zo, zo, zc (some (.int (Int32.ofInt 0))) zh120, zo, zo, zo], _, _, rfl, ?_, ?_⟩
  · exact ⟨trivial, trivial, ⟨(Nat.le_of_ble_eq_true rfl), rfl, rfl⟩, trivial, trivial, trivial, trivial, ⟨(Nat.le_of_ble_eq_true rfl), zq61 zn (d + 7) a1 ha1l ha1h, (Nat.le_of_ble_eq_true rfl), (Nat.le_of_ble_eq_true rfl), (Nat.le_of_ble_eq_true rfl), (Nat.le_of_ble_eq_true rfl), (Nat.le_of_ble_eq_true rfl)⟩, zbf (by decide +kernel), trivial, trivial, zF_ne (q := 1) rfl (by decide +kernel) (by omega), trivial, (Nat.le_of_ble_eq_true rfl), trivial, zbf (by decide +kernel), trivial, trivial, ⟨⟨(Nat.le_of_ble_eq_true rfl), (Nat.le_of_ble_eq_true rfl)⟩, zq124 zn (d + 0) a1 ha1l ha1h, (Nat.le_of_ble_eq_true rfl), (Nat.le_of_ble_eq_true rfl), (Nat.le_of_ble_eq_true rfl), (Nat.le_of_ble_eq_true rfl), (Nat.le_of_ble_eq_true rfl)⟩, trivial, zbf (by decide +kernel), trivial, trivial⟩
  · exact zfin_i rfl rfl rfl
set_option maxRecDepth 100000 in
set_option maxHeartbeats 4000000 in
theorem zq126 (zn : Bool) (d : Nat) (a1 : Int32) (ha1l : 0 ≤ a1.toInt) (ha1h : a1.toInt ≤ 0) : z_sem zn (d + 6) 180 [.ref 0, .int a1] zh40 (some (.int (Int32.ofInt (-1)))) zh80 := by
  refine ⟨zu_X11_text, Nat.le_of_ble_eq_true rfl, Nat.le_of_ble_eq_true rfl, [zo, zo, zo, zo, zc (some (.int (Int32.ofInt 0))) zh80, zo, zt, zo], _, _, rfl, ?_, ?_⟩
  · exact ⟨trivial, zF_ne (q := 0) rfl (by decide +kernel) (by omega), trivial, (Nat.le_of_ble_eq_true rfl), ⟨⟨(Nat.le_of_ble_eq_true rfl), (Nat.le_of_ble_eq_true rfl)⟩, zq87 zn (d + 0), (Nat.le_of_ble_eq_true rfl), (Nat.le_of_ble_eq_true rfl), (Nat.le_of_ble_eq_true rfl), (Nat.le_of_ble_eq_true rfl), (Nat.le_of_ble_eq_true rfl)⟩, trivial, zbt (by decide +kernel), trivial, trivial⟩
  · exact zfin_i rfl rfl rfl
def zh127 : z_H := (107, 35862, va_up (zh89.2.2) 79 (.inr (12, [.int (Int32.ofInt 0), .ref 80, .ref 81, .ref 82, .ref 83, .ref 80, .int 0, .int 0, .int 0, .int 0, .int 0, .int 0, .int 0, .int 0, .int 0, .ref (z_RO + 5), .ref (z_RO + 3), .int 0, .ref 84, .ref 85, .ref 86, .ref 87, .ref 88, .ref 89, .ref 90, .ref 91, .int 0, .int 0, .int 0, .int 0, .int 0, .ref 92, .ref 93, .int (Int32.ofInt (-1)), .int 0, .ref 94, .ref 95, .int 0, .int 0, .int 0, .int 0, .int 0, .int 0, .ref 96, .ref 97, .ref 98, .ref 99, .ref 100, .int 0, .int 0, .long 0, .ref 101, .ref 102, .int 0, .ref 103, .ref 104, .ref 105, .int 0])))
set_option maxRecDepth 100000 in
set_option maxHeartbeats 4000000 in
theorem zq128 (zn : Bool) (d : Nat) (a1 : Int32) (ha1l : 0 ≤ a1.toInt) (ha1h : a1.toInt ≤ 0) : z_sem zn (d + 1) 236 [.long (a1.toInt64), .long (Int64.ofNat 0), .long (Int64.ofNat 1)] zh127 (some (.int (Int32.ofInt 1))) zh127 := by
  refine ⟨zu_X12_isIn, Nat.le_of_ble_eq_true rfl, Nat.le_of_ble_eq_true rfl, [zo, zo, zo, zo, zo, zo, zo, zo, zo, zo], _, _, rfl, ?_, ?_⟩
  · exact ⟨trivial, trivial, trivial, zbf (by rw [zc_eq (p := (a1).toInt) (q := 0) (by simp only [zi_64]) (by decide +kernel) (by omega)]; decide), trivial, trivial, trivial, zbf (by rw [zc_lt (p := (a1).toInt) (q := 1) (by simp only [zi_64]) (by decide +kernel) (by omega)]; decide), trivial, trivial, trivial⟩
  · exact zfin_i rfl rfl rfl
def zh129 : z_H := (107, 35862, va_up (va_up (va_up (va_up (va_up (zh127.2.2) 79 (.inr (12, [.int (Int32.ofInt 0), .ref 80, .ref 81, .ref 82, .ref 83, .ref 80, .int 0, .int 0, .int 0, .int 0, .int 0, .int 0, .int 0, .int 0, .int 0, .ref (z_RO + 5), .ref (z_RO + 3), .int 0, .ref 84, .ref 85, .ref 86, .ref 87, .ref 88, .ref 89, .ref 90, .ref 91, .int 0, .int 0, .int 0, .int 0, .int 0, .ref 92, .ref 93, .int (Int32.ofInt (-1)), .int 0, .ref 94, .ref 95, .int 0, .int 0, .int 0, .int 0, .int 0, .int 0, .ref 96, .ref 97, .ref 98, .ref 99, .ref 100, .int 0, .int 0, .long 0, .ref 101, .ref 102, .int 0, .ref 103, .ref 104, .ref 105, .int 0]))) 79 (.inr (12, [.int (Int32.ofInt 0), .ref 80, .ref 81, .ref 82, .ref 83, .ref 80, .int 0, .int 0, .int (Int32.ofInt 0), .int 0, .int 0, .int 0, .int 0, .int 0, .int 0, .ref (z_RO + 5), .ref (z_RO + 3), .int 0, .ref 84, .ref 85, .ref 86, .ref 87, .ref 88, .ref 89, .ref 90, .ref 91, .int 0, .int 0, .int 0, .int 0, .int 0, .ref 92, .ref 93, .int (Int32.ofInt (-1)), .int 0, .ref 94, .ref 95, .int 0, .int 0, .int 0, .int 0, .int 0, .int 0, .ref 96, .ref 97, .ref 98, .ref 99, .ref 100, .int 0, .int 0, .long 0, .ref 101, .ref 102, .int 0, .ref 103, .ref 104, .ref 105, .int 0]))) 79 (.inr (12, [.int (Int32.ofInt 0), .ref 80, .ref 81, .ref 82, .ref 83, .ref 80, .int 0, .int 0, .int (Int32.ofInt 0), .int 0, .int 0, .int 0, .int 0, .int 0, .int 0, .ref (z_RO + 5), .ref (z_RO + 3), .int 0, .ref 84, .ref 85, .ref 86, .ref 87, .ref 88, .ref 89, .ref 90, .ref 91, .int 0, .int 0, .int 0, .int 0, .int 0, .ref 92, .ref 93, .int (Int32.ofInt (-1)), .int 0, .ref 94, .ref 95, .int 0, .int 0, .int 0, .int 0, .int 0, .int 0, .ref 96, .ref 97, .ref 98, .ref 99, .ref 100, .int 0, .int 0, .long 0, .ref 101, .ref 102, .int 0, .ref 103, .ref 104, .ref 105, .int 0]))) 79 (.inr (12, [.int (Int32.ofInt 0), .ref 80, .ref 81, .ref 82, .ref 83, .ref 80, .int 0, .int 0, .int (Int32.ofInt 0), .int 0, .int (Int32.ofInt 0), .int 0, .int 0, .int 0, .int 0, .ref (z_RO + 5), .ref (z_RO + 3), .int 0, .ref 84, .ref 85, .ref 86, .ref 87, .ref 88, .ref 89, .ref 90, .ref 91, .int 0, .int 0, .int 0, .int 0, .int 0, .ref 92, .ref 93, .int (Int32.ofInt (-1)), .int 0, .ref 94, .ref 95, .int 0, .int 0, .int 0, .int 0, .int 0, .int 0, .ref 96, .ref 97, .ref 98, .ref 99, .ref 100, .int 0, .int 0, .long 0, .ref 101, .ref 102, .int 0, .ref 103, .ref 104, .ref 105, .int 0]))) 79 (.inr (12, [.int (Int32.ofInt 0), .ref 80, .ref 81, .ref 82, .ref 83, .ref 80, .int 0, .int 0, .int (Int32.ofInt 0), .int 0, .int (Int32.ofInt 0), .int (Int32.ofInt (-1)), .int 0, .int 0, .int 0, .ref (z_RO + 5), .ref (z_RO + 3), .int 0, .ref 84, .ref 85, .ref 86, .ref 87, .ref 88, .ref 89, .ref 90, .ref 91, .int 0, .int 0, .int 0, .int 0, .int 0, .ref 92, .ref 93, .int (Int32.ofInt (-1)), .int 0, .ref 94, .ref 95, .int 0, .int 0, .int 0, .int 0, .int 0, .int 0, .ref 96, .ref 97, .ref 98, .ref 99, .ref 100, .int 0, .int 0, .long 0, .ref 101, .ref 102, .int 0, .ref 103, .ref 104, .ref 105, .int 0])))
set_option maxRecDepth 100000 in
set_option maxHeartbeats 4000000 in
theorem zq130 (zn : Bool) (d : Nat) : z_sem zn (d + 1) 280 [.ref 79, .ref 80, .int (Int32.ofInt 0), .int 0] zh127 none zh129 := by
  refine ⟨zu_X12_starts, Nat.le_of_ble_eq_true rfl, Nat.le_of_ble_eq_true rfl, [zo, zo, zo, zo, zo, zo, zo, zo, zo, zo, zo, zo, zo, zo, zo], _, _, rfl, ?_, ?_⟩
  · exact ⟨trivial, trivial, ⟨(Nat.le_of_ble_eq_true rfl), rfl, rfl⟩, trivial, trivial, ⟨(Nat.le_of_ble_eq_true rfl), rfl, rfl⟩, trivial, trivial, ⟨(Nat.le_of_ble_eq_true rfl), rfl, rfl⟩, trivial, trivial, ⟨(Nat.le_of_ble_eq_true rfl), rfl, rfl⟩, trivial, trivial, ⟨(Nat.le_of_ble_eq_true rfl), rfl, rfl⟩, trivial⟩
  · exact zfin_v rfl rfl
def zh131 : z_H := (107, 35862, va_up (va_up (va_up (zh129.2.2) 79 (.inr (12, [.int (Int32.ofInt 0), .ref 80, .ref 81, .ref 82, .ref 83, .ref 80, .int 0, .int 0, .int (Int32.ofInt 0), .int 0, .int (Int32.ofInt 0), .int (Int32.ofInt (-1)), .int 0, .int 0, .int 0, .ref (z_RO + 5), .ref (z_RO + 3), .int 0, .ref 84, .ref 85, .ref 86, .ref 87, .ref 88, .ref 89, .ref 90, .ref 91, .int 0, .int 0, .int (Int32.ofInt 0), .int 0, .int 0, .ref 92, .ref 93, .int (Int32.ofInt (-1)), .int 0, .ref 94, .ref 95, .int 0, .int 0, .int 0, .int 0, .int 0, .int 0, .ref 96, .ref 97, .ref 98, .ref 99, .ref 100, .int 0, .int 0, .long 0, .ref 101, .ref 102, .int 0, .ref 103, .ref 104, .ref 105, .int 0]))) 79 (.inr (12, [.int (Int32.ofInt 0), .ref 80, .ref 81, .ref 82, .ref 83, .ref 80, .int 0, .int 0, .int (Int32.ofInt 0), .int 0, .int (Int32.ofInt 0), .int (Int32.ofInt (-1)), .int 0, .int 0, .int 0, .ref (z_RO + 5), .ref (z_RO + 3), .int 0, .ref 84, .ref 85, .ref 86, .ref 87, .ref 88, .ref 89, .ref 90, .ref 91, .int 0, .int 0, .int (Int32.ofInt 0), .int (Int32.ofInt 0), .int 0, .ref 92, .ref 93, .int (Int32.ofInt (-1)), .int 0, .ref 94, .ref 95, .int 0, .int 0, .int 0, .int 0, .int 0, .int 0, .ref 96, .ref 97, .ref 98, .ref 99, .ref 100, .int 0, .int 0, .long 0, .ref 101, .ref 102, .int 0, .ref 103, .ref 104, .ref 105, .int 0]))) 79 (.inr (12, [.int (Int32.ofInt 0), .ref 80, .ref 81, .ref 82, .ref 83, .ref 80, .int 0, .int 0, .int (Int32.ofInt 0), .int 0, .int (Int32.ofInt 0), .int (Int32.ofInt (-1)), .int 0, .int 0, .int 0, .ref (z_RO + 5), .ref (z_RO + 3), .int 0, .ref 84, .ref 85, .ref 86, .ref 87, .ref 88, .ref 89, .ref 90, .ref 91, .int 0, .int 0, .int (Int32.ofInt 0), .int (Int32.ofInt 0), .int (Int32.ofInt 0), .ref 92, .ref 93, .int (Int32.ofInt (-1)), .int 0, .ref 94, .ref 95, .int 0, .int 0, .int 0, .int 0, .int 0, .int 0, .ref 96, .ref 97, .ref 98, .ref 99, .ref 100, .int 0, .int 0, .long 0, .ref 101, .ref 102, .int 0, .ref 103, .ref 104, .ref 105, .int 0])))
set_option maxRecDepth 100000 in
set_option maxHeartbeats 4000000 in
theorem zq132 (zn : Bool) (d : Nat) : z_sem zn (d + 1) 253 [.ref 79] zh131 (some (.int (Int32.ofInt (-1)))) zh131 := by
  refine ⟨zu_X12_look, Nat.le_of_ble_eq_true rfl, Nat.le_of_ble_eq_true rfl, [zo, zo, zo, zo, zt, zo, zo, zo, zo, zt, zo], _, _, rfl, ?_, ?_⟩
  · exact ⟨trivial, (Nat.le_of_ble_eq_true rfl), trivial, (Nat.le_of_ble_eq_true rfl), zbt (by decide +kernel), trivial, (Nat.le_of_ble_eq_true rfl), trivial, (Nat.le_of_ble_eq_true rfl), zbt (by decide +kernel), trivial, trivial⟩
  · exact zfin_i rfl rfl rfl
def zh133 : z_H := (107, 35862, va_up (zh131.2.2) 79 (.inr (12, [.int (Int32.ofInt 0), .ref 80, .ref 81, .ref 82, .ref 83, .ref 80, .int 0, .int 0, .int (Int32.ofInt 0), .int 0, .int (Int32.ofInt 0), .int (Int32.ofInt 0), .int 0, .int 0, .int 0, .ref (z_RO + 5), .ref (z_RO + 3), .int 0, .ref 84, .ref 85, .ref 86, .ref 87, .ref 88, .ref 89, .ref 90, .ref 91, .int 0, .int 0, .int (Int32.ofInt 0), .int (Int32.ofInt 0), .int (Int32.ofInt 0), .ref 92, .ref 93, .int (Int32.ofInt (-1)), .int 0, .ref 94, .ref 95, .int 0, .int 0, .int 0, .int 0, .int 0, .int 0, .ref 96, .ref 97, .ref 98, .ref 99, .ref 100, .int 0, .int 0, .long 0, .ref 101, .ref 102, .int 0, .ref 103, .ref 104, .ref 105, .int 0])))
set_option maxRecDepth 100000 in
set_option maxHeartbeats 4000000 in
theorem zq134 (zn : Bool) (d : Nat) : z_sem zn (d + 1) 210 [.ref 79] zh131 (some (.int (Int32.ofInt 0))) zh133 := by
  refine ⟨zu_X12_fails, Nat.le_of_ble_eq_true rfl, Nat.le_of_ble_eq_true rfl, [zo, zo, zo, zo, zo, zo, zo, zo, zo], _, _, rfl, ?_, ?_⟩
  · exact ⟨trivial, (Nat.le_of_ble_eq_true rfl), trivial, zbf (by decide +kernel), trivial, trivial, (Nat.le_of_ble_eq_true rfl), ⟨(Nat.le_of_ble_eq_true rfl), rfl, rfl⟩, trivial, trivial⟩
  · exact zfin_i rfl rfl rfl
set_option maxRecDepth 100000 in
set_option maxHeartbeats 4000000 in
theorem zq135 (zn : Bool) (d : Nat) : z_sem zn (d + 2) 266 [.ref 79] zh131 none zh133 := by
  refine ⟨zu_X12_readClause, Nat.le_of_ble_eq_true rfl, Nat.le_of_ble_eq_true rfl, [zo, zc (some (.int (Int32.ofInt (-1)))) zh131, zo, zo, zo, zt, zo, zo, zt, zo, zo, zt, zo, zo, zo, zo, zo, zc (some (.int (Int32.ofInt 0))) zh133, zo], _, _, rfl, ?_, ?_⟩
  · exact ⟨trivial, ⟨⟨(Nat.le_of_ble_eq_true rfl), (Nat.le_of_ble_eq_true rfl)⟩, zq132 zn (d + 0), (Nat.le_of_ble_eq_true rfl), (Nat.le_of_ble_eq_true rfl), (Nat.le_of_ble_eq_true rfl), (Nat.le_of_ble_eq_true rfl), (Nat.le_of_ble_eq_true rfl)⟩, trivial, trivial, trivial, zbt (by decide +kernel), trivial, trivial, zbt (by decide +kernel), trivial, trivial, zbt (by decide +kernel), trivial, trivial, trivial, zbf (by decide +kernel), trivial, ⟨⟨(Nat.le_of_ble_eq_true rfl), (Nat.le_of_ble_eq_true rfl)⟩, zq134 zn (d + 0), (Nat.le_of_ble_eq_true rfl), (Nat.le_of_ble_eq_true rfl), (Nat.le_of_ble_eq_true rfl), (Nat.le_of_ble_eq_true rfl), (Nat.le_of_ble_eq_true rfl)⟩, trivial, trivial⟩
  · exact zfin_v rfl rfl
set_option maxRecDepth 100000 in
set_option maxHeartbeats 4000000 in
theorem zq136 (zn : Bool) (d : Nat) : z_sem zn (d + 3) 267 [.ref 79] zh127 none zh133 := by
  refine ⟨zu_X12_readHouse, Nat.le_of_ble_eq_true rfl, Nat.le_of_ble_eq_true rfl, [zo, zo, zo, zo, zo, zo, zc (none) zh129, zo, zo, zo, zo, zo, zo, zo, zo, zo, zo, zo, zo, zo, zo, zo, zo, zo, zo, zc (none) zh133, zo, zo, zo, zt, zo, zo, zo, zt, zo, zt, zo, zo, zo, zt], _, _, rfl, ?_, ?_⟩
  · exact ⟨trivial, trivial, (Nat.le_of_ble_eq_true rfl), trivial, trivial, (Nat.le_of_ble_eq_true rfl), ⟨⟨(Nat.le_of_ble_eq_true rfl), (Nat.le_of_ble_eq_true rfl)⟩, zq130 zn (d + 1), (Nat.le_of_ble_eq_true rfl), (Nat.le_of_ble_eq_true rfl), (Nat.le_of_ble_eq_true rfl), (Nat.le_of_ble_eq_true rfl), (Nat.le_of_ble_eq_true rfl)⟩, trivial, trivial, ⟨(Nat.le_of_ble_eq_true rfl), rfl, rfl⟩, trivial, trivial, ⟨(Nat.le_of_ble_eq_true rfl), rfl, rfl⟩, trivial, trivial, ⟨(Nat.le_of_ble_eq_true rfl), rfl, rfl⟩, trivial, trivial, trivial, zbf (by decide +kernel), trivial, (Nat.le_of_ble_eq_true rfl), trivial, zbf (by decide +kernel), trivial, ⟨⟨(Nat.le_of_ble_eq_true rfl), (Nat.le_of_ble_eq_true rfl)⟩, zq135 zn (d + 0), (Nat.le_of_ble_eq_true rfl), (Nat.le_of_ble_eq_true rfl), (Nat.le_of_ble_eq_true rfl), (Nat.le_of_ble_eq_true rfl), (Nat.le_of_ble_eq_true rfl)⟩, trivial, (Nat.le_of_ble_eq_true rfl), trivial, zbt (by decide +kernel), trivial, trivial, trivial, zbt (by decide +kernel), trivial, zbt (by decide +kernel), trivial, (Nat.le_of_ble_eq_true rfl), trivial, zbt (by decide +kernel), trivial⟩
  · exact zfin_v rfl rfl
set_option maxRecDepth 100000 in
set_option maxHeartbeats 4000000 in
theorem zq137 (zn : Bool) (d : Nat) (a1 : Int32) (ha1l : 0 ≤ a1.toInt) (ha1h : a1.toInt ≤ 0) : z_sem zn (d + 4) 211 [.ref 79, .int a1] zh89 (some (.int (Int32.ofInt 0))) zh133 := by
  refine ⟨zu_X12_fault, Nat.le_of_ble_eq_true rfl, Nat.le_of_ble_eq_true rfl, [zo, zo, zo, zo, zo, zo, zo, zc (some (.int (Int32.ofInt 1))) zh127, zt, zo, zo, zo, zc (none) zh133, zo, zo, zo], _, _, rfl, ?_, ?_⟩
  · exact ⟨trivial, trivial, ⟨(Nat.le_of_ble_eq_true rfl), rfl, rfl⟩, trivial, trivial, trivial, trivial, ⟨(Nat.le_of_ble_eq_true rfl), zq128 zn (d + 2) a1 ha1l ha1h, (Nat.le_of_ble_eq_true rfl), (Nat.le_of_ble_eq_true rfl), (Nat.le_of_ble_eq_true rfl), (Nat.le_of_ble_eq_true rfl), (Nat.le_of_ble_eq_true rfl)⟩, zbt (by decide +kernel), trivial, zF_ne (q := 0) rfl (by decide +kernel) (by omega), trivial, ⟨⟨(Nat.le_of_ble_eq_true rfl), (Nat.le_of_ble_eq_true rfl)⟩, zq136 zn (d + 0), (Nat.le_of_ble_eq_true rfl), (Nat.le_of_ble_eq_true rfl), (Nat.le_of_ble_eq_true rfl), (Nat.le_of_ble_eq_true rfl), (Nat.le_of_ble_eq_true rfl)⟩, trivial, trivial, (Nat.le_of_ble_eq_true rfl), trivial⟩
  · exact zfin_i rfl rfl rfl
set_option maxRecDepth 100000 in
set_option maxHeartbeats 4000000 in
theorem zq138 (zn : Bool) (d : Nat) (a1 : Int32) (ha1l : 0 ≤ a1.toInt) (ha1h : a1.toInt ≤ 0) : z_sem zn (d + 5) 288 [.ref 79, .int a1] zh80 (some (.int (Int32.ofInt (-1)))) zh133 := by
  refine ⟨zu_X12_text, Nat.le_of_ble_eq_true rfl, Nat.le_of_ble_eq_true rfl, [zo, zo, zo, zo, zo, zo, zo, zc (some (.int (Int32.ofInt 1))) zh89, zo, zo, zo, zt, zo, zo, zc (some (.int (Int32.ofInt 0))) zh133, zo, zo, zo], _, _, rfl, ?_, ?_⟩
  · exact ⟨trivial, trivial, ⟨(Nat.le_of_ble_eq_true rfl), rfl, rfl⟩, trivial, trivial, trivial, trivial, ⟨(Nat.le_of_ble_eq_true rfl), zq90 zn (d + 3) a1 ha1l ha1h, (Nat.le_of_ble_eq_true rfl), (Nat.le_of_ble_eq_true rfl), (Nat.le_of_ble_eq_true rfl), (Nat.le_of_ble_eq_true rfl), (Nat.le_of_ble_eq_true rfl)⟩, zbf (by decide +kernel), trivial, trivial, zT_ne (q := 1) rfl (by decide +kernel) (by omega), trivial, trivial, ⟨⟨(Nat.le_of_ble_eq_true rfl), (Nat.le_of_ble_eq_true rfl)⟩, zq137 zn (d + 0) a1 ha1l ha1h, (Nat.le_of_ble_eq_true rfl), (Nat.le_of_ble_eq_true rfl), (Nat.le_of_ble_eq_true rfl), (Nat.le_of_ble_eq_true rfl), (Nat.le_of_ble_eq_true rfl)⟩, trivial, zbf (by decide +kernel), trivial, trivial⟩
  · exact zfin_i rfl rfl rfl
set_option maxRecDepth 100000 in
set_option maxHeartbeats 4000000 in
theorem zq139 (zn : Bool) (d : Nat) (a1 : Int32) (ha1l : -2147483648 ≤ a1.toInt) (ha1h : a1.toInt ≤ -1) : z_sem zn (d + 1) 180 [.ref 0, .int a1] zh40 (some (.int (Int32.ofInt (-1)))) zh40 := by
  refine ⟨zu_X11_text, Nat.le_of_ble_eq_true rfl, Nat.le_of_ble_eq_true rfl, [zo, zt, zo, zo, zt, zo], _, _, rfl, ?_, ?_⟩
  · exact ⟨trivial, zT_ne (q := 0) rfl (by decide +kernel) (by omega), trivial, trivial, zT_ne (q := 1) rfl (by decide +kernel) (by omega), trivial, trivial⟩
  · exact zfin_i rfl rfl rfl
set_option maxRecDepth 100000 in
set_option maxHeartbeats 4000000 in
theorem zq140 (zn : Bool) (d : Nat) (a1 : Int32) (ha1l : -2147483648 ≤ a1.toInt) (ha1h : a1.toInt ≤ -1) : z_sem zn (d + 2) 288 [.ref 79, .int a1] zh40 (some (.int (Int32.ofInt (-1)))) zh42 := by
  refine ⟨zu_X12_text, Nat.le_of_ble_eq_true rfl, Nat.le_of_ble_eq_true rfl, [zo, zo, zo, zo, zo, zo, zo, zc (some (.int (Int32.ofInt 0))) zh42, zt, zo], _, _, rfl, ?_, ?_⟩
  · exact ⟨trivial, trivial, ⟨(Nat.le_of_ble_eq_true rfl), rfl, rfl⟩, trivial, trivial, trivial, trivial, ⟨(Nat.le_of_ble_eq_true rfl), zq101 zn (d + 0) a1 ha1l ha1h, (Nat.le_of_ble_eq_true rfl), (Nat.le_of_ble_eq_true rfl), (Nat.le_of_ble_eq_true rfl), (Nat.le_of_ble_eq_true rfl), (Nat.le_of_ble_eq_true rfl)⟩, zbt (by decide +kernel), trivial, trivial⟩
  · exact zfin_i rfl rfl rfl
set_option maxRecDepth 100000 in
set_option maxHeartbeats 4000000 in
theorem zq141 (zn : Bool) (d : Nat) (a1 : Int32) (ha1l : 1 ≤ a1.toInt) (ha1h : a1.toInt ≤ 2147483647) : z_sem zn (d + 1) 152 [.ref 0, .int a1] zh40 (some (.int (Int32.ofInt 0))) zh40 := by
  refine ⟨zu_X11_isPerson, Nat.le_of_ble_eq_true rfl, Nat.le_of_ble_eq_true rfl, [zo, zo, zo, zo, zo, zo, zt, zo], _, _, rfl, ?_, ?_⟩
  · exact ⟨trivial, zF_lt (q := 0) rfl (by decide +kernel) (by omega), trivial, trivial, (Nat.le_of_ble_eq_true rfl), (Nat.le_of_ble_eq_true rfl), zT_le (p := 0) (by decide +kernel) rfl (by omega), trivial, trivial⟩
  · exact zfin_i rfl rfl rfl
set_option maxRecDepth 100000 in
set_option maxHeartbeats 4000000 in
theorem zq142 (zn : Bool) (d : Nat) (a1 : Int32) (ha1l : 1 ≤ a1.toInt) (ha1h : a1.toInt ≤ 2147483647) (a2 : Int32) (ha2l : -2147483648 ≤ a2.toInt) (ha2h : a2.toInt ≤ 2147483647) : z_sem zn (d + 2) 166 [.ref 0, .int a1, .int a2] zh40 (some (.int (Int32.ofInt (-1)))) zh40 := by
  refine ⟨zu_X11_person, Nat.le_of_ble_eq_true rfl, Nat.le_of_ble_eq_true rfl, [zo, zo, zc (some (.int (Int32.ofInt 0))) zh40, zo, zo], _, _, rfl, ?_, ?_⟩
  · exact ⟨trivial, trivial, ⟨⟨(Nat.le_of_ble_eq_true rfl), (Nat.le_of_ble_eq_true rfl)⟩, zq141 zn (d + 0) a1 ha1l ha1h, (Nat.le_of_ble_eq_true rfl), (Nat.le_of_ble_eq_true rfl), (Nat.le_of_ble_eq_true rfl), (Nat.le_of_ble_eq_true rfl), (Nat.le_of_ble_eq_true rfl)⟩, zbf (by decide +kernel), trivial, trivial⟩
  · exact zfin_i rfl rfl rfl
set_option maxRecDepth 100000 in
set_option maxHeartbeats 4000000 in
theorem zq143 (zn : Bool) (d : Nat) (a1 : Int32) (ha1l : 1 ≤ a1.toInt) (ha1h : a1.toInt ≤ 2147483647) : z_sem zn (d + 1) 238 [.ref 79, .int a1] zh42 (some (.int (Int32.ofInt 0))) zh42 := by
  refine ⟨zu_X12_isPerson, Nat.le_of_ble_eq_true rfl, Nat.le_of_ble_eq_true rfl, [zo, zo, zo, zo, zo, zt, zo], _, _, rfl, ?_, ?_⟩
  · exact ⟨trivial, zF_lt (q := 0) rfl (by decide +kernel) (by omega), trivial, trivial, (Nat.le_of_ble_eq_true rfl), zT_le (p := 0) (by decide +kernel) rfl (by omega), trivial, trivial⟩
  · exact zfin_i rfl rfl rfl
set_option maxRecDepth 100000 in
set_option maxHeartbeats 4000000 in
theorem zq144 (zn : Bool) (d : Nat) (a1 : Int32) (ha1l : 1 ≤ a1.toInt) (ha1h : a1.toInt ≤ 2147483647) (a2 : Int32) (ha2l : -2147483648 ≤ a2.toInt) (ha2h : a2.toInt ≤ 2147483647) : z_sem zn (d + 2) 262 [.ref 79, .int a1, .int a2] zh40 (some (.int (Int32.ofInt (-1)))) zh42 := by
  refine ⟨zu_X12_person, Nat.le_of_ble_eq_true rfl, Nat.le_of_ble_eq_true rfl, [zo, zo, zo, zo, zo, zc (some (.int (Int32.ofInt 0))) zh42, zt, zo], _, _, rfl, ?_, ?_⟩
  · exact ⟨trivial, trivial, ⟨(Nat.le_of_ble_eq_true rfl), rfl, rfl⟩, trivial, trivial, ⟨⟨(Nat.le_of_ble_eq_true rfl), (Nat.le_of_ble_eq_true rfl)⟩, zq143 zn (d + 0) a1 ha1l ha1h, (Nat.le_of_ble_eq_true rfl), (Nat.le_of_ble_eq_true rfl), (Nat.le_of_ble_eq_true rfl), (Nat.le_of_ble_eq_true rfl), (Nat.le_of_ble_eq_true rfl)⟩, zbt (by decide +kernel), trivial, trivial⟩
  · exact zfin_i rfl rfl rfl
set_option maxRecDepth 100000 in
set_option maxHeartbeats 4000000 in
theorem zq145 (zn : Bool) (d : Nat) (a1 : Int32) (ha1l : 0 ≤ a1.toInt) (ha1h : a1.toInt ≤ 0) : z_sem zn (d + 1) 152 [.ref 0, .int a1] zh40 (some (.int (Int32.ofInt 0))) zh40 := by
  refine ⟨zu_X11_isPerson, Nat.le_of_ble_eq_true rfl, Nat.le_of_ble_eq_true rfl, [zo, zo, zo, zo, zo, zo, zt, zo], _, _, rfl, ?_, ?_⟩
  · exact ⟨trivial, zF_lt (q := 0) rfl (by decide +kernel) (by omega), trivial, trivial, (Nat.le_of_ble_eq_true rfl), (Nat.le_of_ble_eq_true rfl), zT_le (p := 0) (by decide +kernel) rfl (by omega), trivial, trivial⟩
  · exact zfin_i rfl rfl rfl
set_option maxRecDepth 100000 in
set_option maxHeartbeats 4000000 in
theorem zq146 (zn : Bool) (d : Nat) (a1 : Int32) (ha1l : 0 ≤ a1.toInt) (ha1h : a1.toInt ≤ 0) (a2 : Int32) (ha2l : -2147483648 ≤ a2.toInt) (ha2h : a2.toInt ≤ 2147483647) : z_sem zn (d + 2) 166 [.ref 0, .int a1, .int a2] zh40 (some (.int (Int32.ofInt (-1)))) zh40 := by
  refine ⟨zu_X11_person, Nat.le_of_ble_eq_true rfl, Nat.le_of_ble_eq_true rfl, [zo, zo, zc (some (.int (Int32.ofInt 0))) zh40, zo, zo], _, _, rfl, ?_, ?_⟩
  · exact ⟨trivial, trivial, ⟨⟨(Nat.le_of_ble_eq_true rfl), (Nat.le_of_ble_eq_true rfl)⟩, zq145 zn (d + 0) a1 ha1l ha1h, (Nat.le_of_ble_eq_true rfl), (Nat.le_of_ble_eq_true rfl), (Nat.le_of_ble_eq_true rfl), (Nat.le_of_ble_eq_true rfl), (Nat.le_of_ble_eq_true rfl)⟩, zbf (by decide +kernel), trivial, trivial⟩
  · exact zfin_i rfl rfl rfl
set_option maxRecDepth 100000 in
set_option maxHeartbeats 4000000 in
theorem zq147 (zn : Bool) (d : Nat) (a1 : Int32) (ha1l : 0 ≤ a1.toInt) (ha1h : a1.toInt ≤ 0) : z_sem zn (d + 1) 238 [.ref 79, .int a1] zh42 (some (.int (Int32.ofInt 0))) zh42 := by
  refine ⟨zu_X12_isPerson, Nat.le_of_ble_eq_true rfl, Nat.le_of_ble_eq_true rfl, [zo, zo, zo, zo, zo, zt, zo], _, _, rfl, ?_, ?_⟩
  · exact ⟨trivial, zF_lt (q := 0) rfl (by decide +kernel) (by omega), trivial, trivial, (Nat.le_of_ble_eq_true rfl), zT_le (p := 0) (by decide +kernel) rfl (by omega), trivial, trivial⟩
  · exact zfin_i rfl rfl rfl
set_option maxRecDepth 100000 in
set_option maxHeartbeats 4000000 in
theorem zq148 (zn : Bool) (d : Nat) (a1 : Int32) (ha1l : 0 ≤ a1.toInt) (ha1h : a1.toInt ≤ 0) (a2 : Int32) (ha2l : -2147483648 ≤ a2.toInt) (ha2h : a2.toInt ≤ 2147483647) : z_sem zn (d + 2) 262 [.ref 79, .int a1, .int a2] zh40 (some (.int (Int32.ofInt (-1)))) zh42 := by
  refine ⟨zu_X12_person, Nat.le_of_ble_eq_true rfl, Nat.le_of_ble_eq_true rfl, [zo, zo, zo, zo, zo, zc (some (.int (Int32.ofInt 0))) zh42, zt, zo], _, _, rfl, ?_, ?_⟩
  · exact ⟨trivial, trivial, ⟨(Nat.le_of_ble_eq_true rfl), rfl, rfl⟩, trivial, trivial, ⟨⟨(Nat.le_of_ble_eq_true rfl), (Nat.le_of_ble_eq_true rfl)⟩, zq147 zn (d + 0) a1 ha1l ha1h, (Nat.le_of_ble_eq_true rfl), (Nat.le_of_ble_eq_true rfl), (Nat.le_of_ble_eq_true rfl), (Nat.le_of_ble_eq_true rfl), (Nat.le_of_ble_eq_true rfl)⟩, zbt (by decide +kernel), trivial, trivial⟩
  · exact zfin_i rfl rfl rfl
set_option maxRecDepth 100000 in
set_option maxHeartbeats 4000000 in
theorem zq149 (zn : Bool) (d : Nat) (a1 : Int32) (ha1l : -2147483648 ≤ a1.toInt) (ha1h : a1.toInt ≤ -1) : z_sem zn (d + 1) 152 [.ref 0, .int a1] zh40 (some (.int (Int32.ofInt 0))) zh40 := by
  refine ⟨zu_X11_isPerson, Nat.le_of_ble_eq_true rfl, Nat.le_of_ble_eq_true rfl, [zo, zt, zo], _, _, rfl, ?_, ?_⟩
  · exact ⟨trivial, zT_lt (q := 0) rfl (by decide +kernel) (by omega), trivial, trivial⟩
  · exact zfin_i rfl rfl rfl
set_option maxRecDepth 100000 in
set_option maxHeartbeats 4000000 in
theorem zq150 (zn : Bool) (d : Nat) (a1 : Int32) (ha1l : -2147483648 ≤ a1.toInt) (ha1h : a1.toInt ≤ -1) (a2 : Int32) (ha2l : -2147483648 ≤ a2.toInt) (ha2h : a2.toInt ≤ 2147483647) : z_sem zn (d + 2) 166 [.ref 0, .int a1, .int a2] zh40 (some (.int (Int32.ofInt (-1)))) zh40 := by
  refine ⟨zu_X11_person, Nat.le_of_ble_eq_true rfl, Nat.le_of_ble_eq_true rfl, [zo, zo, zc (some (.int (Int32.ofInt 0))) zh40, zo, zo], _, _, rfl, ?_, ?_⟩
  · exact ⟨trivial, trivial, ⟨⟨(Nat.le_of_ble_eq_true rfl), (Nat.le_of_ble_eq_true rfl)⟩, zq149 zn (d + 0) a1 ha1l ha1h, (Nat.le_of_ble_eq_true rfl), (Nat.le_of_ble_eq_true rfl), (Nat.le_of_ble_eq_true rfl), (Nat.le_of_ble_eq_true rfl), (Nat.le_of_ble_eq_true rfl)⟩, zbf (by decide +kernel), trivial, trivial⟩
  · exact zfin_i rfl rfl rfl
set_option maxRecDepth 100000 in
set_option maxHeartbeats 4000000 in
theorem zq151 (zn : Bool) (d : Nat) (a1 : Int32) (ha1l : -2147483648 ≤ a1.toInt) (ha1h : a1.toInt ≤ -1) : z_sem zn (d + 1) 238 [.ref 79, .int a1] zh42 (some (.int (Int32.ofInt 0))) zh42 := by
  refine ⟨zu_X12_isPerson, Nat.le_of_ble_eq_true rfl, Nat.le_of_ble_eq_true rfl, [zo, zt, zo], _, _, rfl, ?_, ?_⟩
  · exact ⟨trivial, zT_lt (q := 0) rfl (by decide +kernel) (by omega), trivial, trivial⟩
  · exact zfin_i rfl rfl rfl
set_option maxRecDepth 100000 in
set_option maxHeartbeats 4000000 in
theorem zq152 (zn : Bool) (d : Nat) (a1 : Int32) (ha1l : -2147483648 ≤ a1.toInt) (ha1h : a1.toInt ≤ -1) (a2 : Int32) (ha2l : -2147483648 ≤ a2.toInt) (ha2h : a2.toInt ≤ 2147483647) : z_sem zn (d + 2) 262 [.ref 79, .int a1, .int a2] zh40 (some (.int (Int32.ofInt (-1)))) zh42 := by
  refine ⟨zu_X12_person, Nat.le_of_ble_eq_true rfl, Nat.le_of_ble_eq_true rfl, [zo, zo, zo, zo, zo, zc (some (.int (Int32.ofInt 0))) zh42, zt, zo], _, _, rfl, ?_, ?_⟩
  · exact ⟨trivial, trivial, ⟨(Nat.le_of_ble_eq_true rfl), rfl, rfl⟩, trivial, trivial, ⟨⟨(Nat.le_of_ble_eq_true rfl), (Nat.le_of_ble_eq_true rfl)⟩, zq151 zn (d + 0) a1 ha1l ha1h, (Nat.le_of_ble_eq_true rfl), (Nat.le_of_ble_eq_true rfl), (Nat.le_of_ble_eq_true rfl), (Nat.le_of_ble_eq_true rfl), (Nat.le_of_ble_eq_true rfl)⟩, zbt (by decide +kernel), trivial, trivial⟩
  · exact zfin_i rfl rfl rfl
set_option maxRecDepth 100000 in
set_option maxHeartbeats 4000000 in
theorem zq153 (zn : Bool) (d : Nat) (a1 : Int32) (ha1l : 1 ≤ a1.toInt) (ha1h : a1.toInt ≤ 2147483647) : z_sem zn (d + 1) 95 [.ref 13, .int a1] zh40 (some (.int (Int32.ofInt (-1)))) zh40 := by
  refine ⟨zu_X6_seenFrom, Nat.le_of_ble_eq_true rfl, Nat.le_of_ble_eq_true rfl, [zo, zo, zo, zo, zo, zt, zo], _, _, rfl, ?_, ?_⟩
  · exact ⟨trivial, zF_lt (q := 0) rfl (by decide +kernel) (by omega), trivial, trivial, (Nat.le_of_ble_eq_true rfl), zT_le (p := 0) (by decide +kernel) rfl (by omega), trivial, trivial⟩
  · exact zfin_i rfl rfl rfl
set_option maxRecDepth 100000 in
set_option maxHeartbeats 4000000 in
theorem zq154 (zn : Bool) (d : Nat) (a1 : Int32) (ha1l : 1 ≤ a1.toInt) (ha1h : a1.toInt ≤ 2147483647) : z_sem zn (d + 2) 171 [.ref 0, .int a1] zh40 (some (.int (Int32.ofInt (-1)))) zh40 := by
  refine ⟨zu_X11_sees, Nat.le_of_ble_eq_true rfl, Nat.le_of_ble_eq_true rfl, [zo, zo, zo, zc (some (.int (Int32.ofInt (-1)))) zh40], _, _, rfl, ?_, ?_⟩
  · exact ⟨trivial, (Nat.le_of_ble_eq_true rfl), trivial, ⟨⟨(Nat.le_of_ble_eq_true rfl), (Nat.le_of_ble_eq_true rfl)⟩, zq153 zn (d + 0) a1 ha1l ha1h, (Nat.le_of_ble_eq_true rfl), (Nat.le_of_ble_eq_true rfl), (Nat.le_of_ble_eq_true rfl), (Nat.le_of_ble_eq_true rfl), (Nat.le_of_ble_eq_true rfl)⟩, trivial⟩
  · exact zfin_i rfl rfl rfl
set_option maxRecDepth 100000 in
set_option maxHeartbeats 4000000 in
theorem zq155 (zn : Bool) (d : Nat) (a1 : Int32) (ha1l : 1 ≤ a1.toInt) (ha1h : a1.toInt ≤ 2147483647) : z_sem zn (d + 1) 240 [.ref 79, .int a1] zh42 (some (.int (Int32.ofInt 0))) zh42 := by
  refine ⟨zu_X12_isRoom, Nat.le_of_ble_eq_true rfl, Nat.le_of_ble_eq_true rfl, [zo, zo, zo, zo, zo, zt, zo], _, _, rfl, ?_, ?_⟩
  · exact ⟨trivial, zF_lt (q := 0) rfl (by decide +kernel) (by omega), trivial, trivial, (Nat.le_of_ble_eq_true rfl), zT_le (p := 0) (by decide +kernel) rfl (by omega), trivial, trivial⟩
  · exact zfin_i rfl rfl rfl
set_option maxRecDepth 100000 in
set_option maxHeartbeats 4000000 in
theorem zq156 (zn : Bool) (d : Nat) (a1 : Int32) (ha1l : 1 ≤ a1.toInt) (ha1h : a1.toInt ≤ 2147483647) : z_sem zn (d + 2) 275 [.ref 79, .int a1] zh40 (some (.int (Int32.ofInt (-1)))) zh42 := by
  refine ⟨zu_X12_sees, Nat.le_of_ble_eq_true rfl, Nat.le_of_ble_eq_true rfl, [zo, zo, zo, zo, zo, zc (some (.int (Int32.ofInt 0))) zh42, zt, zo], _, _, rfl, ?_, ?_⟩
  · exact ⟨trivial, trivial, ⟨(Nat.le_of_ble_eq_true rfl), rfl, rfl⟩, trivial, trivial, ⟨⟨(Nat.le_of_ble_eq_true rfl), (Nat.le_of_ble_eq_true rfl)⟩, zq155 zn (d + 0) a1 ha1l ha1h, (Nat.le_of_ble_eq_true rfl), (Nat.le_of_ble_eq_true rfl), (Nat.le_of_ble_eq_true rfl), (Nat.le_of_ble_eq_true rfl), (Nat.le_of_ble_eq_true rfl)⟩, zbt (by decide +kernel), trivial, trivial⟩
  · exact zfin_i rfl rfl rfl
set_option maxRecDepth 100000 in
set_option maxHeartbeats 4000000 in
theorem zq157 (zn : Bool) (d : Nat) (a1 : Int32) (ha1l : 0 ≤ a1.toInt) (ha1h : a1.toInt ≤ 0) : z_sem zn (d + 1) 95 [.ref 13, .int a1] zh40 (some (.int (Int32.ofInt (-1)))) zh40 := by
  refine ⟨zu_X6_seenFrom, Nat.le_of_ble_eq_true rfl, Nat.le_of_ble_eq_true rfl, [zo, zo, zo, zo, zo, zt, zo], _, _, rfl, ?_, ?_⟩
  · exact ⟨trivial, zF_lt (q := 0) rfl (by decide +kernel) (by omega), trivial, trivial, (Nat.le_of_ble_eq_true rfl), zT_le (p := 0) (by decide +kernel) rfl (by omega), trivial, trivial⟩
  · exact zfin_i rfl rfl rfl
set_option maxRecDepth 100000 in
set_option maxHeartbeats 4000000 in
theorem zq158 (zn : Bool) (d : Nat) (a1 : Int32) (ha1l : 0 ≤ a1.toInt) (ha1h : a1.toInt ≤ 0) : z_sem zn (d + 2) 171 [.ref 0, .int a1] zh40 (some (.int (Int32.ofInt (-1)))) zh40 := by
  refine ⟨zu_X11_sees, Nat.le_of_ble_eq_true rfl, Nat.le_of_ble_eq_true rfl, [zo, zo, zo, zc (some (.int (Int32.ofInt (-1)))) zh40], _, _, rfl, ?_, ?_⟩
  · exact ⟨trivial, (Nat.le_of_ble_eq_true rfl), trivial, ⟨⟨(Nat.le_of_ble_eq_true rfl), (Nat.le_of_ble_eq_true rfl)⟩, zq157 zn (d + 0) a1 ha1l ha1h, (Nat.le_of_ble_eq_true rfl), (Nat.le_of_ble_eq_true rfl), (Nat.le_of_ble_eq_true rfl), (Nat.le_of_ble_eq_true rfl), (Nat.le_of_ble_eq_true rfl)⟩, trivial⟩
  · exact zfin_i rfl rfl rfl
set_option maxRecDepth 100000 in
set_option maxHeartbeats 4000000 in
theorem zq159 (zn : Bool) (d : Nat) (a1 : Int32) (ha1l : 0 ≤ a1.toInt) (ha1h : a1.toInt ≤ 0) : z_sem zn (d + 1) 240 [.ref 79, .int a1] zh42 (some (.int (Int32.ofInt 0))) zh42 := by
  refine ⟨zu_X12_isRoom, Nat.le_of_ble_eq_true rfl, Nat.le_of_ble_eq_true rfl, [zo, zo, zo, zo, zo, zt, zo], _, _, rfl, ?_, ?_⟩
  · exact ⟨trivial, zF_lt (q := 0) rfl (by decide +kernel) (by omega), trivial, trivial, (Nat.le_of_ble_eq_true rfl), zT_le (p := 0) (by decide +kernel) rfl (by omega), trivial, trivial⟩
  · exact zfin_i rfl rfl rfl
set_option maxRecDepth 100000 in
set_option maxHeartbeats 4000000 in
theorem zq160 (zn : Bool) (d : Nat) (a1 : Int32) (ha1l : 0 ≤ a1.toInt) (ha1h : a1.toInt ≤ 0) : z_sem zn (d + 2) 275 [.ref 79, .int a1] zh40 (some (.int (Int32.ofInt (-1)))) zh42 := by
  refine ⟨zu_X12_sees, Nat.le_of_ble_eq_true rfl, Nat.le_of_ble_eq_true rfl, [zo, zo, zo, zo, zo, zc (some (.int (Int32.ofInt 0))) zh42, zt, zo], _, _, rfl, ?_, ?_⟩
  · exact ⟨trivial, trivial, ⟨(Nat.le_of_ble_eq_true rfl), rfl, rfl⟩, trivial, trivial, ⟨⟨(Nat.le_of_ble_eq_true rfl), (Nat.le_of_ble_eq_true rfl)⟩, zq159 zn (d + 0) a1 ha1l ha1h, (Nat.le_of_ble_eq_true rfl), (Nat.le_of_ble_eq_true rfl), (Nat.le_of_ble_eq_true rfl), (Nat.le_of_ble_eq_true rfl), (Nat.le_of_ble_eq_true rfl)⟩, zbt (by decide +kernel), trivial, trivial⟩
  · exact zfin_i rfl rfl rfl
set_option maxRecDepth 100000 in
set_option maxHeartbeats 4000000 in
theorem zq161 (zn : Bool) (d : Nat) (a1 : Int32) (ha1l : -2147483648 ≤ a1.toInt) (ha1h : a1.toInt ≤ -1) : z_sem zn (d + 1) 95 [.ref 13, .int a1] zh40 (some (.int (Int32.ofInt (-1)))) zh40 := by
  refine ⟨zu_X6_seenFrom, Nat.le_of_ble_eq_true rfl, Nat.le_of_ble_eq_true rfl, [zo, zt, zo], _, _, rfl, ?_, ?_⟩
  · exact ⟨trivial, zT_lt (q := 0) rfl (by decide +kernel) (by omega), trivial, trivial⟩
  · exact zfin_i rfl rfl rfl
set_option maxRecDepth 100000 in
set_option maxHeartbeats 4000000 in
theorem zq162 (zn : Bool) (d : Nat) (a1 : Int32) (ha1l : -2147483648 ≤ a1.toInt) (ha1h : a1.toInt ≤ -1) : z_sem zn (d + 2) 171 [.ref 0, .int a1] zh40 (some (.int (Int32.ofInt (-1)))) zh40 := by
  refine ⟨zu_X11_sees, Nat.le_of_ble_eq_true rfl, Nat.le_of_ble_eq_true rfl, [zo, zo, zo, zc (some (.int (Int32.ofInt (-1)))) zh40], _, _, rfl, ?_, ?_⟩
  · exact ⟨trivial, (Nat.le_of_ble_eq_true rfl), trivial, ⟨⟨(Nat.le_of_ble_eq_true rfl), (Nat.le_of_ble_eq_true rfl)⟩, zq161 zn (d + 0) a1 ha1l ha1h, (Nat.le_of_ble_eq_true rfl), (Nat.le_of_ble_eq_true rfl), (Nat.le_of_ble_eq_true rfl), (Nat.le_of_ble_eq_true rfl), (Nat.le_of_ble_eq_true rfl)⟩, trivial⟩
  · exact zfin_i rfl rfl rfl
set_option maxRecDepth 100000 in
set_option maxHeartbeats 4000000 in
theorem zq163 (zn : Bool) (d : Nat) (a1 : Int32) (ha1l : -2147483648 ≤ a1.toInt) (ha1h : a1.toInt ≤ -1) : z_sem zn (d + 1) 240 [.ref 79, .int a1] zh42 (some (.int (Int32.ofInt 0))) zh42 := by
  refine ⟨zu_X12_isRoom, Nat.le_of_ble_eq_true rfl, Nat.le_of_ble_eq_true rfl, [zo, zt, zo], _, _, rfl, ?_, ?_⟩
  · exact ⟨trivial, zT_lt (q := 0) rfl (by decide +kernel) (by omega), trivial, trivial⟩
  · exact zfin_i rfl rfl rfl
set_option maxRecDepth 100000 in
set_option maxHeartbeats 4000000 in
theorem zq164 (zn : Bool) (d : Nat) (a1 : Int32) (ha1l : -2147483648 ≤ a1.toInt) (ha1h : a1.toInt ≤ -1) : z_sem zn (d + 2) 275 [.ref 79, .int a1] zh40 (some (.int (Int32.ofInt (-1)))) zh42 := by
  refine ⟨zu_X12_sees, Nat.le_of_ble_eq_true rfl, Nat.le_of_ble_eq_true rfl, [zo, zo, zo, zo, zo, zc (some (.int (Int32.ofInt 0))) zh42, zt, zo], _, _, rfl, ?_, ?_⟩
  · exact ⟨trivial, trivial, ⟨(Nat.le_of_ble_eq_true rfl), rfl, rfl⟩, trivial, trivial, ⟨⟨(Nat.le_of_ble_eq_true rfl), (Nat.le_of_ble_eq_true rfl)⟩, zq163 zn (d + 0) a1 ha1l ha1h, (Nat.le_of_ble_eq_true rfl), (Nat.le_of_ble_eq_true rfl), (Nat.le_of_ble_eq_true rfl), (Nat.le_of_ble_eq_true rfl), (Nat.le_of_ble_eq_true rfl)⟩, zbt (by decide +kernel), trivial, trivial⟩
  · exact zfin_i rfl rfl rfl
set_option maxRecDepth 100000 in
set_option maxHeartbeats 4000000 in
theorem zq165 (zn : Bool) (d : Nat) (a1 : Int32) (ha1l : 1 ≤ a1.toInt) (ha1h : a1.toInt ≤ 2147483647) : z_sem zn (d + 1) 179 [.ref 0, .int a1] zh40 (some (.int (Int32.ofInt 0))) zh40 := by
  refine ⟨zu_X11_taste, Nat.le_of_ble_eq_true rfl, Nat.le_of_ble_eq_true rfl, [zo, zo, zo, zo, zo, zo, zo, zo], _, _, rfl, ?_, ?_⟩
  · exact ⟨trivial, trivial, zF_lt (q := -1) rfl (by decide +kernel) (by omega), trivial, trivial, (Nat.le_of_ble_eq_true rfl), zF_lt (q := 0) rfl (by decide +kernel) (by omega), trivial, trivial⟩
  · exact zfin_i rfl rfl rfl
set_option maxRecDepth 100000 in
set_option maxHeartbeats 4000000 in
theorem zq166 (zn : Bool) (d : Nat) (a1 : Int32) (ha1l : 1 ≤ a1.toInt) (ha1h : a1.toInt ≤ 2147483647) : z_sem zn (d + 1) 236 [.long (a1.toInt64), .long (Int64.ofNat 0), .long ((0 - (Int32.ofInt 1)).toInt64)] zh42 (some (.int (Int32.ofInt 0))) zh42 := by
  refine ⟨zu_X12_isIn, Nat.le_of_ble_eq_true rfl, Nat.le_of_ble_eq_true rfl, [zo, zo, zo, zo, zo, zo, zo, zt, zo], _, _, rfl, ?_, ?_⟩
  · exact ⟨trivial, trivial, trivial, zbf (by rw [zc_gt (p := (a1).toInt) (q := 0) (by simp only [zi_64]) (by decide +kernel) (by omega)]; decide), trivial, trivial, trivial, zbt (by rw [zc_gt (p := (a1).toInt) (q := -1) (by simp only [zi_64]) (by decide +kernel) (by omega)]; decide), trivial, trivial⟩
  · exact zfin_i rfl rfl rfl
set_option maxRecDepth 100000 in
set_option maxHeartbeats 4000000 in
theorem zq167 (zn : Bool) (d : Nat) (a1 : Int32) (ha1l : 1 ≤ a1.toInt) (ha1h : a1.toInt ≤ 2147483647) : z_sem zn (d + 2) 285 [.ref 79, .int a1] zh40 (some (.int (Int32.ofInt 0))) zh42 := by
  refine ⟨zu_X12_taste, Nat.le_of_ble_eq_true rfl, Nat.le_of_ble_eq_true rfl, [zo, zo, zo, zo, zo, zo, zo, zo, zo, zo, zo, zo, zo, zo, zc (some (.int (Int32.ofInt 0))) zh42, zo, zo], _, _, rfl, ?_, ?_⟩
  · exact ⟨trivial, trivial, ⟨(Nat.le_of_ble_eq_true rfl), rfl, rfl⟩, trivial, trivial, zF_eq (q := -1) rfl (by decide +kernel) (by omega), trivial, trivial, trivial, trivial, (Nat.le_of_ble_eq_true rfl), trivial, trivial, trivial, ⟨(Nat.le_of_ble_eq_true rfl), zq166 zn (d + 0) a1 ha1l ha1h, (Nat.le_of_ble_eq_true rfl), (Nat.le_of_ble_eq_true rfl), (Nat.le_of_ble_eq_true rfl), (Nat.le_of_ble_eq_true rfl), (Nat.le_of_ble_eq_true rfl)⟩, zbf (by decide +kernel), trivial, trivial⟩
  · exact zfin_i rfl rfl rfl
set_option maxRecDepth 100000 in
set_option maxHeartbeats 4000000 in
theorem zq168 (zn : Bool) (d : Nat) (a1 : Int32) (ha1l : 0 ≤ a1.toInt) (ha1h : a1.toInt ≤ 0) : z_sem zn (d + 1) 179 [.ref 0, .int a1] zh40 (some (.int (Int32.ofInt 0))) zh40 := by
  refine ⟨zu_X11_taste, Nat.le_of_ble_eq_true rfl, Nat.le_of_ble_eq_true rfl, [zo, zo, zo, zo, zo, zo, zo, zo], _, _, rfl, ?_, ?_⟩
  · exact ⟨trivial, trivial, zF_lt (q := -1) rfl (by decide +kernel) (by omega), trivial, trivial, (Nat.le_of_ble_eq_true rfl), zF_lt (q := 0) rfl (by decide +kernel) (by omega), trivial, trivial⟩
  · exact zfin_i rfl rfl rfl
