/-! methods of fresh objects, by program (wip/tools/ops.py) -/
set_option maxRecDepth 100000 in
set_option maxHeartbeats 4000000 in
theorem zq169 (zn : Bool) (d : Nat) (a1 : Int32) (ha1l : 0 ≤ a1.toInt) (ha1h : a1.toInt ≤ 0) : z_sem zn (d + 1) 236 [.long (a1.toInt64), .long (Int64.ofNat 0), .long ((0 - (Int32.ofInt 1)).toInt64)] zh42 (some (.int (Int32.ofInt 0))) zh42 := by
  refine ⟨zu_X12_isIn, Nat.le_of_ble_eq_true rfl, Nat.le_of_ble_eq_true rfl, [zo, zo, zo, zo, zo, zo, zo, zt, zo], _, _, rfl, ?_, ?_⟩
  · exact ⟨trivial, trivial, trivial, zbf (by rw [zc_eq (p := (a1).toInt) (q := 0) (by simp only [zi_64]) (by decide +kernel) (by omega)]; decide), trivial, trivial, trivial, zbt (by rw [zc_gt (p := (a1).toInt) (q := -1) (by simp only [zi_64]) (by decide +kernel) (by omega)]; decide), trivial, trivial⟩
  · exact zfin_i rfl rfl rfl
set_option maxRecDepth 100000 in
set_option maxHeartbeats 4000000 in
theorem zq170 (zn : Bool) (d : Nat) (a1 : Int32) (ha1l : 0 ≤ a1.toInt) (ha1h : a1.toInt ≤ 0) : z_sem zn (d + 2) 285 [.ref 79, .int a1] zh40 (some (.int (Int32.ofInt 0))) zh42 := by
  refine ⟨zu_X12_taste, Nat.le_of_ble_eq_true rfl, Nat.le_of_ble_eq_true rfl, [zo, zo, zo, zo, zo, zo, zo, zo, zo, zo, zo, zo, zo, zo, zc (some (.int (Int32.ofInt 0))) zh42, zo, zo], _, _, rfl, ?_, ?_⟩
  · exact ⟨trivial, trivial, ⟨(Nat.le_of_ble_eq_true rfl), rfl, rfl⟩, trivial, trivial, zF_eq (q := -1) rfl (by decide +kernel) (by omega), trivial, trivial, trivial, trivial, (Nat.le_of_ble_eq_true rfl), trivial, trivial, trivial, ⟨(Nat.le_of_ble_eq_true rfl), zq169 zn (d + 0) a1 ha1l ha1h, (Nat.le_of_ble_eq_true rfl), (Nat.le_of_ble_eq_true rfl), (Nat.le_of_ble_eq_true rfl), (Nat.le_of_ble_eq_true rfl), (Nat.le_of_ble_eq_true rfl)⟩, zbf (by decide +kernel), trivial, trivial⟩
  · exact zfin_i rfl rfl rfl
def zh171 (a1 : Int32) : z_H := (107, 35862, va_up (va_up (zh40.2.2) 0 (.inr (11, [.ref 1, .ref 3, .ref 10, .ref 12, .ref 13, .ref 17, .ref 18, .ref 23, .ref 68, .ref 69, .ref 73, .ref 75, .int (Int32.ofInt 0), .int (Int32.ofInt 0), .int a1]))) 18 (.inr (3, [.ref 13, .null, .ref 19, .int (Int32.ofInt 0), .int (Int32.ofInt 0), .int (Int32.ofInt 0), .int (Int32.ofInt 0), .int (Int32.ofInt (-1)), .int (Int32.ofInt (-1)), .ref 20, .ref 21, .ref 22])))
set_option maxRecDepth 100000 in
set_option maxHeartbeats 4000000 in
theorem zq172 (zn : Bool) (d : Nat) (a1 : Int32) (ha1l : -1 ≤ a1.toInt) (ha1h : a1.toInt ≤ -1) : z_sem zn (d + 1) 179 [.ref 0, .int a1] zh40 (some (.int (Int32.ofInt 1))) (zh171 a1) := by
  refine ⟨zu_X11_taste, Nat.le_of_ble_eq_true rfl, Nat.le_of_ble_eq_true rfl, [zo, zo, zo, zo, zo, zo, zt, zo, zo, zo, zo, zo, zo, zo, zo, zo, zo, zo, zo], _, _, rfl, ?_, ?_⟩
  · exact ⟨trivial, trivial, zF_lt (q := -1) rfl (by decide +kernel) (by omega), trivial, trivial, (Nat.le_of_ble_eq_true rfl), zT_lt (q := 0) rfl (by decide +kernel) (by omega), trivial, trivial, ⟨(Nat.le_of_ble_eq_true rfl), rfl, rfl⟩, trivial, (Nat.le_of_ble_eq_true rfl), trivial, trivial, zF_ne (q := -1) rfl (by decide +kernel) (by omega), trivial, trivial, ⟨(Nat.le_of_ble_eq_true rfl), rfl, rfl⟩, trivial, trivial⟩
  · exact zfin_i rfl rfl rfl
def zh173 (a1 : Int32) : z_H := (107, 35862, va_up (va_up ((zh171 a1).2.2) 79 (.inr (12, [.int (Int32.ofInt 0), .ref 80, .ref 81, .ref 82, .ref 83, .ref 80, .int 0, .int 0, .int 0, .int 0, .int 0, .int 0, .int 0, .int 0, .int 0, .ref (z_RO + 5), .ref (z_RO + 3), .int 0, .ref 84, .ref 85, .ref 86, .ref 87, .ref 88, .ref 89, .ref 90, .ref 91, .int 0, .int 0, .int 0, .int 0, .int 0, .ref 92, .ref 93, .int (Int32.ofInt (-1)), .int 0, .ref 94, .ref 95, .int 0, .int 0, .int 0, .int 0, .int 0, .int 0, .ref 96, .ref 97, .ref 98, .ref 99, .ref 100, .int 0, .int 0, .long 0, .ref 101, .ref 102, .int 0, .ref 103, .ref 104, .ref 105, .int 0]))) 79 (.inr (12, [.int (Int32.ofInt 0), .ref 80, .ref 81, .ref 82, .ref 83, .ref 80, .int 0, .int 0, .int 0, .int 0, .int 0, .int 0, .int 0, .int 0, .int 0, .ref (z_RO + 5), .ref (z_RO + 3), .int 0, .ref 84, .ref 85, .ref 86, .ref 87, .ref 88, .ref 89, .ref 90, .ref 91, .int 0, .int 0, .int 0, .int 0, .int 0, .ref 92, .ref 93, .int a1, .int 0, .ref 94, .ref 95, .int 0, .int 0, .int 0, .int 0, .int 0, .int 0, .ref 96, .ref 97, .ref 98, .ref 99, .ref 100, .int 0, .int 0, .long 0, .ref 101, .ref 102, .int 0, .ref 103, .ref 104, .ref 105, .int 0])))
set_option maxRecDepth 100000 in
set_option maxHeartbeats 4000000 in
theorem zq174 (zn : Bool) (d : Nat) (a1 : Int32) (ha1l : -1 ≤ a1.toInt) (ha1h : a1.toInt ≤ -1) : z_sem zn (d + 1) 285 [.ref 79, .int a1] (zh171 a1) (some (.int (Int32.ofInt 1))) (zh173 a1) := by
  refine ⟨zu_X12_taste, Nat.le_of_ble_eq_true rfl, Nat.le_of_ble_eq_true rfl, [zo, zo, zo, zo, zo, zt, zo, zo, zo, zo], _, _, rfl, ?_, ?_⟩
  · exact ⟨trivial, trivial, ⟨(Nat.le_of_ble_eq_true rfl), rfl, rfl⟩, trivial, trivial, zT_eq (q := -1) rfl (by decide +kernel) (by omega), trivial, trivial, ⟨(Nat.le_of_ble_eq_true rfl), rfl, rfl⟩, trivial, trivial⟩
  · exact zfin_i rfl rfl rfl
set_option maxRecDepth 100000 in
set_option maxHeartbeats 4000000 in
theorem zq175 (zn : Bool) (d : Nat) (a1 : Int32) (ha1l : -2147483648 ≤ a1.toInt) (ha1h : a1.toInt ≤ -2) : z_sem zn (d + 1) 179 [.ref 0, .int a1] zh40 (some (.int (Int32.ofInt 0))) zh40 := by
  refine ⟨zu_X11_taste, Nat.le_of_ble_eq_true rfl, Nat.le_of_ble_eq_true rfl, [zo, zo, zt, zo], _, _, rfl, ?_, ?_⟩
  · exact ⟨trivial, trivial, zT_lt (q := -1) rfl (by decide +kernel) (by omega), trivial, trivial⟩
  · exact zfin_i rfl rfl rfl
set_option maxRecDepth 100000 in
set_option maxHeartbeats 4000000 in
theorem zq176 (zn : Bool) (d : Nat) (a1 : Int32) (ha1l : -2147483648 ≤ a1.toInt) (ha1h : a1.toInt ≤ -2) : z_sem zn (d + 1) 236 [.long (a1.toInt64), .long (Int64.ofNat 0), .long ((0 - (Int32.ofInt 1)).toInt64)] zh42 (some (.int (Int32.ofInt 0))) zh42 := by
  refine ⟨zu_X12_isIn, Nat.le_of_ble_eq_true rfl, Nat.le_of_ble_eq_true rfl, [zo, zo, zo, zt, zo], _, _, rfl, ?_, ?_⟩
  · exact ⟨trivial, trivial, trivial, zbt (by rw [zc_lt (p := (a1).toInt) (q := 0) (by simp only [zi_64]) (by decide +kernel) (by omega)]; decide), trivial, trivial⟩
  · exact zfin_i rfl rfl rfl
set_option maxRecDepth 100000 in
set_option maxHeartbeats 4000000 in
theorem zq177 (zn : Bool) (d : Nat) (a1 : Int32) (ha1l : -2147483648 ≤ a1.toInt) (ha1h : a1.toInt ≤ -2) : z_sem zn (d + 2) 285 [.ref 79, .int a1] zh40 (some (.int (Int32.ofInt 0))) zh42 := by
  refine ⟨zu_X12_taste, Nat.le_of_ble_eq_true rfl, Nat.le_of_ble_eq_true rfl, [zo, zo, zo, zo, zo, zo, zo, zo, zo, zo, zo, zo, zo, zo, zc (some (.int (Int32.ofInt 0))) zh42, zo, zo], _, _, rfl, ?_, ?_⟩
  · exact ⟨trivial, trivial, ⟨(Nat.le_of_ble_eq_true rfl), rfl, rfl⟩, trivial, trivial, zF_eq (q := -1) rfl (by decide +kernel) (by omega), trivial, trivial, trivial, trivial, (Nat.le_of_ble_eq_true rfl), trivial, trivial, trivial, ⟨(Nat.le_of_ble_eq_true rfl), zq176 zn (d + 0) a1 ha1l ha1h, (Nat.le_of_ble_eq_true rfl), (Nat.le_of_ble_eq_true rfl), (Nat.le_of_ble_eq_true rfl), (Nat.le_of_ble_eq_true rfl), (Nat.le_of_ble_eq_true rfl)⟩, zbf (by decide +kernel), trivial, trivial⟩
  · exact zfin_i rfl rfl rfl
set_option maxRecDepth 100000 in
set_option maxHeartbeats 4000000 in
theorem zq178 (zn : Bool) (d : Nat) (a1 : Int32) (ha1l : 100 ≤ a1.toInt) (ha1h : a1.toInt ≤ 2147483647) : z_sem zn (d + 1) 134 [.ref 0, .int a1] zh40 (some (.int (Int32.ofInt 0))) zh40 := by
  refine ⟨zu_X11_crowd, Nat.le_of_ble_eq_true rfl, Nat.le_of_ble_eq_true rfl, [zo, zo, zo, zo, zt, zo], _, _, rfl, ?_, ?_⟩
  · exact ⟨trivial, zF_lt (q := 0) rfl (by decide +kernel) (by omega), trivial, trivial, zT_lt (p := 99) (by decide +kernel) rfl (by omega), trivial, trivial⟩
  · exact zfin_i rfl rfl rfl
set_option maxRecDepth 100000 in
set_option maxHeartbeats 4000000 in
theorem zq179 (zn : Bool) (d : Nat) (a1 : Int32) (ha1l : 100 ≤ a1.toInt) (ha1h : a1.toInt ≤ 2147483647) : z_sem zn (d + 1) 236 [.long (a1.toInt64), .long (Int64.ofNat 0), .long ((99))] zh42 (some (.int (Int32.ofInt 0))) zh42 := by
  refine ⟨zu_X12_isIn, Nat.le_of_ble_eq_true rfl, Nat.le_of_ble_eq_true rfl, [zo, zo, zo, zo, zo, zo, zo, zt, zo], _, _, rfl, ?_, ?_⟩
  · exact ⟨trivial, trivial, trivial, zbf (by rw [zc_gt (p := (a1).toInt) (q := 0) (by simp only [zi_64]) (by decide +kernel) (by omega)]; decide), trivial, trivial, trivial, zbt (by rw [zc_gt (p := (a1).toInt) (q := 99) (by simp only [zi_64]) (by decide +kernel) (by omega)]; decide), trivial, trivial⟩
  · exact zfin_i rfl rfl rfl
set_option maxRecDepth 100000 in
set_option maxHeartbeats 4000000 in
theorem zq180 (zn : Bool) (d : Nat) (a1 : Int32) (ha1l : 100 ≤ a1.toInt) (ha1h : a1.toInt ≤ 2147483647) : z_sem zn (d + 2) 201 [.ref 79, .int a1] zh40 (some (.int (Int32.ofInt 0))) zh42 := by
  refine ⟨zu_X12_crowd, Nat.le_of_ble_eq_true rfl, Nat.le_of_ble_eq_true rfl, [zo, zo, zo, zo, zo, zo, zo, zc (some (.int (Int32.ofInt 0))) zh42, zt, zo], _, _, rfl, ?_, ?_⟩
  · exact ⟨trivial, trivial, ⟨(Nat.le_of_ble_eq_true rfl), rfl, rfl⟩, trivial, trivial, trivial, trivial, ⟨(Nat.le_of_ble_eq_true rfl), zq179 zn (d + 0) a1 ha1l ha1h, (Nat.le_of_ble_eq_true rfl), (Nat.le_of_ble_eq_true rfl), (Nat.le_of_ble_eq_true rfl), (Nat.le_of_ble_eq_true rfl), (Nat.le_of_ble_eq_true rfl)⟩, zbt (by decide +kernel), trivial, trivial⟩
  · exact zfin_i rfl rfl rfl
def zh181 (a1 : Int32) : z_H := (107, 35862, va_up (zh40.2.2) 68 (.inr (0, [.int a1, .long (Int64.ofNat 0)])))
set_option maxRecDepth 100000 in
set_option maxHeartbeats 4000000 in
theorem zq182 (zn : Bool) (d : Nat) (a1 : Int32) (ha1l : 99 ≤ a1.toInt) (ha1h : a1.toInt ≤ 99) : z_sem zn (d + 1) 134 [.ref 0, .int a1] zh40 (some (.int (Int32.ofInt 1))) (zh181 a1) := by
  refine ⟨zu_X11_crowd, Nat.le_of_ble_eq_true rfl, Nat.le_of_ble_eq_true rfl, [zo, zo, zo, zo, zo, zo, zo, zo, zo, zt, zo, zo, zo, zo, zo], _, _, rfl, ?_, ?_⟩
  · exact ⟨trivial, zF_lt (q := 0) rfl (by decide +kernel) (by omega), trivial, trivial, zF_lt (p := 99) (by decide +kernel) rfl (by omega), trivial, trivial, (Nat.le_of_ble_eq_true rfl), (Nat.le_of_ble_eq_true rfl), zT_ne (q := 0) rfl (by decide +kernel) (by omega), trivial, (Nat.le_of_ble_eq_true rfl), trivial, ⟨(Nat.le_of_ble_eq_true rfl), rfl, rfl⟩, trivial, trivial⟩
  · exact zfin_i rfl rfl rfl
def zh183 (a1 : Int32) : z_H := (107, 35862, va_up ((zh181 a1).2.2) 79 (.inr (12, [.int (Int32.ofInt 0), .ref 80, .ref 81, .ref 82, .ref 83, .ref 80, .int 0, .int 0, .int 0, .int 0, .int 0, .int 0, .int 0, .int 0, .int 0, .ref (z_RO + 5), .ref (z_RO + 3), .int 0, .ref 84, .ref 85, .ref 86, .ref 87, .ref 88, .ref 89, .ref 90, .ref 91, .int 0, .int 0, .int 0, .int 0, .int 0, .ref 92, .ref 93, .int (Int32.ofInt (-1)), .int 0, .ref 94, .ref 95, .int 0, .int 0, .int 0, .int 0, .int 0, .int 0, .ref 96, .ref 97, .ref 98, .ref 99, .ref 100, .int 0, .int 0, .long 0, .ref 101, .ref 102, .int 0, .ref 103, .ref 104, .ref 105, .int 0])))
set_option maxRecDepth 100000 in
set_option maxHeartbeats 4000000 in
theorem zq184 (zn : Bool) (d : Nat) (a1 : Int32) (ha1l : 99 ≤ a1.toInt) (ha1h : a1.toInt ≤ 99) : z_sem zn (d + 1) 236 [.long (a1.toInt64), .long (Int64.ofNat 0), .long ((99))] (zh183 a1) (some (.int (Int32.ofInt 1))) (zh183 a1) := by
  refine ⟨zu_X12_isIn, Nat.le_of_ble_eq_true rfl, Nat.le_of_ble_eq_true rfl, [zo, zo, zo, zo, zo, zo, zo, zo, zo, zo], _, _, rfl, ?_, ?_⟩
  · exact ⟨trivial, trivial, trivial, zbf (by rw [zc_gt (p := (a1).toInt) (q := 0) (by simp only [zi_64]) (by decide +kernel) (by omega)]; decide), trivial, trivial, trivial, zbf (by rw [zc_eq (p := (a1).toInt) (q := 99) (by simp only [zi_64]) (by decide +kernel) (by omega)]; decide), trivial, trivial, trivial⟩
  · exact zfin_i rfl rfl rfl
def zh185 (a1 : Int32) : z_H := (107, 35862, va_up ((zh183 a1).2.2) 79 (.inr (12, [.int (Int32.ofInt 0), .ref 80, .ref 81, .ref 82, .ref 83, .ref 80, .int 0, .int 0, .int 0, .int 0, .int 0, .int 0, .int 0, .int 0, .int 0, .ref (z_RO + 5), .ref (z_RO + 3), .int 0, .ref 84, .ref 85, .ref 86, .ref 87, .ref 88, .ref 89, .ref 90, .ref 91, .int 0, .int 0, .int 0, .int 0, .int 0, .ref 92, .ref 93, .int (Int32.ofInt (-1)), .int a1, .ref 94, .ref 95, .int 0, .int 0, .int 0, .int 0, .int 0, .int 0, .ref 96, .ref 97, .ref 98, .ref 99, .ref 100, .int 0, .int 0, .long 0, .ref 101, .ref 102, .int 0, .ref 103, .ref 104, .ref 105, .int 0])))
set_option maxRecDepth 100000 in
set_option maxHeartbeats 4000000 in
theorem zq186 (zn : Bool) (d : Nat) (a1 : Int32) (ha1l : 99 ≤ a1.toInt) (ha1h : a1.toInt ≤ 99) : z_sem zn (d + 2) 201 [.ref 79, .int a1] (zh181 a1) (some (.int (Int32.ofInt 1))) (zh185 a1) := by
  refine ⟨zu_X12_crowd, Nat.le_of_ble_eq_true rfl, Nat.le_of_ble_eq_true rfl, [zo, zo, zo, zo, zo, zo, zo, zc (some (.int (Int32.ofInt 1))) (zh183 a1), zo, zo, zo, zo, zt, zo, zo, zo, zo], _, _, rfl, ?_, ?_⟩
  · exact ⟨trivial, trivial, ⟨(Nat.le_of_ble_eq_true rfl), rfl, rfl⟩, trivial, trivial, trivial, trivial, ⟨(Nat.le_of_ble_eq_true rfl), zq184 zn (d + 0) a1 ha1l ha1h, (Nat.le_of_ble_eq_true rfl), (Nat.le_of_ble_eq_true rfl), (Nat.le_of_ble_eq_true rfl), (Nat.le_of_ble_eq_true rfl), (Nat.le_of_ble_eq_true rfl)⟩, zbf (by decide +kernel), trivial, trivial, (Nat.le_of_ble_eq_true rfl), zT_ne (q := 0) rfl (by decide +kernel) (by omega), trivial, trivial, ⟨(Nat.le_of_ble_eq_true rfl), rfl, rfl⟩, trivial, trivial⟩
  · exact zfin_i rfl rfl rfl
set_option maxRecDepth 100000 in
set_option maxHeartbeats 4000000 in
theorem zq187 (zn : Bool) (d : Nat) (a1 : Int32) (ha1l : 1 ≤ a1.toInt) (ha1h : a1.toInt ≤ 98) : z_sem zn (d + 1) 134 [.ref 0, .int a1] zh40 (some (.int (Int32.ofInt 1))) (zh181 a1) := by
  refine ⟨zu_X11_crowd, Nat.le_of_ble_eq_true rfl, Nat.le_of_ble_eq_true rfl, [zo, zo, zo, zo, zo, zo, zo, zo, zo, zt, zo, zo, zo, zo, zo], _, _, rfl, ?_, ?_⟩
  · exact ⟨trivial, zF_lt (q := 0) rfl (by decide +kernel) (by omega), trivial, trivial, zF_lt (p := 99) (by decide +kernel) rfl (by omega), trivial, trivial, (Nat.le_of_ble_eq_true rfl), (Nat.le_of_ble_eq_true rfl), zT_ne (q := 0) rfl (by decide +kernel) (by omega), trivial, (Nat.le_of_ble_eq_true rfl), trivial, ⟨(Nat.le_of_ble_eq_true rfl), rfl, rfl⟩, trivial, trivial⟩
  · exact zfin_i rfl rfl rfl
set_option maxRecDepth 100000 in
set_option maxHeartbeats 4000000 in
theorem zq188 (zn : Bool) (d : Nat) (a1 : Int32) (ha1l : 1 ≤ a1.toInt) (ha1h : a1.toInt ≤ 98) : z_sem zn (d + 1) 236 [.long (a1.toInt64), .long (Int64.ofNat 0), .long ((99))] (zh183 a1) (some (.int (Int32.ofInt 1))) (zh183 a1) := by
  refine ⟨zu_X12_isIn, Nat.le_of_ble_eq_true rfl, Nat.le_of_ble_eq_true rfl, [zo, zo, zo, zo, zo, zo, zo, zo, zo, zo], _, _, rfl, ?_, ?_⟩
  · exact ⟨trivial, trivial, trivial, zbf (by rw [zc_gt (p := (a1).toInt) (q := 0) (by simp only [zi_64]) (by decide +kernel) (by omega)]; decide), trivial, trivial, trivial, zbf (by rw [zc_lt (p := (a1).toInt) (q := 99) (by simp only [zi_64]) (by decide +kernel) (by omega)]; decide), trivial, trivial, trivial⟩
  · exact zfin_i rfl rfl rfl
set_option maxRecDepth 100000 in
set_option maxHeartbeats 4000000 in
theorem zq189 (zn : Bool) (d : Nat) (a1 : Int32) (ha1l : 1 ≤ a1.toInt) (ha1h : a1.toInt ≤ 98) : z_sem zn (d + 2) 201 [.ref 79, .int a1] (zh181 a1) (some (.int (Int32.ofInt 1))) (zh185 a1) := by
  refine ⟨zu_X12_crowd, Nat.le_of_ble_eq_true rfl, Nat.le_of_ble_eq_true rfl, [zo, zo, zo, zo, zo, zo, zo, zc (some (.int (Int32.ofInt 1))) (zh183 a1), zo, zo, zo, zo, zt, zo, zo, zo, zo], _, _, rfl, ?_, ?_⟩
  · exact ⟨trivial, trivial, ⟨(Nat.le_of_ble_eq_true rfl), rfl, rfl⟩, trivial, trivial, trivial, trivial, ⟨(Nat.le_of_ble_eq_true rfl), zq188 zn (d + 0) a1 ha1l ha1h, (Nat.le_of_ble_eq_true rfl), (Nat.le_of_ble_eq_true rfl), (Nat.le_of_ble_eq_true rfl), (Nat.le_of_ble_eq_true rfl), (Nat.le_of_ble_eq_true rfl)⟩, zbf (by decide +kernel), trivial, trivial, (Nat.le_of_ble_eq_true rfl), zT_ne (q := 0) rfl (by decide +kernel) (by omega), trivial, trivial, ⟨(Nat.le_of_ble_eq_true rfl), rfl, rfl⟩, trivial, trivial⟩
  · exact zfin_i rfl rfl rfl
set_option maxRecDepth 100000 in
set_option maxHeartbeats 4000000 in
theorem zq190 (zn : Bool) (d : Nat) (a1 : Int32) (ha1l : 0 ≤ a1.toInt) (ha1h : a1.toInt ≤ 0) : z_sem zn (d + 1) 134 [.ref 0, .int a1] zh40 (some (.int (Int32.ofInt 0))) zh40 := by
  refine ⟨zu_X11_crowd, Nat.le_of_ble_eq_true rfl, Nat.le_of_ble_eq_true rfl, [zo, zo, zo, zo, zo, zo, zo, zo, zo, zo, zo], _, _, rfl, ?_, ?_⟩
  · exact ⟨trivial, zF_lt (q := 0) rfl (by decide +kernel) (by omega), trivial, trivial, zF_lt (p := 99) (by decide +kernel) rfl (by omega), trivial, trivial, (Nat.le_of_ble_eq_true rfl), (Nat.le_of_ble_eq_true rfl), zF_ne (q := 0) rfl (by decide +kernel) (by omega), trivial, trivial⟩
  · exact zfin_i rfl rfl rfl
set_option maxRecDepth 100000 in
set_option maxHeartbeats 4000000 in
theorem zq191 (zn : Bool) (d : Nat) (a1 : Int32) (ha1l : 0 ≤ a1.toInt) (ha1h : a1.toInt ≤ 0) : z_sem zn (d + 1) 236 [.long (a1.toInt64), .long (Int64.ofNat 0), .long ((99))] zh42 (some (.int (Int32.ofInt 1))) zh42 := by
  refine ⟨zu_X12_isIn, Nat.le_of_ble_eq_true rfl, Nat.le_of_ble_eq_true rfl, [zo, zo, zo, zo, zo, zo, zo, zo, zo, zo], _, _, rfl, ?_, ?_⟩
  · exact ⟨trivial, trivial, trivial, zbf (by rw [zc_eq (p := (a1).toInt) (q := 0) (by simp only [zi_64]) (by decide +kernel) (by omega)]; decide), trivial, trivial, trivial, zbf (by rw [zc_lt (p := (a1).toInt) (q := 99) (by simp only [zi_64]) (by decide +kernel) (by omega)]; decide), trivial, trivial, trivial⟩
  · exact zfin_i rfl rfl rfl
set_option maxRecDepth 100000 in
set_option maxHeartbeats 4000000 in
theorem zq192 (zn : Bool) (d : Nat) (a1 : Int32) (ha1l : 0 ≤ a1.toInt) (ha1h : a1.toInt ≤ 0) : z_sem zn (d + 2) 201 [.ref 79, .int a1] zh40 (some (.int (Int32.ofInt 0))) zh42 := by
  refine ⟨zu_X12_crowd, Nat.le_of_ble_eq_true rfl, Nat.le_of_ble_eq_true rfl, [zo, zo, zo, zo, zo, zo, zo, zc (some (.int (Int32.ofInt 1))) zh42, zo, zo, zo, zo, zo, zo], _, _, rfl, ?_, ?_⟩
  · exact ⟨trivial, trivial, ⟨(Nat.le_of_ble_eq_true rfl), rfl, rfl⟩, trivial, trivial, trivial, trivial, ⟨(Nat.le_of_ble_eq_true rfl), zq191 zn (d + 0) a1 ha1l ha1h, (Nat.le_of_ble_eq_true rfl), (Nat.le_of_ble_eq_true rfl), (Nat.le_of_ble_eq_true rfl), (Nat.le_of_ble_eq_true rfl), (Nat.le_of_ble_eq_true rfl)⟩, zbf (by decide +kernel), trivial, trivial, (Nat.le_of_ble_eq_true rfl), zF_ne (q := 0) rfl (by decide +kernel) (by omega), trivial, trivial⟩
  · exact zfin_i rfl rfl rfl
set_option maxRecDepth 100000 in
set_option maxHeartbeats 4000000 in
theorem zq193 (zn : Bool) (d : Nat) (a1 : Int32) (ha1l : -2147483648 ≤ a1.toInt) (ha1h : a1.toInt ≤ -1) : z_sem zn (d + 1) 134 [.ref 0, .int a1] zh40 (some (.int (Int32.ofInt 0))) zh40 := by
  refine ⟨zu_X11_crowd, Nat.le_of_ble_eq_true rfl, Nat.le_of_ble_eq_true rfl, [zo, zt, zo], _, _, rfl, ?_, ?_⟩
  · exact ⟨trivial, zT_lt (q := 0) rfl (by decide +kernel) (by omega), trivial, trivial⟩
  · exact zfin_i rfl rfl rfl
set_option maxRecDepth 100000 in
set_option maxHeartbeats 4000000 in
theorem zq194 (zn : Bool) (d : Nat) (a1 : Int32) (ha1l : -2147483648 ≤ a1.toInt) (ha1h : a1.toInt ≤ -1) : z_sem zn (d + 1) 236 [.long (a1.toInt64), .long (Int64.ofNat 0), .long ((99))] zh42 (some (.int (Int32.ofInt 0))) zh42 := by
  refine ⟨zu_X12_isIn, Nat.le_of_ble_eq_true rfl, Nat.le_of_ble_eq_true rfl, [zo, zo, zo, zt, zo], _, _, rfl, ?_, ?_⟩
  · exact ⟨trivial, trivial, trivial, zbt (by rw [zc_lt (p := (a1).toInt) (q := 0) (by simp only [zi_64]) (by decide +kernel) (by omega)]; decide), trivial, trivial⟩
  · exact zfin_i rfl rfl rfl
set_option maxRecDepth 100000 in
set_option maxHeartbeats 4000000 in
theorem zq195 (zn : Bool) (d : Nat) (a1 : Int32) (ha1l : -2147483648 ≤ a1.toInt) (ha1h : a1.toInt ≤ -1) : z_sem zn (d + 2) 201 [.ref 79, .int a1] zh40 (some (.int (Int32.ofInt 0))) zh42 := by
  refine ⟨zu_X12_crowd, Nat.le_of_ble_eq_true rfl, Nat.le_of_ble_eq_true rfl, [zo, zo, zo, zo, zo, zo, zo, zc (some (.int (Int32.ofInt 0))) zh42, zt, zo], _, _, rfl, ?_, ?_⟩
  · exact ⟨trivial, trivial, ⟨(Nat.le_of_ble_eq_true rfl), rfl, rfl⟩, trivial, trivial, trivial, trivial, ⟨(Nat.le_of_ble_eq_true rfl), zq194 zn (d + 0) a1 ha1l ha1h, (Nat.le_of_ble_eq_true rfl), (Nat.le_of_ble_eq_true rfl), (Nat.le_of_ble_eq_true rfl), (Nat.le_of_ble_eq_true rfl), (Nat.le_of_ble_eq_true rfl)⟩, zbt (by decide +kernel), trivial, trivial⟩
  · exact zfin_i rfl rfl rfl
set_option maxRecDepth 100000 in
set_option maxHeartbeats 4000000 in
theorem zq196 (zn : Bool) (d : Nat) (a1 : Int32) (ha1l : -2147483648 ≤ a1.toInt) (ha1h : a1.toInt ≤ 2147483647) : z_sem zn (d + 1) 145 [.ref 0, .int a1] zh40 (some (.int (Int32.ofInt (-1)))) zh40 := by
  refine ⟨zu_X11_go, Nat.le_of_ble_eq_true rfl, Nat.le_of_ble_eq_true rfl, [zo, zo, zt, zo], _, _, rfl, ?_, ?_⟩
  · exact ⟨trivial, (Nat.le_of_ble_eq_true rfl), zbt (by decide +kernel), trivial, trivial⟩
  · exact zfin_i rfl rfl rfl
set_option maxRecDepth 100000 in
set_option maxHeartbeats 4000000 in
theorem zq197 (zn : Bool) (d : Nat) : z_sem zn (d + 1) 235 [.ref 79] zh42 (some (.int (Int32.ofInt 0))) zh42 := by
  refine ⟨zu_X12_isHere, Nat.le_of_ble_eq_true rfl, Nat.le_of_ble_eq_true rfl, [zo, zo, zt, zo], _, _, rfl, ?_, ?_⟩
  · exact ⟨trivial, (Nat.le_of_ble_eq_true rfl), zbt (by decide +kernel), trivial, trivial⟩
  · exact zfin_i rfl rfl rfl
set_option maxRecDepth 100000 in
set_option maxHeartbeats 4000000 in
theorem zq198 (zn : Bool) (d : Nat) (a1 : Int32) (ha1l : -2147483648 ≤ a1.toInt) (ha1h : a1.toInt ≤ 2147483647) : z_sem zn (d + 2) 218 [.ref 79, .int a1] zh40 (some (.int (Int32.ofInt (-1)))) zh42 := by
  refine ⟨zu_X12_go, Nat.le_of_ble_eq_true rfl, Nat.le_of_ble_eq_true rfl, [zo, zo, zo, zo, zc (some (.int (Int32.ofInt 0))) zh42, zt, zo], _, _, rfl, ?_, ?_⟩
  · exact ⟨trivial, trivial, ⟨(Nat.le_of_ble_eq_true rfl), rfl, rfl⟩, trivial, ⟨⟨(Nat.le_of_ble_eq_true rfl), (Nat.le_of_ble_eq_true rfl)⟩, zq197 zn (d + 0), (Nat.le_of_ble_eq_true rfl), (Nat.le_of_ble_eq_true rfl), (Nat.le_of_ble_eq_true rfl), (Nat.le_of_ble_eq_true rfl), (Nat.le_of_ble_eq_true rfl)⟩, zbt (by decide +kernel), trivial, trivial⟩
  · exact zfin_i rfl rfl rfl
set_option maxRecDepth 100000 in
set_option maxHeartbeats 4000000 in
theorem zq199 (zn : Bool) (d : Nat) (a1 : Int32) (ha1l : -2147483648 ≤ a1.toInt) (ha1h : a1.toInt ≤ 2147483647) (w1 : Int64) : z_sem zn (d + 1) 135 [.ref 0, .int a1, .long w1] zh40 (some (.int (Int32.ofInt (-1)))) zh40 := by
  refine ⟨zu_X11_crowds, Nat.le_of_ble_eq_true rfl, Nat.le_of_ble_eq_true rfl, [zo, zo, zt, zo], _, _, rfl, ?_, ?_⟩
  · exact ⟨trivial, (Nat.le_of_ble_eq_true rfl), zbt (by decide +kernel), trivial, trivial⟩
  · exact zfin_i rfl rfl rfl
set_option maxRecDepth 100000 in
set_option maxHeartbeats 4000000 in
theorem zq200 (zn : Bool) (d : Nat) (a1 : Int32) (ha1l : -2147483648 ≤ a1.toInt) (ha1h : a1.toInt ≤ 2147483647) (w1 : Int64) : z_sem zn (d + 2) 202 [.ref 79, .int a1, .long w1] zh40 (some (.int (Int32.ofInt (-1)))) zh42 := by
  refine ⟨zu_X12_crowds, Nat.le_of_ble_eq_true rfl, Nat.le_of_ble_eq_true rfl, [zo, zo, zo, zo, zc (some (.int (Int32.ofInt 0))) zh42, zt, zo], _, _, rfl, ?_, ?_⟩
  · exact ⟨trivial, trivial, ⟨(Nat.le_of_ble_eq_true rfl), rfl, rfl⟩, trivial, ⟨⟨(Nat.le_of_ble_eq_true rfl), (Nat.le_of_ble_eq_true rfl)⟩, zq197 zn (d + 0), (Nat.le_of_ble_eq_true rfl), (Nat.le_of_ble_eq_true rfl), (Nat.le_of_ble_eq_true rfl), (Nat.le_of_ble_eq_true rfl), (Nat.le_of_ble_eq_true rfl)⟩, zbt (by decide +kernel), trivial, trivial⟩
  · exact zfin_i rfl rfl rfl
set_option maxRecDepth 100000 in
set_option maxHeartbeats 4000000 in
theorem zq201 (zn : Bool) (d : Nat) (a1 : Int32) (ha1l : 1 ≤ a1.toInt) (ha1h : a1.toInt ≤ 2147483647) (a2 : Int32) (ha2l : -2147483648 ≤ a2.toInt) (ha2h : a2.toInt ≤ 2147483647) : z_sem zn (d + 2) 172 [.ref 0, .int a1, .int a2] zh40 (some (.int (Int32.ofInt (-1)))) zh40 := by
  refine ⟨zu_X11_send, Nat.le_of_ble_eq_true rfl, Nat.le_of_ble_eq_true rfl, [zo, zo, zc (some (.int (Int32.ofInt 0))) zh40, zt, zo], _, _, rfl, ?_, ?_⟩
  · exact ⟨trivial, trivial, ⟨⟨(Nat.le_of_ble_eq_true rfl), (Nat.le_of_ble_eq_true rfl)⟩, zq141 zn (d + 0) a1 ha1l ha1h, (Nat.le_of_ble_eq_true rfl), (Nat.le_of_ble_eq_true rfl), (Nat.le_of_ble_eq_true rfl), (Nat.le_of_ble_eq_true rfl), (Nat.le_of_ble_eq_true rfl)⟩, zbt (by decide +kernel), trivial, trivial⟩
  · exact zfin_i rfl rfl rfl
set_option maxRecDepth 100000 in
set_option maxHeartbeats 4000000 in
theorem zq202 (zn : Bool) (d : Nat) (a1 : Int32) (ha1l : 1 ≤ a1.toInt) (ha1h : a1.toInt ≤ 2147483647) (a2 : Int32) (ha2l : -2147483648 ≤ a2.toInt) (ha2h : a2.toInt ≤ 2147483647) : z_sem zn (d + 2) 276 [.ref 79, .int a1, .int a2] zh40 (some (.int (Int32.ofInt (-1)))) zh42 := by
  refine ⟨zu_X12_send, Nat.le_of_ble_eq_true rfl, Nat.le_of_ble_eq_true rfl, [zo, zo, zo, zo, zo, zo, zo, zo, zo, zo, zo, zo, zo, zc (some (.int (Int32.ofInt 0))) zh42, zt, zo], _, _, rfl, ?_, ?_⟩
  · exact ⟨trivial, trivial, ⟨(Nat.le_of_ble_eq_true rfl), rfl, rfl⟩, trivial, trivial, trivial, trivial, trivial, trivial, trivial, trivial, trivial, trivial, ⟨⟨(Nat.le_of_ble_eq_true rfl), (Nat.le_of_ble_eq_true rfl)⟩, zq143 zn (d + 0) a1 ha1l ha1h, (Nat.le_of_ble_eq_true rfl), (Nat.le_of_ble_eq_true rfl), (Nat.le_of_ble_eq_true rfl), (Nat.le_of_ble_eq_true rfl), (Nat.le_of_ble_eq_true rfl)⟩, zbt (by decide +kernel), trivial, trivial⟩
  · exact zfin_i rfl rfl rfl
set_option maxRecDepth 100000 in
set_option maxHeartbeats 4000000 in
theorem zq203 (zn : Bool) (d : Nat) (a1 : Int32) (ha1l : 0 ≤ a1.toInt) (ha1h : a1.toInt ≤ 0) (a2 : Int32) (ha2l : -2147483648 ≤ a2.toInt) (ha2h : a2.toInt ≤ 2147483647) : z_sem zn (d + 2) 172 [.ref 0, .int a1, .int a2] zh40 (some (.int (Int32.ofInt (-1)))) zh40 := by
  refine ⟨zu_X11_send, Nat.le_of_ble_eq_true rfl, Nat.le_of_ble_eq_true rfl, [zo, zo, zc (some (.int (Int32.ofInt 0))) zh40, zt, zo], _, _, rfl, ?_, ?_⟩
  · exact ⟨trivial, trivial, ⟨⟨(Nat.le_of_ble_eq_true rfl), (Nat.le_of_ble_eq_true rfl)⟩, zq145 zn (d + 0) a1 ha1l ha1h, (Nat.le_of_ble_eq_true rfl), (Nat.le_of_ble_eq_true rfl), (Nat.le_of_ble_eq_true rfl), (Nat.le_of_ble_eq_true rfl), (Nat.le_of_ble_eq_true rfl)⟩, zbt (by decide +kernel), trivial, trivial⟩
  · exact zfin_i rfl rfl rfl
set_option maxRecDepth 100000 in
set_option maxHeartbeats 4000000 in
theorem zq204 (zn : Bool) (d : Nat) (a1 : Int32) (ha1l : 0 ≤ a1.toInt) (ha1h : a1.toInt ≤ 0) (a2 : Int32) (ha2l : -2147483648 ≤ a2.toInt) (ha2h : a2.toInt ≤ 2147483647) : z_sem zn (d + 2) 276 [.ref 79, .int a1, .int a2] zh40 (some (.int (Int32.ofInt (-1)))) zh42 := by
  refine ⟨zu_X12_send, Nat.le_of_ble_eq_true rfl, Nat.le_of_ble_eq_true rfl, [zo, zo, zo, zo, zo, zo, zo, zo, zo, zo, zo, zo, zo, zc (some (.int (Int32.ofInt 0))) zh42, zt, zo], _, _, rfl, ?_, ?_⟩
  · exact ⟨trivial, trivial, ⟨(Nat.le_of_ble_eq_true rfl), rfl, rfl⟩, trivial, trivial, trivial, trivial, trivial, trivial, trivial, trivial, trivial, trivial, ⟨⟨(Nat.le_of_ble_eq_true rfl), (Nat.le_of_ble_eq_true rfl)⟩, zq147 zn (d + 0) a1 ha1l ha1h, (Nat.le_of_ble_eq_true rfl), (Nat.le_of_ble_eq_true rfl), (Nat.le_of_ble_eq_true rfl), (Nat.le_of_ble_eq_true rfl), (Nat.le_of_ble_eq_true rfl)⟩, zbt (by decide +kernel), trivial, trivial⟩
  · exact zfin_i rfl rfl rfl
set_option maxRecDepth 100000 in
set_option maxHeartbeats 4000000 in
theorem zq205 (zn : Bool) (d : Nat) (a1 : Int32) (ha1l : -2147483648 ≤ a1.toInt) (ha1h : a1.toInt ≤ -1) (a2 : Int32) (ha2l : -2147483648 ≤ a2.toInt) (ha2h : a2.toInt ≤ 2147483647) : z_sem zn (d + 2) 172 [.ref 0, .int a1, .int a2] zh40 (some (.int (Int32.ofInt (-1)))) zh40 := by
  refine ⟨zu_X11_send, Nat.le_of_ble_eq_true rfl, Nat.le_of_ble_eq_true rfl, [zo, zo, zc (some (.int (Int32.ofInt 0))) zh40, zt, zo], _, _, rfl, ?_, ?_⟩
  · exact ⟨trivial, trivial, ⟨⟨(Nat.le_of_ble_eq_true rfl), (Nat.le_of_ble_eq_true rfl)⟩, zq149 zn (d + 0) a1 ha1l ha1h, (Nat.le_of_ble_eq_true rfl), (Nat.le_of_ble_eq_true rfl), (Nat.le_of_ble_eq_true rfl), (Nat.le_of_ble_eq_true rfl), (Nat.le_of_ble_eq_true rfl)⟩, zbt (by decide +kernel), trivial, trivial⟩
  · exact zfin_i rfl rfl rfl
set_option maxRecDepth 100000 in
set_option maxHeartbeats 4000000 in
theorem zq206 (zn : Bool) (d : Nat) (a1 : Int32) (ha1l : -2147483648 ≤ a1.toInt) (ha1h : a1.toInt ≤ -1) (a2 : Int32) (ha2l : -2147483648 ≤ a2.toInt) (ha2h : a2.toInt ≤ 2147483647) : z_sem zn (d + 2) 276 [.ref 79, .int a1, .int a2] zh40 (some (.int (Int32.ofInt (-1)))) zh42 := by
  refine ⟨zu_X12_send, Nat.le_of_ble_eq_true rfl, Nat.le_of_ble_eq_true rfl, [zo, zo, zo, zo, zo, zo, zo, zo, zo, zo, zo, zo, zo, zc (some (.int (Int32.ofInt 0))) zh42, zt, zo], _, _, rfl, ?_, ?_⟩
  · exact ⟨trivial, trivial, ⟨(Nat.le_of_ble_eq_true rfl), rfl, rfl⟩, trivial, trivial, trivial, trivial, trivial, trivial, trivial, trivial, trivial, trivial, ⟨⟨(Nat.le_of_ble_eq_true rfl), (Nat.le_of_ble_eq_true rfl)⟩, zq151 zn (d + 0) a1 ha1l ha1h, (Nat.le_of_ble_eq_true rfl), (Nat.le_of_ble_eq_true rfl), (Nat.le_of_ble_eq_true rfl), (Nat.le_of_ble_eq_true rfl), (Nat.le_of_ble_eq_true rfl)⟩, zbt (by decide +kernel), trivial, trivial⟩
  · exact zfin_i rfl rfl rfl
set_option maxRecDepth 100000 in
set_option maxHeartbeats 4000000 in
theorem zq207 (zn : Bool) (d : Nat) (a1 : Int32) (ha1l : 1 ≤ a1.toInt) (ha1h : a1.toInt ≤ 2147483647) : z_sem zn (d + 2) 130 [.ref 0, .int a1, .int 0] zh40 (some (.int (Int32.ofInt (-1)))) zh40 := by
  refine ⟨zu_X11_blind, Nat.le_of_ble_eq_true rfl, Nat.le_of_ble_eq_true rfl, [zo, zo, zc (some (.int (Int32.ofInt 0))) zh40, zt, zo], _, _, rfl, ?_, ?_⟩
  · exact ⟨trivial, trivial, ⟨⟨(Nat.le_of_ble_eq_true rfl), (Nat.le_of_ble_eq_true rfl)⟩, zq141 zn (d + 0) a1 ha1l ha1h, (Nat.le_of_ble_eq_true rfl), (Nat.le_of_ble_eq_true rfl), (Nat.le_of_ble_eq_true rfl), (Nat.le_of_ble_eq_true rfl), (Nat.le_of_ble_eq_true rfl)⟩, zbt (by decide +kernel), trivial, trivial⟩
  · exact zfin_i rfl rfl rfl
set_option maxRecDepth 100000 in
set_option maxHeartbeats 4000000 in
theorem zq208 (zn : Bool) (d : Nat) (a1 : Int32) (ha1l : 1 ≤ a1.toInt) (ha1h : a1.toInt ≤ 2147483647) : z_sem zn (d + 2) 191 [.ref 79, .int a1, .int 0] zh40 (some (.int (Int32.ofInt (-1)))) zh42 := by
  refine ⟨zu_X12_blind, Nat.le_of_ble_eq_true rfl, Nat.le_of_ble_eq_true rfl, [zo, zo, zo, zo, zo, zo, zo, zo, zo, zo, zo, zo, zo, zc (some (.int (Int32.ofInt 0))) zh42, zt, zo], _, _, rfl, ?_, ?_⟩
  · exact ⟨trivial, trivial, ⟨(Nat.le_of_ble_eq_true rfl), rfl, rfl⟩, trivial, trivial, trivial, trivial, trivial, trivial, trivial, trivial, trivial, trivial, ⟨⟨(Nat.le_of_ble_eq_true rfl), (Nat.le_of_ble_eq_true rfl)⟩, zq143 zn (d + 0) a1 ha1l ha1h, (Nat.le_of_ble_eq_true rfl), (Nat.le_of_ble_eq_true rfl), (Nat.le_of_ble_eq_true rfl), (Nat.le_of_ble_eq_true rfl), (Nat.le_of_ble_eq_true rfl)⟩, zbt (by decide +kernel), trivial, trivial⟩
  · exact zfin_i rfl rfl rfl
set_option maxRecDepth 100000 in
set_option maxHeartbeats 4000000 in
theorem zq209 (zn : Bool) (d : Nat) (a1 : Int32) (ha1l : 1 ≤ a1.toInt) (ha1h : a1.toInt ≤ 2147483647) : z_sem zn (d + 2) 130 [.ref 0, .int a1, .int 1] zh40 (some (.int (Int32.ofInt (-1)))) zh40 := by
  refine ⟨zu_X11_blind, Nat.le_of_ble_eq_true rfl, Nat.le_of_ble_eq_true rfl, [zo, zo, zc (some (.int (Int32.ofInt 0))) zh40, zt, zo], _, _, rfl, ?_, ?_⟩
  · exact ⟨trivial, trivial, ⟨⟨(Nat.le_of_ble_eq_true rfl), (Nat.le_of_ble_eq_true rfl)⟩, zq141 zn (d + 0) a1 ha1l ha1h, (Nat.le_of_ble_eq_true rfl), (Nat.le_of_ble_eq_true rfl), (Nat.le_of_ble_eq_true rfl), (Nat.le_of_ble_eq_true rfl), (Nat.le_of_ble_eq_true rfl)⟩, zbt (by decide +kernel), trivial, trivial⟩
  · exact zfin_i rfl rfl rfl
set_option maxRecDepth 100000 in
set_option maxHeartbeats 4000000 in
theorem zq210 (zn : Bool) (d : Nat) (a1 : Int32) (ha1l : 1 ≤ a1.toInt) (ha1h : a1.toInt ≤ 2147483647) : z_sem zn (d + 2) 191 [.ref 79, .int a1, .int 1] zh40 (some (.int (Int32.ofInt (-1)))) zh42 := by
  refine ⟨zu_X12_blind, Nat.le_of_ble_eq_true rfl, Nat.le_of_ble_eq_true rfl, [zo, zo, zo, zo, zo, zo, zo, zo, zo, zo, zo, zo, zo, zc (some (.int (Int32.ofInt 0))) zh42, zt, zo], _, _, rfl, ?_, ?_⟩
  · exact ⟨trivial, trivial, ⟨(Nat.le_of_ble_eq_true rfl), rfl, rfl⟩, trivial, trivial, trivial, trivial, trivial, trivial, trivial, trivial, trivial, trivial, ⟨⟨(Nat.le_of_ble_eq_true rfl), (Nat.le_of_ble_eq_true rfl)⟩, zq143 zn (d + 0) a1 ha1l ha1h, (Nat.le_of_ble_eq_true rfl), (Nat.le_of_ble_eq_true rfl), (Nat.le_of_ble_eq_true rfl), (Nat.le_of_ble_eq_true rfl), (Nat.le_of_ble_eq_true rfl)⟩, zbt (by decide +kernel), trivial, trivial⟩
  · exact zfin_i rfl rfl rfl
set_option maxRecDepth 100000 in
set_option maxHeartbeats 4000000 in
theorem zq211 (zn : Bool) (d : Nat) (a1 : Int32) (ha1l : 0 ≤ a1.toInt) (ha1h : a1.toInt ≤ 0) : z_sem zn (d + 2) 130 [.ref 0, .int a1, .int 0] zh40 (some (.int (Int32.ofInt (-1)))) zh40 := by
  refine ⟨zu_X11_blind, Nat.le_of_ble_eq_true rfl, Nat.le_of_ble_eq_true rfl, [zo, zo, zc (some (.int (Int32.ofInt 0))) zh40, zt, zo], _, _, rfl, ?_, ?_⟩
  · exact ⟨trivial, trivial, ⟨⟨(Nat.le_of_ble_eq_true rfl), (Nat.le_of_ble_eq_true rfl)⟩, zq145 zn (d + 0) a1 ha1l ha1h, (Nat.le_of_ble_eq_true rfl), (Nat.le_of_ble_eq_true rfl), (Nat.le_of_ble_eq_true rfl), (Nat.le_of_ble_eq_true rfl), (Nat.le_of_ble_eq_true rfl)⟩, zbt (by decide +kernel), trivial, trivial⟩
  · exact zfin_i rfl rfl rfl
set_option maxRecDepth 100000 in
set_option maxHeartbeats 4000000 in
theorem zq212 (zn : Bool) (d : Nat) (a1 : Int32) (ha1l : 0 ≤ a1.toInt) (ha1h : a1.toInt ≤ 0) : z_sem zn (d + 2) 191 [.ref 79, .int a1, .int 0] zh40 (some (.int (Int32.ofInt (-1)))) zh42 := by
  refine ⟨zu_X12_blind, Nat.le_of_ble_eq_true rfl, Nat.le_of_ble_eq_true rfl, [zo, zo, zo, zo, zo, zo, zo, zo, zo, zo, zo, zo, zo, zc (some (.int (Int32.ofInt 0))) zh42, zt, zo], _, _, rfl, ?_, ?_⟩
  · exact ⟨trivial, trivial, ⟨(Nat.le_of_ble_eq_true rfl), rfl, rfl⟩, trivial, trivial, trivial, trivial, trivial, trivial, trivial, trivial, trivial, trivial, ⟨⟨(Nat.le_of_ble_eq_true rfl), (Nat.le_of_ble_eq_true rfl)⟩, zq147 zn (d + 0) a1 ha1l ha1h, (Nat.le_of_ble_eq_true rfl), (Nat.le_of_ble_eq_true rfl), (Nat.le_of_ble_eq_true rfl), (Nat.le_of_ble_eq_true rfl), (Nat.le_of_ble_eq_true rfl)⟩, zbt (by decide +kernel), trivial, trivial⟩
  · exact zfin_i rfl rfl rfl
set_option maxRecDepth 100000 in
set_option maxHeartbeats 4000000 in
theorem zq213 (zn : Bool) (d : Nat) (a1 : Int32) (ha1l : 0 ≤ a1.toInt) (ha1h : a1.toInt ≤ 0) : z_sem zn (d + 2) 130 [.ref 0, .int a1, .int 1] zh40 (some (.int (Int32.ofInt (-1)))) zh40 := by
  refine ⟨zu_X11_blind, Nat.le_of_ble_eq_true rfl, Nat.le_of_ble_eq_true rfl, [zo, zo, zc (some (.int (Int32.ofInt 0))) zh40, zt, zo], _, _, rfl, ?_, ?_⟩
  · exact ⟨trivial, trivial, ⟨⟨(Nat.le_of_ble_eq_true rfl), (Nat.le_of_ble_eq_true rfl)⟩, zq145 zn (d + 0) a1 ha1l ha1h, (Nat.le_of_ble_eq_true rfl), (Nat.le_of_ble_eq_true rfl), (Nat.le_of_ble_eq_true rfl), (Nat.le_of_ble_eq_true rfl), (Nat.le_of_ble_eq_true rfl)⟩, zbt (by decide +kernel), trivial, trivial⟩
  · exact zfin_i rfl rfl rfl
set_option maxRecDepth 100000 in
set_option maxHeartbeats 4000000 in
theorem zq214 (zn : Bool) (d : Nat) (a1 : Int32) (ha1l : 0 ≤ a1.toInt) (ha1h : a1.toInt ≤ 0) : z_sem zn (d + 2) 191 [.ref 79, .int a1, .int 1] zh40 (some (.int (Int32.ofInt (-1)))) zh42 := by
  refine ⟨zu_X12_blind, Nat.le_of_ble_eq_true rfl, Nat.le_of_ble_eq_true rfl, [zo, zo, zo, zo, zo, zo, zo, zo, zo, zo, zo, zo, zo, zc (some (.int (Int32.ofInt 0))) zh42, zt, zo], _, _, rfl, ?_, ?_⟩
  · exact ⟨trivial, trivial, ⟨(Nat.le_of_ble_eq_true rfl), rfl, rfl⟩, trivial, trivial, trivial, trivial, trivial, trivial, trivial, trivial, trivial, trivial, ⟨⟨(Nat.le_of_ble_eq_true rfl), (Nat.le_of_ble_eq_true rfl)⟩, zq147 zn (d + 0) a1 ha1l ha1h, (Nat.le_of_ble_eq_true rfl), (Nat.le_of_ble_eq_true rfl), (Nat.le_of_ble_eq_true rfl), (Nat.le_of_ble_eq_true rfl), (Nat.le_of_ble_eq_true rfl)⟩, zbt (by decide +kernel), trivial, trivial⟩
  · exact zfin_i rfl rfl rfl
set_option maxRecDepth 100000 in
set_option maxHeartbeats 4000000 in
theorem zq215 (zn : Bool) (d : Nat) (a1 : Int32) (ha1l : -2147483648 ≤ a1.toInt) (ha1h : a1.toInt ≤ -1) : z_sem zn (d + 2) 130 [.ref 0, .int a1, .int 0] zh40 (some (.int (Int32.ofInt (-1)))) zh40 := by
  refine ⟨zu_X11_blind, Nat.le_of_ble_eq_true rfl, Nat.le_of_ble_eq_true rfl, [zo, zo, zc (some (.int (Int32.ofInt 0))) zh40, zt, zo], _, _, rfl, ?_, ?_⟩
  · exact ⟨trivial, trivial, ⟨⟨(Nat.le_of_ble_eq_true rfl), (Nat.le_of_ble_eq_true rfl)⟩, zq149 zn (d + 0) a1 ha1l ha1h, (Nat.le_of_ble_eq_true rfl), (Nat.le_of_ble_eq_true rfl), (Nat.le_of_ble_eq_true rfl), (Nat.le_of_ble_eq_true rfl), (Nat.le_of_ble_eq_true rfl)⟩, zbt (by decide +kernel), trivial, trivial⟩
  · exact zfin_i rfl rfl rfl
set_option maxRecDepth 100000 in
set_option maxHeartbeats 4000000 in
theorem zq216 (zn : Bool) (d : Nat) (a1 : Int32) (ha1l : -2147483648 ≤ a1.toInt) (ha1h : a1.toInt ≤ -1) : z_sem zn (d + 2) 191 [.ref 79, .int a1, .int 0] zh40 (some (.int (Int32.ofInt (-1)))) zh42 := by
  refine ⟨zu_X12_blind, Nat.le_of_ble_eq_true rfl, Nat.le_of_ble_eq_true rfl, [zo, zo, zo, zo, zo, zo, zo, zo, zo, zo, zo, zo, zo, zc (some (.int (Int32.ofInt 0))) zh42, zt, zo], _, _, rfl, ?_, ?_⟩
  · exact ⟨trivial, trivial, ⟨(Nat.le_of_ble_eq_true rfl), rfl, rfl⟩, trivial, trivial, trivial, trivial, trivial, trivial, trivial, trivial, trivial, trivial, ⟨⟨(Nat.le_of_ble_eq_true rfl), (Nat.le_of_ble_eq_true rfl)⟩, zq151 zn (d + 0) a1 ha1l ha1h, (Nat.le_of_ble_eq_true rfl), (Nat.le_of_ble_eq_true rfl), (Nat.le_of_ble_eq_true rfl), (Nat.le_of_ble_eq_true rfl), (Nat.le_of_ble_eq_true rfl)⟩, zbt (by decide +kernel), trivial, trivial⟩
  · exact zfin_i rfl rfl rfl
set_option maxRecDepth 100000 in
set_option maxHeartbeats 4000000 in
theorem zq217 (zn : Bool) (d : Nat) (a1 : Int32) (ha1l : -2147483648 ≤ a1.toInt) (ha1h : a1.toInt ≤ -1) : z_sem zn (d + 2) 130 [.ref 0, .int a1, .int 1] zh40 (some (.int (Int32.ofInt (-1)))) zh40 := by
  refine ⟨zu_X11_blind, Nat.le_of_ble_eq_true rfl, Nat.le_of_ble_eq_true rfl, [zo, zo, zc (some (.int (Int32.ofInt 0))) zh40, zt, zo], _, _, rfl, ?_, ?_⟩
  · exact ⟨trivial, trivial, ⟨⟨(Nat.le_of_ble_eq_true rfl), (Nat.le_of_ble_eq_true rfl)⟩, zq149 zn (d + 0) a1 ha1l ha1h, (Nat.le_of_ble_eq_true rfl), (Nat.le_of_ble_eq_true rfl), (Nat.le_of_ble_eq_true rfl), (Nat.le_of_ble_eq_true rfl), (Nat.le_of_ble_eq_true rfl)⟩, zbt (by decide +kernel), trivial, trivial⟩
  · exact zfin_i rfl rfl rfl
set_option maxRecDepth 100000 in
set_option maxHeartbeats 4000000 in
theorem zq218 (zn : Bool) (d : Nat) (a1 : Int32) (ha1l : -2147483648 ≤ a1.toInt) (ha1h : a1.toInt ≤ -1) : z_sem zn (d + 2) 191 [.ref 79, .int a1, .int 1] zh40 (some (.int (Int32.ofInt (-1)))) zh42 := by
  refine ⟨zu_X12_blind, Nat.le_of_ble_eq_true rfl, Nat.le_of_ble_eq_true rfl, [zo, zo, zo, zo, zo, zo, zo, zo, zo, zo, zo, zo, zo, zc (some (.int (Int32.ofInt 0))) zh42, zt, zo], _, _, rfl, ?_, ?_⟩
  · exact ⟨trivial, trivial, ⟨(Nat.le_of_ble_eq_true rfl), rfl, rfl⟩, trivial, trivial, trivial, trivial, trivial, trivial, trivial, trivial, trivial, trivial, ⟨⟨(Nat.le_of_ble_eq_true rfl), (Nat.le_of_ble_eq_true rfl)⟩, zq151 zn (d + 0) a1 ha1l ha1h, (Nat.le_of_ble_eq_true rfl), (Nat.le_of_ble_eq_true rfl), (Nat.le_of_ble_eq_true rfl), (Nat.le_of_ble_eq_true rfl), (Nat.le_of_ble_eq_true rfl)⟩, zbt (by decide +kernel), trivial, trivial⟩
  · exact zfin_i rfl rfl rfl
set_option maxRecDepth 100000 in
set_option maxHeartbeats 4000000 in
theorem zq219 (zn : Bool) (d : Nat) (a1 : Int32) (ha1l : 1 ≤ a1.toInt) (ha1h : a1.toInt ≤ 2147483647) : z_sem zn (d + 1) 150 [.ref 0, .int a1] zh40 (some (.int (Int32.ofInt 0))) zh40 := by
  refine ⟨zu_X11_isClock, Nat.le_of_ble_eq_true rfl, Nat.le_of_ble_eq_true rfl, [zo, zo, zo, zo, zo, zo, zo, zt, zo], _, _, rfl, ?_, ?_⟩
  · exact ⟨trivial, zF_lt (q := 0) rfl (by decide +kernel) (by omega), trivial, trivial, (Nat.le_of_ble_eq_true rfl), trivial, ⟨(Nat.le_of_ble_eq_true rfl), (zvin (by decide +kernel))⟩, zT_le (p := 0) (by decide +kernel) rfl (by omega), trivial, trivial⟩
  · exact zfin_i rfl rfl rfl
set_option maxRecDepth 100000 in
set_option maxHeartbeats 4000000 in
theorem zq220 (zn : Bool) (d : Nat) (a1 : Int32) (ha1l : 1 ≤ a1.toInt) (ha1h : a1.toInt ≤ 2147483647) : z_sem zn (d + 2) 151 [.ref 0, .int a1] zh40 (some (.int (Int32.ofInt 0))) zh40 := by
  refine ⟨zu_X11_isLiving, Nat.le_of_ble_eq_true rfl, Nat.le_of_ble_eq_true rfl, [zo, zo, zc (some (.int (Int32.ofInt 0))) zh40, zt, zo], _, _, rfl, ?_, ?_⟩
  · exact ⟨trivial, trivial, ⟨⟨(Nat.le_of_ble_eq_true rfl), (Nat.le_of_ble_eq_true rfl)⟩, zq219 zn (d + 0) a1 ha1l ha1h, (Nat.le_of_ble_eq_true rfl), (Nat.le_of_ble_eq_true rfl), (Nat.le_of_ble_eq_true rfl), (Nat.le_of_ble_eq_true rfl), (Nat.le_of_ble_eq_true rfl)⟩, zbt (by decide +kernel), trivial, trivial⟩
  · exact zfin_i rfl rfl rfl
set_option maxRecDepth 100000 in
set_option maxHeartbeats 4000000 in
theorem zq221 (zn : Bool) (d : Nat) (a1 : Int32) (ha1l : 1 ≤ a1.toInt) (ha1h : a1.toInt ≤ 2147483647) (a2 : Int32) (ha2l : -2147483648 ≤ a2.toInt) (ha2h : a2.toInt ≤ 2147483647) : z_sem zn (d + 3) 146 [.ref 0, .int a1, .int a2] zh40 (some (.int (Int32.ofInt (-1)))) zh40 := by
  refine ⟨zu_X11_hang, Nat.le_of_ble_eq_true rfl, Nat.le_of_ble_eq_true rfl, [zo, zo, zc (some (.int (Int32.ofInt 0))) zh40, zt, zo], _, _, rfl, ?_, ?_⟩
  · exact ⟨trivial, trivial, ⟨⟨(Nat.le_of_ble_eq_true rfl), (Nat.le_of_ble_eq_true rfl)⟩, zq220 zn (d + 0) a1 ha1l ha1h, (Nat.le_of_ble_eq_true rfl), (Nat.le_of_ble_eq_true rfl), (Nat.le_of_ble_eq_true rfl), (Nat.le_of_ble_eq_true rfl), (Nat.le_of_ble_eq_true rfl)⟩, zbt (by decide +kernel), trivial, trivial⟩
  · exact zfin_i rfl rfl rfl
set_option maxRecDepth 100000 in
set_option maxHeartbeats 4000000 in
theorem zq222 (zn : Bool) (d : Nat) (a1 : Int32) (ha1l : 1 ≤ a1.toInt) (ha1h : a1.toInt ≤ 2147483647) : z_sem zn (d + 1) 233 [.ref 79, .int a1] zh42 (some (.int (Int32.ofInt 0))) zh42 := by
  refine ⟨zu_X12_isClock, Nat.le_of_ble_eq_true rfl, Nat.le_of_ble_eq_true rfl, [zo, zo, zo, zo, zo, zo, zo, zt, zo], _, _, rfl, ?_, ?_⟩
  · exact ⟨trivial, zF_lt (q := 0) rfl (by decide +kernel) (by omega), trivial, trivial, (Nat.le_of_ble_eq_true rfl), trivial, ⟨(Nat.le_of_ble_eq_true rfl), (zvin (by decide +kernel))⟩, zT_le (p := 0) (by decide +kernel) rfl (by omega), trivial, trivial⟩
  · exact zfin_i rfl rfl rfl
set_option maxRecDepth 100000 in
set_option maxHeartbeats 4000000 in
theorem zq223 (zn : Bool) (d : Nat) (a1 : Int32) (ha1l : 1 ≤ a1.toInt) (ha1h : a1.toInt ≤ 2147483647) : z_sem zn (d + 2) 237 [.ref 79, .int a1] zh42 (some (.int (Int32.ofInt 0))) zh42 := by
  refine ⟨zu_X12_isLiving, Nat.le_of_ble_eq_true rfl, Nat.le_of_ble_eq_true rfl, [zo, zo, zc (some (.int (Int32.ofInt 0))) zh42, zt, zo], _, _, rfl, ?_, ?_⟩
  · exact ⟨trivial, trivial, ⟨⟨(Nat.le_of_ble_eq_true rfl), (Nat.le_of_ble_eq_true rfl)⟩, zq222 zn (d + 0) a1 ha1l ha1h, (Nat.le_of_ble_eq_true rfl), (Nat.le_of_ble_eq_true rfl), (Nat.le_of_ble_eq_true rfl), (Nat.le_of_ble_eq_true rfl), (Nat.le_of_ble_eq_true rfl)⟩, zbt (by decide +kernel), trivial, trivial⟩
  · exact zfin_i rfl rfl rfl
set_option maxRecDepth 100000 in
set_option maxHeartbeats 4000000 in
theorem zq224 (zn : Bool) (d : Nat) (a1 : Int32) (ha1l : 1 ≤ a1.toInt) (ha1h : a1.toInt ≤ 2147483647) (a2 : Int32) (ha2l : -2147483648 ≤ a2.toInt) (ha2h : a2.toInt ≤ 2147483647) : z_sem zn (d + 3) 224 [.ref 79, .int a1, .int a2] zh40 (some (.int (Int32.ofInt (-1)))) zh42 := by
  refine ⟨zu_X12_hang, Nat.le_of_ble_eq_true rfl, Nat.le_of_ble_eq_true rfl, [zo, zo, zo, zo, zo, zc (some (.int (Int32.ofInt 0))) zh42, zt, zo], _, _, rfl, ?_, ?_⟩
  · exact ⟨trivial, trivial, ⟨(Nat.le_of_ble_eq_true rfl), rfl, rfl⟩, trivial, trivial, ⟨⟨(Nat.le_of_ble_eq_true rfl), (Nat.le_of_ble_eq_true rfl)⟩, zq223 zn (d + 0) a1 ha1l ha1h, (Nat.le_of_ble_eq_true rfl), (Nat.le_of_ble_eq_true rfl), (Nat.le_of_ble_eq_true rfl), (Nat.le_of_ble_eq_true rfl), (Nat.le_of_ble_eq_true rfl)⟩, zbt (by decide +kernel), trivial, trivial⟩
  · exact zfin_i rfl rfl rfl
set_option maxRecDepth 100000 in
set_option maxHeartbeats 4000000 in
theorem zq225 (zn : Bool) (d : Nat) (a1 : Int32) (ha1l : 0 ≤ a1.toInt) (ha1h : a1.toInt ≤ 0) : z_sem zn (d + 1) 150 [.ref 0, .int a1] zh40 (some (.int (Int32.ofInt 0))) zh40 := by
  refine ⟨zu_X11_isClock, Nat.le_of_ble_eq_true rfl, Nat.le_of_ble_eq_true rfl, [zo, zo, zo, zo, zo, zo, zo, zt, zo], _, _, rfl, ?_, ?_⟩
  · exact ⟨trivial, zF_lt (q := 0) rfl (by decide +kernel) (by omega), trivial, trivial, (Nat.le_of_ble_eq_true rfl), trivial, ⟨(Nat.le_of_ble_eq_true rfl), (zvin (by decide +kernel))⟩, zT_le (p := 0) (by decide +kernel) rfl (by omega), trivial, trivial⟩
  · exact zfin_i rfl rfl rfl
set_option maxRecDepth 100000 in
set_option maxHeartbeats 4000000 in
theorem zq226 (zn : Bool) (d : Nat) (a1 : Int32) (ha1l : 0 ≤ a1.toInt) (ha1h : a1.toInt ≤ 0) : z_sem zn (d + 2) 151 [.ref 0, .int a1] zh40 (some (.int (Int32.ofInt 0))) zh40 := by
  refine ⟨zu_X11_isLiving, Nat.le_of_ble_eq_true rfl, Nat.le_of_ble_eq_true rfl, [zo, zo, zc (some (.int (Int32.ofInt 0))) zh40, zt, zo], _, _, rfl, ?_, ?_⟩
  · exact ⟨trivial, trivial, ⟨⟨(Nat.le_of_ble_eq_true rfl), (Nat.le_of_ble_eq_true rfl)⟩, zq225 zn (d + 0) a1 ha1l ha1h, (Nat.le_of_ble_eq_true rfl), (Nat.le_of_ble_eq_true rfl), (Nat.le_of_ble_eq_true rfl), (Nat.le_of_ble_eq_true rfl), (Nat.le_of_ble_eq_true rfl)⟩, zbt (by decide +kernel), trivial, trivial⟩
  · exact zfin_i rfl rfl rfl
set_option maxRecDepth 100000 in
set_option maxHeartbeats 4000000 in
theorem zq227 (zn : Bool) (d : Nat) (a1 : Int32) (ha1l : 0 ≤ a1.toInt) (ha1h : a1.toInt ≤ 0) (a2 : Int32) (ha2l : -2147483648 ≤ a2.toInt) (ha2h : a2.toInt ≤ 2147483647) : z_sem zn (d + 3) 146 [.ref 0, .int a1, .int a2] zh40 (some (.int (Int32.ofInt (-1)))) zh40 := by
  refine ⟨zu_X11_hang, Nat.le_of_ble_eq_true rfl, Nat.le_of_ble_eq_true rfl, [zo, zo, zc (some (.int (Int32.ofInt 0))) zh40, zt, zo], _, _, rfl, ?_, ?_⟩
  · exact ⟨trivial, trivial, ⟨⟨(Nat.le_of_ble_eq_true rfl), (Nat.le_of_ble_eq_true rfl)⟩, zq226 zn (d + 0) a1 ha1l ha1h, (Nat.le_of_ble_eq_true rfl), (Nat.le_of_ble_eq_true rfl), (Nat.le_of_ble_eq_true rfl), (Nat.le_of_ble_eq_true rfl), (Nat.le_of_ble_eq_true rfl)⟩, zbt (by decide +kernel), trivial, trivial⟩
  · exact zfin_i rfl rfl rfl
set_option maxRecDepth 100000 in
set_option maxHeartbeats 4000000 in
theorem zq228 (zn : Bool) (d : Nat) (a1 : Int32) (ha1l : 0 ≤ a1.toInt) (ha1h : a1.toInt ≤ 0) : z_sem zn (d + 1) 233 [.ref 79, .int a1] zh42 (some (.int (Int32.ofInt 0))) zh42 := by
  refine ⟨zu_X12_isClock, Nat.le_of_ble_eq_true rfl, Nat.le_of_ble_eq_true rfl, [zo, zo, zo, zo, zo, zo, zo, zt, zo], _, _, rfl, ?_, ?_⟩
  · exact ⟨trivial, zF_lt (q := 0) rfl (by decide +kernel) (by omega), trivial, trivial, (Nat.le_of_ble_eq_true rfl), trivial, ⟨(Nat.le_of_ble_eq_true rfl), (zvin (by decide +kernel))⟩, zT_le (p := 0) (by decide +kernel) rfl (by omega), trivial, trivial⟩
  · exact zfin_i rfl rfl rfl
set_option maxRecDepth 100000 in
set_option maxHeartbeats 4000000 in
theorem zq229 (zn : Bool) (d : Nat) (a1 : Int32) (ha1l : 0 ≤ a1.toInt) (ha1h : a1.toInt ≤ 0) : z_sem zn (d + 2) 237 [.ref 79, .int a1] zh42 (some (.int (Int32.ofInt 0))) zh42 := by
  refine ⟨zu_X12_isLiving, Nat.le_of_ble_eq_true rfl, Nat.le_of_ble_eq_true rfl, [zo, zo, zc (some (.int (Int32.ofInt 0))) zh42, zt, zo], _, _, rfl, ?_, ?_⟩
  · exact ⟨trivial, trivial, ⟨⟨(Nat.le_of_ble_eq_true rfl), (Nat.le_of_ble_eq_true rfl)⟩, zq228 zn (d + 0) a1 ha1l ha1h, (Nat.le_of_ble_eq_true rfl), (Nat.le_of_ble_eq_true rfl), (Nat.le_of_ble_eq_true rfl), (Nat.le_of_ble_eq_true rfl), (Nat.le_of_ble_eq_true rfl)⟩, zbt (by decide +kernel), trivial, trivial⟩
  · exact zfin_i rfl rfl rfl
set_option maxRecDepth 100000 in
set_option maxHeartbeats 4000000 in
theorem zq230 (zn : Bool) (d : Nat) (a1 : Int32) (ha1l : 0 ≤ a1.toInt) (ha1h : a1.toInt ≤ 0) (a2 : Int32) (ha2l : -2147483648 ≤ a2.toInt) (ha2h : a2.toInt ≤ 2147483647) : z_sem zn (d + 3) 224 [.ref 79, .int a1, .int a2] zh40 (some (.int (Int32.ofInt (-1)))) zh42 := by
  refine ⟨zu_X12_hang, Nat.le_of_ble_eq_true rfl, Nat.le_of_ble_eq_true rfl, [zo, zo, zo, zo, zo, zc (some (.int (Int32.ofInt 0))) zh42, zt, zo], _, _, rfl, ?_, ?_⟩
  · exact ⟨trivial, trivial, ⟨(Nat.le_of_ble_eq_true rfl), rfl, rfl⟩, trivial, trivial, ⟨⟨(Nat.le_of_ble_eq_true rfl), (Nat.le_of_ble_eq_true rfl)⟩, zq229 zn (d + 0) a1 ha1l ha1h, (Nat.le_of_ble_eq_true rfl), (Nat.le_of_ble_eq_true rfl), (Nat.le_of_ble_eq_true rfl), (Nat.le_of_ble_eq_true rfl), (Nat.le_of_ble_eq_true rfl)⟩, zbt (by decide +kernel), trivial, trivial⟩
  · exact zfin_i rfl rfl rfl
set_option maxRecDepth 100000 in
set_option maxHeartbeats 4000000 in
theorem zq231 (zn : Bool) (d : Nat) (a1 : Int32) (ha1l : -2147483648 ≤ a1.toInt) (ha1h : a1.toInt ≤ -1) : z_sem zn (d + 1) 150 [.ref 0, .int a1] zh40 (some (.int (Int32.ofInt 0))) zh40 := by
  refine ⟨zu_X11_isClock, Nat.le_of_ble_eq_true rfl, Nat.le_of_ble_eq_true rfl, [zo, zt, zo], _, _, rfl, ?_, ?_⟩
  · exact ⟨trivial, zT_lt (q := 0) rfl (by decide +kernel) (by omega), trivial, trivial⟩
  · exact zfin_i rfl rfl rfl
set_option maxRecDepth 100000 in
set_option maxHeartbeats 4000000 in
theorem zq232 (zn : Bool) (d : Nat) (a1 : Int32) (ha1l : -2147483648 ≤ a1.toInt) (ha1h : a1.toInt ≤ -1) : z_sem zn (d + 2) 151 [.ref 0, .int a1] zh40 (some (.int (Int32.ofInt 0))) zh40 := by
  refine ⟨zu_X11_isLiving, Nat.le_of_ble_eq_true rfl, Nat.le_of_ble_eq_true rfl, [zo, zo, zc (some (.int (Int32.ofInt 0))) zh40, zt, zo], _, _, rfl, ?_, ?_⟩
  · exact ⟨trivial, trivial, ⟨⟨(Nat.le_of_ble_eq_true rfl), (Nat.le_of_ble_eq_true rfl)⟩, zq231 zn (d + 0) a1 ha1l ha1h, (Nat.le_of_ble_eq_true rfl), (Nat.le_of_ble_eq_true rfl), (Nat.le_of_ble_eq_true rfl), (Nat.le_of_ble_eq_true rfl), (Nat.le_of_ble_eq_true rfl)⟩, zbt (by decide +kernel), trivial, trivial⟩
  · exact zfin_i rfl rfl rfl
set_option maxRecDepth 100000 in
set_option maxHeartbeats 4000000 in
theorem zq233 (zn : Bool) (d : Nat) (a1 : Int32) (ha1l : -2147483648 ≤ a1.toInt) (ha1h : a1.toInt ≤ -1) (a2 : Int32) (ha2l : -2147483648 ≤ a2.toInt) (ha2h : a2.toInt ≤ 2147483647) : z_sem zn (d + 3) 146 [.ref 0, .int a1, .int a2] zh40 (some (.int (Int32.ofInt (-1)))) zh40 := by
  refine ⟨zu_X11_hang, Nat.le_of_ble_eq_true rfl, Nat.le_of_ble_eq_true rfl, [zo, zo, zc (some (.int (Int32.ofInt 0))) zh40, zt, zo], _, _, rfl, ?_, ?_⟩
  · exact ⟨trivial, trivial, ⟨⟨(Nat.le_of_ble_eq_true rfl), (Nat.le_of_ble_eq_true rfl)⟩, zq232 zn (d + 0) a1 ha1l ha1h, (Nat.le_of_ble_eq_true rfl), (Nat.le_of_ble_eq_true rfl), (Nat.le_of_ble_eq_true rfl), (Nat.le_of_ble_eq_true rfl), (Nat.le_of_ble_eq_true rfl)⟩, zbt (by decide +kernel), trivial, trivial⟩
  · exact zfin_i rfl rfl rfl
set_option maxRecDepth 100000 in
set_option maxHeartbeats 4000000 in
theorem zq234 (zn : Bool) (d : Nat) (a1 : Int32) (ha1l : -2147483648 ≤ a1.toInt) (ha1h : a1.toInt ≤ -1) : z_sem zn (d + 1) 233 [.ref 79, .int a1] zh42 (some (.int (Int32.ofInt 0))) zh42 := by
  refine ⟨zu_X12_isClock, Nat.le_of_ble_eq_true rfl, Nat.le_of_ble_eq_true rfl, [zo, zt, zo], _, _, rfl, ?_, ?_⟩
  · exact ⟨trivial, zT_lt (q := 0) rfl (by decide +kernel) (by omega), trivial, trivial⟩
  · exact zfin_i rfl rfl rfl
set_option maxRecDepth 100000 in
set_option maxHeartbeats 4000000 in
theorem zq235 (zn : Bool) (d : Nat) (a1 : Int32) (ha1l : -2147483648 ≤ a1.toInt) (ha1h : a1.toInt ≤ -1) : z_sem zn (d + 2) 237 [.ref 79, .int a1] zh42 (some (.int (Int32.ofInt 0))) zh42 := by
  refine ⟨zu_X12_isLiving, Nat.le_of_ble_eq_true rfl, Nat.le_of_ble_eq_true rfl, [zo, zo, zc (some (.int (Int32.ofInt 0))) zh42, zt, zo], _, _, rfl, ?_, ?_⟩
  · exact ⟨trivial, trivial, ⟨⟨(Nat.le_of_ble_eq_true rfl), (Nat.le_of_ble_eq_true rfl)⟩, zq234 zn (d + 0) a1 ha1l ha1h, (Nat.le_of_ble_eq_true rfl), (Nat.le_of_ble_eq_true rfl), (Nat.le_of_ble_eq_true rfl), (Nat.le_of_ble_eq_true rfl), (Nat.le_of_ble_eq_true rfl)⟩, zbt (by decide +kernel), trivial, trivial⟩
  · exact zfin_i rfl rfl rfl
set_option maxRecDepth 100000 in
set_option maxHeartbeats 4000000 in
theorem zq236 (zn : Bool) (d : Nat) (a1 : Int32) (ha1l : -2147483648 ≤ a1.toInt) (ha1h : a1.toInt ≤ -1) (a2 : Int32) (ha2l : -2147483648 ≤ a2.toInt) (ha2h : a2.toInt ≤ 2147483647) : z_sem zn (d + 3) 224 [.ref 79, .int a1, .int a2] zh40 (some (.int (Int32.ofInt (-1)))) zh42 := by
  refine ⟨zu_X12_hang, Nat.le_of_ble_eq_true rfl, Nat.le_of_ble_eq_true rfl, [zo, zo, zo, zo, zo, zc (some (.int (Int32.ofInt 0))) zh42, zt, zo], _, _, rfl, ?_, ?_⟩
  · exact ⟨trivial, trivial, ⟨(Nat.le_of_ble_eq_true rfl), rfl, rfl⟩, trivial, trivial, ⟨⟨(Nat.le_of_ble_eq_true rfl), (Nat.le_of_ble_eq_true rfl)⟩, zq235 zn (d + 0) a1 ha1l ha1h, (Nat.le_of_ble_eq_true rfl), (Nat.le_of_ble_eq_true rfl), (Nat.le_of_ble_eq_true rfl), (Nat.le_of_ble_eq_true rfl), (Nat.le_of_ble_eq_true rfl)⟩, zbt (by decide +kernel), trivial, trivial⟩
  · exact zfin_i rfl rfl rfl
set_option maxRecDepth 100000 in
set_option maxHeartbeats 4000000 in
theorem zq237 (zn : Bool) (d : Nat) (a1 : Int32) (ha1l : 1 ≤ a1.toInt) (ha1h : a1.toInt ≤ 2147483647) (a2 : Int32) (ha2l : -2147483648 ≤ a2.toInt) (ha2h : a2.toInt ≤ 2147483647) : z_sem zn (d + 3) 139 [.ref 0, .int a1, .int a2] zh40 (some (.int (Int32.ofInt (-1)))) zh40 := by
  refine ⟨zu_X11_face, Nat.le_of_ble_eq_true rfl, Nat.le_of_ble_eq_true rfl, [zo, zo, zc (some (.int (Int32.ofInt 0))) zh40, zt, zo], _, _, rfl, ?_, ?_⟩
  · exact ⟨trivial, trivial, ⟨⟨(Nat.le_of_ble_eq_true rfl), (Nat.le_of_ble_eq_true rfl)⟩, zq220 zn (d + 0) a1 ha1l ha1h, (Nat.le_of_ble_eq_true rfl), (Nat.le_of_ble_eq_true rfl), (Nat.le_of_ble_eq_true rfl), (Nat.le_of_ble_eq_true rfl), (Nat.le_of_ble_eq_true rfl)⟩, zbt (by decide +kernel), trivial, trivial⟩
  · exact zfin_i rfl rfl rfl
set_option maxRecDepth 100000 in
set_option maxHeartbeats 4000000 in
theorem zq238 (zn : Bool) (d : Nat) (a1 : Int32) (ha1l : 1 ≤ a1.toInt) (ha1h : a1.toInt ≤ 2147483647) (a2 : Int32) (ha2l : -2147483648 ≤ a2.toInt) (ha2h : a2.toInt ≤ 2147483647) : z_sem zn (d + 3) 209 [.ref 79, .int a1, .int a2] zh40 (some (.int (Int32.ofInt (-1)))) zh42 := by
  refine ⟨zu_X12_face, Nat.le_of_ble_eq_true rfl, Nat.le_of_ble_eq_true rfl, [zo, zo, zo, zo, zo, zc (some (.int (Int32.ofInt 0))) zh42, zt, zo], _, _, rfl, ?_, ?_⟩
  · exact ⟨trivial, trivial, ⟨(Nat.le_of_ble_eq_true rfl), rfl, rfl⟩, trivial, trivial, ⟨⟨(Nat.le_of_ble_eq_true rfl), (Nat.le_of_ble_eq_true rfl)⟩, zq223 zn (d + 0) a1 ha1l ha1h, (Nat.le_of_ble_eq_true rfl), (Nat.le_of_ble_eq_true rfl), (Nat.le_of_ble_eq_true rfl), (Nat.le_of_ble_eq_true rfl), (Nat.le_of_ble_eq_true rfl)⟩, zbt (by decide +kernel), trivial, trivial⟩
  · exact zfin_i rfl rfl rfl
set_option maxRecDepth 100000 in
set_option maxHeartbeats 4000000 in
theorem zq239 (zn : Bool) (d : Nat) (a1 : Int32) (ha1l : 0 ≤ a1.toInt) (ha1h : a1.toInt ≤ 0) (a2 : Int32) (ha2l : -2147483648 ≤ a2.toInt) (ha2h : a2.toInt ≤ 2147483647) : z_sem zn (d + 3) 139 [.ref 0, .int a1, .int a2] zh40 (some (.int (Int32.ofInt (-1)))) zh40 := by
  refine ⟨zu_X11_face, Nat.le_of_ble_eq_true rfl, Nat.le_of_ble_eq_true rfl, [zo, zo, zc (some (.int (Int32.ofInt 0))) zh40, zt, zo], _, _, rfl, ?_, ?_⟩
  · exact ⟨trivial, trivial, ⟨⟨(Nat.le_of_ble_eq_true rfl), (Nat.le_of_ble_eq_true rfl)⟩, zq226 zn (d + 0) a1 ha1l ha1h, (Nat.le_of_ble_eq_true rfl), (Nat.le_of_ble_eq_true rfl), (Nat.le_of_ble_eq_true rfl), (Nat.le_of_ble_eq_true rfl), (Nat.le_of_ble_eq_true rfl)⟩, zbt (by decide +kernel), trivial, trivial⟩
  · exact zfin_i rfl rfl rfl
set_option maxRecDepth 100000 in
set_option maxHeartbeats 4000000 in
theorem zq240 (zn : Bool) (d : Nat) (a1 : Int32) (ha1l : 0 ≤ a1.toInt) (ha1h : a1.toInt ≤ 0) (a2 : Int32) (ha2l : -2147483648 ≤ a2.toInt) (ha2h : a2.toInt ≤ 2147483647) : z_sem zn (d + 3) 209 [.ref 79, .int a1, .int a2] zh40 (some (.int (Int32.ofInt (-1)))) zh42 := by
  refine ⟨zu_X12_face, Nat.le_of_ble_eq_true rfl, Nat.le_of_ble_eq_true rfl, [zo, zo, zo, zo, zo, zc (some (.int (Int32.ofInt 0))) zh42, zt, zo], _, _, rfl, ?_, ?_⟩
  · exact ⟨trivial, trivial, ⟨(Nat.le_of_ble_eq_true rfl), rfl, rfl⟩, trivial, trivial, ⟨⟨(Nat.le_of_ble_eq_true rfl), (Nat.le_of_ble_eq_true rfl)⟩, zq229 zn (d + 0) a1 ha1l ha1h, (Nat.le_of_ble_eq_true rfl), (Nat.le_of_ble_eq_true rfl), (Nat.le_of_ble_eq_true rfl), (Nat.le_of_ble_eq_true rfl), (Nat.le_of_ble_eq_true rfl)⟩, zbt (by decide +kernel), trivial, trivial⟩
  · exact zfin_i rfl rfl rfl
set_option maxRecDepth 100000 in
set_option maxHeartbeats 4000000 in
theorem zq241 (zn : Bool) (d : Nat) (a1 : Int32) (ha1l : -2147483648 ≤ a1.toInt) (ha1h : a1.toInt ≤ -1) (a2 : Int32) (ha2l : -2147483648 ≤ a2.toInt) (ha2h : a2.toInt ≤ 2147483647) : z_sem zn (d + 3) 139 [.ref 0, .int a1, .int a2] zh40 (some (.int (Int32.ofInt (-1)))) zh40 := by
  refine ⟨zu_X11_face, Nat.le_of_ble_eq_true rfl, Nat.le_of_ble_eq_true rfl, [zo, zo, zc (some (.int (Int32.ofInt 0))) zh40, zt, zo], _, _, rfl, ?_, ?_⟩
  · exact ⟨trivial, trivial, ⟨⟨(Nat.le_of_ble_eq_true rfl), (Nat.le_of_ble_eq_true rfl)⟩, zq232 zn (d + 0) a1 ha1l ha1h, (Nat.le_of_ble_eq_true rfl), (Nat.le_of_ble_eq_true rfl), (Nat.le_of_ble_eq_true rfl), (Nat.le_of_ble_eq_true rfl), (Nat.le_of_ble_eq_true rfl)⟩, zbt (by decide +kernel), trivial, trivial⟩
  · exact zfin_i rfl rfl rfl
set_option maxRecDepth 100000 in
set_option maxHeartbeats 4000000 in
theorem zq242 (zn : Bool) (d : Nat) (a1 : Int32) (ha1l : -2147483648 ≤ a1.toInt) (ha1h : a1.toInt ≤ -1) (a2 : Int32) (ha2l : -2147483648 ≤ a2.toInt) (ha2h : a2.toInt ≤ 2147483647) : z_sem zn (d + 3) 209 [.ref 79, .int a1, .int a2] zh40 (some (.int (Int32.ofInt (-1)))) zh42 := by
  refine ⟨zu_X12_face, Nat.le_of_ble_eq_true rfl, Nat.le_of_ble_eq_true rfl, [zo, zo, zo, zo, zo, zc (some (.int (Int32.ofInt 0))) zh42, zt, zo], _, _, rfl, ?_, ?_⟩
  · exact ⟨trivial, trivial, ⟨(Nat.le_of_ble_eq_true rfl), rfl, rfl⟩, trivial, trivial, ⟨⟨(Nat.le_of_ble_eq_true rfl), (Nat.le_of_ble_eq_true rfl)⟩, zq235 zn (d + 0) a1 ha1l ha1h, (Nat.le_of_ble_eq_true rfl), (Nat.le_of_ble_eq_true rfl), (Nat.le_of_ble_eq_true rfl), (Nat.le_of_ble_eq_true rfl), (Nat.le_of_ble_eq_true rfl)⟩, zbt (by decide +kernel), trivial, trivial⟩
  · exact zfin_i rfl rfl rfl
set_option maxRecDepth 100000 in
set_option maxHeartbeats 4000000 in
theorem zq243 (zn : Bool) (d : Nat) (a1 : Int32) (ha1l : 1 ≤ a1.toInt) (ha1h : a1.toInt ≤ 2147483647) (a2 : Int32) (ha2l : -2147483648 ≤ a2.toInt) (ha2h : a2.toInt ≤ 2147483647) : z_sem zn (d + 3) 185 [.ref 0, .int a1, .int a2] zh40 (some (.int (Int32.ofInt (-1)))) zh40 := by
  refine ⟨zu_X11_wind, Nat.le_of_ble_eq_true rfl, Nat.le_of_ble_eq_true rfl, [zo, zo, zc (some (.int (Int32.ofInt 0))) zh40, zt, zo], _, _, rfl, ?_, ?_⟩
  · exact ⟨trivial, trivial, ⟨⟨(Nat.le_of_ble_eq_true rfl), (Nat.le_of_ble_eq_true rfl)⟩, zq220 zn (d + 0) a1 ha1l ha1h, (Nat.le_of_ble_eq_true rfl), (Nat.le_of_ble_eq_true rfl), (Nat.le_of_ble_eq_true rfl), (Nat.le_of_ble_eq_true rfl), (Nat.le_of_ble_eq_true rfl)⟩, zbt (by decide +kernel), trivial, trivial⟩
  · exact zfin_i rfl rfl rfl
set_option maxRecDepth 100000 in
set_option maxHeartbeats 4000000 in
theorem zq244 (zn : Bool) (d : Nat) (a1 : Int32) (ha1l : 1 ≤ a1.toInt) (ha1h : a1.toInt ≤ 2147483647) (a2 : Int32) (ha2l : -2147483648 ≤ a2.toInt) (ha2h : a2.toInt ≤ 2147483647) : z_sem zn (d + 3) 295 [.ref 79, .int a1, .int a2] zh40 (some (.int (Int32.ofInt (-1)))) zh42 := by
  refine ⟨zu_X12_wind, Nat.le_of_ble_eq_true rfl, Nat.le_of_ble_eq_true rfl, [zo, zo, zo, zo, zo, zc (some (.int (Int32.ofInt 0))) zh42, zt, zo], _, _, rfl, ?_, ?_⟩
  · exact ⟨trivial, trivial, ⟨(Nat.le_of_ble_eq_true rfl), rfl, rfl⟩, trivial, trivial, ⟨⟨(Nat.le_of_ble_eq_true rfl), (Nat.le_of_ble_eq_true rfl)⟩, zq223 zn (d + 0) a1 ha1l ha1h, (Nat.le_of_ble_eq_true rfl), (Nat.le_of_ble_eq_true rfl), (Nat.le_of_ble_eq_true rfl), (Nat.le_of_ble_eq_true rfl), (Nat.le_of_ble_eq_true rfl)⟩, zbt (by decide +kernel), trivial, trivial⟩
  · exact zfin_i rfl rfl rfl
set_option maxRecDepth 100000 in
set_option maxHeartbeats 4000000 in
theorem zq245 (zn : Bool) (d : Nat) (a1 : Int32) (ha1l : 0 ≤ a1.toInt) (ha1h : a1.toInt ≤ 0) (a2 : Int32) (ha2l : -2147483648 ≤ a2.toInt) (ha2h : a2.toInt ≤ 2147483647) : z_sem zn (d + 3) 185 [.ref 0, .int a1, .int a2] zh40 (some (.int (Int32.ofInt (-1)))) zh40 := by
  refine ⟨zu_X11_wind, Nat.le_of_ble_eq_true rfl, Nat.le_of_ble_eq_true rfl, [zo, zo, zc (some (.int (Int32.ofInt 0))) zh40, zt, zo], _, _, rfl, ?_, ?_⟩
  · exact ⟨trivial, trivial, ⟨⟨(Nat.le_of_ble_eq_true rfl), (Nat.le_of_ble_eq_true rfl)⟩, zq226 zn (d + 0) a1 ha1l ha1h, (Nat.le_of_ble_eq_true rfl), (Nat.le_of_ble_eq_true rfl), (Nat.le_of_ble_eq_true rfl), (Nat.le_of_ble_eq_true rfl), (Nat.le_of_ble_eq_true rfl)⟩, zbt (by decide +kernel), trivial, trivial⟩
  · exact zfin_i rfl rfl rfl
set_option maxRecDepth 100000 in
set_option maxHeartbeats 4000000 in
theorem zq246 (zn : Bool) (d : Nat) (a1 : Int32) (ha1l : 0 ≤ a1.toInt) (ha1h : a1.toInt ≤ 0) (a2 : Int32) (ha2l : -2147483648 ≤ a2.toInt) (ha2h : a2.toInt ≤ 2147483647) : z_sem zn (d + 3) 295 [.ref 79, .int a1, .int a2] zh40 (some (.int (Int32.ofInt (-1)))) zh42 := by
  refine ⟨zu_X12_wind, Nat.le_of_ble_eq_true rfl, Nat.le_of_ble_eq_true rfl, [zo, zo, zo, zo, zo, zc (some (.int (Int32.ofInt 0))) zh42, zt, zo], _, _, rfl, ?_, ?_⟩
  · exact ⟨trivial, trivial, ⟨(Nat.le_of_ble_eq_true rfl), rfl, rfl⟩, trivial, trivial, ⟨⟨(Nat.le_of_ble_eq_true rfl), (Nat.le_of_ble_eq_true rfl)⟩, zq229 zn (d + 0) a1 ha1l ha1h, (Nat.le_of_ble_eq_true rfl), (Nat.le_of_ble_eq_true rfl), (Nat.le_of_ble_eq_true rfl), (Nat.le_of_ble_eq_true rfl), (Nat.le_of_ble_eq_true rfl)⟩, zbt (by decide +kernel), trivial, trivial⟩
  · exact zfin_i rfl rfl rfl
set_option maxRecDepth 100000 in
set_option maxHeartbeats 4000000 in
theorem zq247 (zn : Bool) (d : Nat) (a1 : Int32) (ha1l : -2147483648 ≤ a1.toInt) (ha1h : a1.toInt ≤ -1) (a2 : Int32) (ha2l : -2147483648 ≤ a2.toInt) (ha2h : a2.toInt ≤ 2147483647) : z_sem zn (d + 3) 185 [.ref 0, .int a1, .int a2] zh40 (some (.int (Int32.ofInt (-1)))) zh40 := by
  refine ⟨zu_X11_wind, Nat.le_of_ble_eq_true rfl, Nat.le_of_ble_eq_true rfl, [zo, zo, zc (some (.int (Int32.ofInt 0))) zh40, zt, zo], _, _, rfl, ?_, ?_⟩
  · exact ⟨trivial, trivial, ⟨⟨(Nat.le_of_ble_eq_true rfl), (Nat.le_of_ble_eq_true rfl)⟩, zq232 zn (d + 0) a1 ha1l ha1h, (Nat.le_of_ble_eq_true rfl), (Nat.le_of_ble_eq_true rfl), (Nat.le_of_ble_eq_true rfl), (Nat.le_of_ble_eq_true rfl), (Nat.le_of_ble_eq_true rfl)⟩, zbt (by decide +kernel), trivial, trivial⟩
  · exact zfin_i rfl rfl rfl
set_option maxRecDepth 100000 in
set_option maxHeartbeats 4000000 in
theorem zq248 (zn : Bool) (d : Nat) (a1 : Int32) (ha1l : -2147483648 ≤ a1.toInt) (ha1h : a1.toInt ≤ -1) (a2 : Int32) (ha2l : -2147483648 ≤ a2.toInt) (ha2h : a2.toInt ≤ 2147483647) : z_sem zn (d + 3) 295 [.ref 79, .int a1, .int a2] zh40 (some (.int (Int32.ofInt (-1)))) zh42 := by
  refine ⟨zu_X12_wind, Nat.le_of_ble_eq_true rfl, Nat.le_of_ble_eq_true rfl, [zo, zo, zo, zo, zo, zc (some (.int (Int32.ofInt 0))) zh42, zt, zo], _, _, rfl, ?_, ?_⟩
  · exact ⟨trivial, trivial, ⟨(Nat.le_of_ble_eq_true rfl), rfl, rfl⟩, trivial, trivial, ⟨⟨(Nat.le_of_ble_eq_true rfl), (Nat.le_of_ble_eq_true rfl)⟩, zq235 zn (d + 0) a1 ha1l ha1h, (Nat.le_of_ble_eq_true rfl), (Nat.le_of_ble_eq_true rfl), (Nat.le_of_ble_eq_true rfl), (Nat.le_of_ble_eq_true rfl), (Nat.le_of_ble_eq_true rfl)⟩, zbt (by decide +kernel), trivial, trivial⟩
  · exact zfin_i rfl rfl rfl
set_option maxRecDepth 100000 in
set_option maxHeartbeats 4000000 in
theorem zq249 (zn : Bool) (d : Nat) (a1 : Int32) (ha1l : 1 ≤ a1.toInt) (ha1h : a1.toInt ≤ 2147483647) : z_sem zn (d + 3) 165 [.ref 0, .int a1, .int 0] zh40 (some (.int (Int32.ofInt (-1)))) zh40 := by
  refine ⟨zu_X11_paint, Nat.le_of_ble_eq_true rfl, Nat.le_of_ble_eq_true rfl, [zo, zo, zc (some (.int (Int32.ofInt 0))) zh40, zt, zo], _, _, rfl, ?_, ?_⟩
  · exact ⟨trivial, trivial, ⟨⟨(Nat.le_of_ble_eq_true rfl), (Nat.le_of_ble_eq_true rfl)⟩, zq220 zn (d + 0) a1 ha1l ha1h, (Nat.le_of_ble_eq_true rfl), (Nat.le_of_ble_eq_true rfl), (Nat.le_of_ble_eq_true rfl), (Nat.le_of_ble_eq_true rfl), (Nat.le_of_ble_eq_true rfl)⟩, zbt (by decide +kernel), trivial, trivial⟩
  · exact zfin_i rfl rfl rfl
set_option maxRecDepth 100000 in
set_option maxHeartbeats 4000000 in
theorem zq250 (zn : Bool) (d : Nat) (a1 : Int32) (ha1l : 1 ≤ a1.toInt) (ha1h : a1.toInt ≤ 2147483647) : z_sem zn (d + 3) 260 [.ref 79, .int a1, .int 0] zh40 (some (.int (Int32.ofInt (-1)))) zh42 := by
  refine ⟨zu_X12_paint, Nat.le_of_ble_eq_true rfl, Nat.le_of_ble_eq_true rfl, [zo, zo, zo, zo, zo, zc (some (.int (Int32.ofInt 0))) zh42, zt, zo], _, _, rfl, ?_, ?_⟩
  · exact ⟨trivial, trivial, ⟨(Nat.le_of_ble_eq_true rfl), rfl, rfl⟩, trivial, trivial, ⟨⟨(Nat.le_of_ble_eq_true rfl), (Nat.le_of_ble_eq_true rfl)⟩, zq223 zn (d + 0) a1 ha1l ha1h, (Nat.le_of_ble_eq_true rfl), (Nat.le_of_ble_eq_true rfl), (Nat.le_of_ble_eq_true rfl), (Nat.le_of_ble_eq_true rfl), (Nat.le_of_ble_eq_true rfl)⟩, zbt (by decide +kernel), trivial, trivial⟩
  · exact zfin_i rfl rfl rfl
set_option maxRecDepth 100000 in
set_option maxHeartbeats 4000000 in
theorem zq251 (zn : Bool) (d : Nat) (a1 : Int32) (ha1l : 1 ≤ a1.toInt) (ha1h : a1.toInt ≤ 2147483647) : z_sem zn (d + 3) 165 [.ref 0, .int a1, .int 1] zh40 (some (.int (Int32.ofInt (-1)))) zh40 := by
  refine ⟨zu_X11_paint, Nat.le_of_ble_eq_true rfl, Nat.le_of_ble_eq_true rfl, [zo, zo, zc (some (.int (Int32.ofInt 0))) zh40, zt, zo], _, _, rfl, ?_, ?_⟩
  · exact ⟨trivial, trivial, ⟨⟨(Nat.le_of_ble_eq_true rfl), (Nat.le_of_ble_eq_true rfl)⟩, zq220 zn (d + 0) a1 ha1l ha1h, (Nat.le_of_ble_eq_true rfl), (Nat.le_of_ble_eq_true rfl), (Nat.le_of_ble_eq_true rfl), (Nat.le_of_ble_eq_true rfl), (Nat.le_of_ble_eq_true rfl)⟩, zbt (by decide +kernel), trivial, trivial⟩
  · exact zfin_i rfl rfl rfl
set_option maxRecDepth 100000 in
set_option maxHeartbeats 4000000 in
theorem zq252 (zn : Bool) (d : Nat) (a1 : Int32) (ha1l : 1 ≤ a1.toInt) (ha1h : a1.toInt ≤ 2147483647) : z_sem zn (d + 3) 260 [.ref 79, .int a1, .int 1] zh40 (some (.int (Int32.ofInt (-1)))) zh42 := by
  refine ⟨zu_X12_paint, Nat.le_of_ble_eq_true rfl, Nat.le_of_ble_eq_true rfl, [zo, zo, zo, zo, zo, zc (some (.int (Int32.ofInt 0))) zh42, zt, zo], _, _, rfl, ?_, ?_⟩
  · exact ⟨trivial, trivial, ⟨(Nat.le_of_ble_eq_true rfl), rfl, rfl⟩, trivial, trivial, ⟨⟨(Nat.le_of_ble_eq_true rfl), (Nat.le_of_ble_eq_true rfl)⟩, zq223 zn (d + 0) a1 ha1l ha1h, (Nat.le_of_ble_eq_true rfl), (Nat.le_of_ble_eq_true rfl), (Nat.le_of_ble_eq_true rfl), (Nat.le_of_ble_eq_true rfl), (Nat.le_of_ble_eq_true rfl)⟩, zbt (by decide +kernel), trivial, trivial⟩
  · exact zfin_i rfl rfl rfl
set_option maxRecDepth 100000 in
set_option maxHeartbeats 4000000 in
theorem zq253 (zn : Bool) (d : Nat) (a1 : Int32) (ha1l : 0 ≤ a1.toInt) (ha1h : a1.toInt ≤ 0) : z_sem zn (d + 3) 165 [.ref 0, .int a1, .int 0] zh40 (some (.int (Int32.ofInt (-1)))) zh40 := by
  refine ⟨zu_X11_paint, Nat.le_of_ble_eq_true rfl, Nat.le_of_ble_eq_true rfl, [zo, zo, zc (some (.int (Int32.ofInt 0))) zh40, zt, zo], _, _, rfl, ?_, ?_⟩
  · exact ⟨trivial, trivial, ⟨⟨(Nat.le_of_ble_eq_true rfl), (Nat.le_of_ble_eq_true rfl)⟩, zq226 zn (d + 0) a1 ha1l ha1h, (Nat.le_of_ble_eq_true rfl), (Nat.le_of_ble_eq_true rfl), (Nat.le_of_ble_eq_true rfl), (Nat.le_of_ble_eq_true rfl), (Nat.le_of_ble_eq_true rfl)⟩, zbt (by decide +kernel), trivial, trivial⟩
  · exact zfin_i rfl rfl rfl
set_option maxRecDepth 100000 in
set_option maxHeartbeats 4000000 in
theorem zq254 (zn : Bool) (d : Nat) (a1 : Int32) (ha1l : 0 ≤ a1.toInt) (ha1h : a1.toInt ≤ 0) : z_sem zn (d + 3) 260 [.ref 79, .int a1, .int 0] zh40 (some (.int (Int32.ofInt (-1)))) zh42 := by
  refine ⟨zu_X12_paint, Nat.le_of_ble_eq_true rfl, Nat.le_of_ble_eq_true rfl, [zo, zo, zo, zo, zo, zc (some (.int (Int32.ofInt 0))) zh42, zt, zo], _, _, rfl, ?_, ?_⟩
  · exact ⟨trivial, trivial, ⟨(Nat.le_of_ble_eq_true rfl), rfl, rfl⟩, trivial, trivial, ⟨⟨(Nat.le_of_ble_eq_true rfl), (Nat.le_of_ble_eq_true rfl)⟩, zq229 zn (d + 0) a1 ha1l ha1h, (Nat.le_of_ble_eq_true rfl), (Nat.le_of_ble_eq_true rfl), (Nat.le_of_ble_eq_true rfl), (Nat.le_of_ble_eq_true rfl), (Nat.le_of_ble_eq_true rfl)⟩, zbt (by decide +kernel), trivial, trivial⟩
  · exact zfin_i rfl rfl rfl
set_option maxRecDepth 100000 in
set_option maxHeartbeats 4000000 in
theorem zq255 (zn : Bool) (d : Nat) (a1 : Int32) (ha1l : 0 ≤ a1.toInt) (ha1h : a1.toInt ≤ 0) : z_sem zn (d + 3) 165 [.ref 0, .int a1, .int 1] zh40 (some (.int (Int32.ofInt (-1)))) zh40 := by
  refine ⟨zu_X11_paint, Nat.le_of_ble_eq_true rfl, Nat.le_of_ble_eq_true rfl, [zo, zo, zc (some (.int (Int32.ofInt 0))) zh40, zt, zo], _, _, rfl, ?_, ?_⟩
  · exact ⟨trivial, trivial, ⟨⟨(Nat.le_of_ble_eq_true rfl), (Nat.le_of_ble_eq_true rfl)⟩, zq226 zn (d + 0) a1 ha1l ha1h, (Nat.le_of_ble_eq_true rfl), (Nat.le_of_ble_eq_true rfl), (Nat.le_of_ble_eq_true rfl), (Nat.le_of_ble_eq_true rfl), (Nat.le_of_ble_eq_true rfl)⟩, zbt (by decide +kernel), trivial, trivial⟩
  · exact zfin_i rfl rfl rfl
set_option maxRecDepth 100000 in
set_option maxHeartbeats 4000000 in
theorem zq256 (zn : Bool) (d : Nat) (a1 : Int32) (ha1l : 0 ≤ a1.toInt) (ha1h : a1.toInt ≤ 0) : z_sem zn (d + 3) 260 [.ref 79, .int a1, .int 1] zh40 (some (.int (Int32.ofInt (-1)))) zh42 := by
  refine ⟨zu_X12_paint, Nat.le_of_ble_eq_true rfl, Nat.le_of_ble_eq_true rfl, [zo, zo, zo, zo, zo, zc (some (.int (Int32.ofInt 0))) zh42, zt, zo], _, _, rfl, ?_, ?_⟩
  · exact ⟨trivial, trivial, ⟨(Nat.le_of_ble_eq_true rfl), rfl, rfl⟩, trivial, trivial, ⟨⟨(Nat.le_of_ble_eq_true rfl), (Nat.le_of_ble_eq_true rfl)⟩, zq229 zn (d + 0) a1 ha1l ha1h, (Nat.le_of_ble_eq_true rfl), (Nat.le_of_ble_eq_true rfl), (Nat.le_of_ble_eq_true rfl), (Nat.le_of_ble_eq_true rfl), (Nat.le_of_ble_eq_true rfl)⟩, zbt (by decide +kernel), trivial, trivial⟩
  · exact zfin_i rfl rfl rfl
set_option maxRecDepth 100000 in
set_option maxHeartbeats 4000000 in
theorem zq257 (zn : Bool) (d : Nat) (a1 : Int32) (ha1l : -2147483648 ≤ a1.toInt) (ha1h : a1.toInt ≤ -1) : z_sem zn (d + 3) 165 [.ref 0, .int a1, .int 0] zh40 (some (.int (Int32.ofInt (-1)))) zh40 := by
  refine ⟨zu_X11_paint, Nat.le_of_ble_eq_true rfl, Nat.le_of_ble_eq_true rfl, [zo, zo, zc (some (.int (Int32.ofInt 0))) zh40, zt, zo], _, _, rfl, ?_, ?_⟩
  · exact ⟨trivial, trivial, ⟨⟨(Nat.le_of_ble_eq_true rfl), (Nat.le_of_ble_eq_true rfl)⟩, zq232 zn (d + 0) a1 ha1l ha1h, (Nat.le_of_ble_eq_true rfl), (Nat.le_of_ble_eq_true rfl), (Nat.le_of_ble_eq_true rfl), (Nat.le_of_ble_eq_true rfl), (Nat.le_of_ble_eq_true rfl)⟩, zbt (by decide +kernel), trivial, trivial⟩
  · exact zfin_i rfl rfl rfl
set_option maxRecDepth 100000 in
set_option maxHeartbeats 4000000 in
theorem zq258 (zn : Bool) (d : Nat) (a1 : Int32) (ha1l : -2147483648 ≤ a1.toInt) (ha1h : a1.toInt ≤ -1) : z_sem zn (d + 3) 260 [.ref 79, .int a1, .int 0] zh40 (some (.int (Int32.ofInt (-1)))) zh42 := by
  refine ⟨zu_X12_paint, Nat.le_of_ble_eq_true rfl, Nat.le_of_ble_eq_true rfl, [zo, zo, zo, zo, zo, zc (some (.int (Int32.ofInt 0))) zh42, zt, zo], _, _, rfl, ?_, ?_⟩
  · exact ⟨trivial, trivial, ⟨(Nat.le_of_ble_eq_true rfl), rfl, rfl⟩, trivial, trivial, ⟨⟨(Nat.le_of_ble_eq_true rfl), (Nat.le_of_ble_eq_true rfl)⟩, zq235 zn (d + 0) a1 ha1l ha1h, (Nat.le_of_ble_eq_true rfl), (Nat.le_of_ble_eq_true rfl), (Nat.le_of_ble_eq_true rfl), (Nat.le_of_ble_eq_true rfl), (Nat.le_of_ble_eq_true rfl)⟩, zbt (by decide +kernel), trivial, trivial⟩
  · exact zfin_i rfl rfl rfl
set_option maxRecDepth 100000 in
set_option maxHeartbeats 4000000 in
theorem zq259 (zn : Bool) (d : Nat) (a1 : Int32) (ha1l : -2147483648 ≤ a1.toInt) (ha1h : a1.toInt ≤ -1) : z_sem zn (d + 3) 165 [.ref 0, .int a1, .int 1] zh40 (some (.int (Int32.ofInt (-1)))) zh40 := by
  refine ⟨zu_X11_paint, Nat.le_of_ble_eq_true rfl, Nat.le_of_ble_eq_true rfl, [zo, zo, zc (some (.int (Int32.ofInt 0))) zh40, zt, zo], _, _, rfl, ?_, ?_⟩
  · exact ⟨trivial, trivial, ⟨⟨(Nat.le_of_ble_eq_true rfl), (Nat.le_of_ble_eq_true rfl)⟩, zq232 zn (d + 0) a1 ha1l ha1h, (Nat.le_of_ble_eq_true rfl), (Nat.le_of_ble_eq_true rfl), (Nat.le_of_ble_eq_true rfl), (Nat.le_of_ble_eq_true rfl), (Nat.le_of_ble_eq_true rfl)⟩, zbt (by decide +kernel), trivial, trivial⟩
  · exact zfin_i rfl rfl rfl
set_option maxRecDepth 100000 in
set_option maxHeartbeats 4000000 in
theorem zq260 (zn : Bool) (d : Nat) (a1 : Int32) (ha1l : -2147483648 ≤ a1.toInt) (ha1h : a1.toInt ≤ -1) : z_sem zn (d + 3) 260 [.ref 79, .int a1, .int 1] zh40 (some (.int (Int32.ofInt (-1)))) zh42 := by
  refine ⟨zu_X12_paint, Nat.le_of_ble_eq_true rfl, Nat.le_of_ble_eq_true rfl, [zo, zo, zo, zo, zo, zc (some (.int (Int32.ofInt 0))) zh42, zt, zo], _, _, rfl, ?_, ?_⟩
  · exact ⟨trivial, trivial, ⟨(Nat.le_of_ble_eq_true rfl), rfl, rfl⟩, trivial, trivial, ⟨⟨(Nat.le_of_ble_eq_true rfl), (Nat.le_of_ble_eq_true rfl)⟩, zq235 zn (d + 0) a1 ha1l ha1h, (Nat.le_of_ble_eq_true rfl), (Nat.le_of_ble_eq_true rfl), (Nat.le_of_ble_eq_true rfl), (Nat.le_of_ble_eq_true rfl), (Nat.le_of_ble_eq_true rfl)⟩, zbt (by decide +kernel), trivial, trivial⟩
  · exact zfin_i rfl rfl rfl
set_option maxRecDepth 100000 in
set_option maxHeartbeats 4000000 in
theorem zq261 (zn : Bool) (d : Nat) : z_sem zn (d + 1) 91 [.ref 23, .ref 17] zh40 (some (.int (Int32.ofInt (-1)))) zh40 := by
  refine ⟨zu_X5_takeBack, Nat.le_of_ble_eq_true rfl, Nat.le_of_ble_eq_true rfl, [zo, zo, zo, zo], _, _, rfl, ?_, ?_⟩
  · exact ⟨trivial, (Nat.le_of_ble_eq_true rfl), zbf (by decide +kernel), trivial, trivial⟩
  · exact zfin_i rfl rfl rfl
set_option maxRecDepth 100000 in
set_option maxHeartbeats 4000000 in
theorem zq262 (zn : Bool) (d : Nat) : z_sem zn (d + 2) 183 [.ref 0] zh40 (some (.int (Int32.ofInt (-1)))) zh40 := by
  refine ⟨zu_X11_undo, Nat.le_of_ble_eq_true rfl, Nat.le_of_ble_eq_true rfl, [zo, zo, zo, zo, zc (some (.int (Int32.ofInt (-1)))) zh40], _, _, rfl, ?_, ?_⟩
  · exact ⟨trivial, (Nat.le_of_ble_eq_true rfl), trivial, (Nat.le_of_ble_eq_true rfl), ⟨⟨(Nat.le_of_ble_eq_true rfl), (Nat.le_of_ble_eq_true rfl)⟩, zq261 zn (d + 0), (Nat.le_of_ble_eq_true rfl), (Nat.le_of_ble_eq_true rfl), (Nat.le_of_ble_eq_true rfl), (Nat.le_of_ble_eq_true rfl), (Nat.le_of_ble_eq_true rfl)⟩, trivial⟩
  · exact zfin_i rfl rfl rfl
set_option maxRecDepth 100000 in
set_option maxHeartbeats 4000000 in
theorem zq263 (zn : Bool) (d : Nat) : z_sem zn (d + 1) 291 [.ref 79] zh40 (some (.int (Int32.ofInt (-1)))) zh42 := by
  refine ⟨zu_X12_undo, Nat.le_of_ble_eq_true rfl, Nat.le_of_ble_eq_true rfl, [zo, zo, zo, zo, zo, zo, zo], _, _, rfl, ?_, ?_⟩
  · exact ⟨trivial, trivial, ⟨(Nat.le_of_ble_eq_true rfl), rfl, rfl⟩, trivial, (Nat.le_of_ble_eq_true rfl), zbf (by decide +kernel), trivial, trivial⟩
  · exact zfin_i rfl rfl rfl
set_option maxRecDepth 100000 in
set_option maxHeartbeats 4000000 in
theorem zq264 (zn : Bool) (d : Nat) : z_sem zn (d + 1) 85 [.ref 23] zh40 (some (.int (if Int32.ofInt 0 < (Int8.ofInt 60).toInt32 then Int32.ofInt 0 else (Int8.ofInt 60).toInt32))) zh40 := by
  refine ⟨zu_X5_hoursPutBy, Nat.le_of_ble_eq_true rfl, Nat.le_of_ble_eq_true rfl, [zo, zo, zo, zo], _, _, rfl, ?_, ?_⟩
  · exact ⟨trivial, trivial, (Nat.le_of_ble_eq_true rfl), ⟨(Nat.le_of_ble_eq_true rfl), (Nat.le_of_ble_eq_true rfl), (Nat.le_of_ble_eq_true rfl)⟩, trivial⟩
  · exact zfin_i rfl rfl rfl
set_option maxRecDepth 100000 in
set_option maxHeartbeats 4000000 in
theorem zq265 (zn : Bool) (d : Nat) (a1 : Int32) (ha1l : 1 ≤ a1.toInt) (ha1h : a1.toInt ≤ 2147483647) (a2 : Int32) (ha2l : -2147483648 ≤ a2.toInt) (ha2h : a2.toInt ≤ 2147483647) : z_sem zn (d + 2) 92 [.ref 23, .int a1, .int a2] zh40 (some (.int (Int32.ofInt (-1)))) zh40 := by
  refine ⟨zu_X5_told, Nat.le_of_ble_eq_true rfl, Nat.le_of_ble_eq_true rfl, [zo, zo, zo, zo, zc (some (.int (if Int32.ofInt 0 < (Int8.ofInt 60).toInt32 then Int32.ofInt 0 else (Int8.ofInt 60).toInt32))) zh40, zt, zo], _, _, rfl, ?_, ?_⟩
  · exact ⟨trivial, zF_lt (q := 0) rfl (by decide +kernel) (by omega), trivial, trivial, ⟨⟨(Nat.le_of_ble_eq_true rfl), (Nat.le_of_ble_eq_true rfl)⟩, zq264 zn (d + 0), (Nat.le_of_ble_eq_true rfl), (Nat.le_of_ble_eq_true rfl), (Nat.le_of_ble_eq_true rfl), (Nat.le_of_ble_eq_true rfl), (Nat.le_of_ble_eq_true rfl)⟩, zT_le (p := 0) (by decide +kernel) rfl (by omega), trivial, trivial⟩
  · exact zfin_i rfl rfl rfl
set_option maxRecDepth 100000 in
set_option maxHeartbeats 4000000 in
theorem zq266 (zn : Bool) (d : Nat) (a1 : Int32) (ha1l : 1 ≤ a1.toInt) (ha1h : a1.toInt ≤ 2147483647) (a2 : Int32) (ha2l : -2147483648 ≤ a2.toInt) (ha2h : a2.toInt ≤ 2147483647) : z_sem zn (d + 3) 159 [.ref 0, .int a1, .int a2] zh40 (some (.int (Int32.ofInt (-1)))) zh40 := by
  refine ⟨zu_X11_log, Nat.le_of_ble_eq_true rfl, Nat.le_of_ble_eq_true rfl, [zo, zo, zo, zo, zc (some (.int (Int32.ofInt (-1)))) zh40], _, _, rfl, ?_, ?_⟩
  · exact ⟨trivial, (Nat.le_of_ble_eq_true rfl), trivial, trivial, ⟨⟨(Nat.le_of_ble_eq_true rfl), (Nat.le_of_ble_eq_true rfl)⟩, zq265 zn (d + 0) a1 ha1l ha1h a2 ha2l ha2h, (Nat.le_of_ble_eq_true rfl), (Nat.le_of_ble_eq_true rfl), (Nat.le_of_ble_eq_true rfl), (Nat.le_of_ble_eq_true rfl), (Nat.le_of_ble_eq_true rfl)⟩, trivial⟩
  · exact zfin_i rfl rfl rfl
set_option maxRecDepth 100000 in
set_option maxHeartbeats 4000000 in
theorem zq267 (zn : Bool) (d : Nat) (a1 : Int32) (ha1l : 1 ≤ a1.toInt) (ha1h : a1.toInt ≤ 2147483647) (a2 : Int32) (ha2l : -2147483648 ≤ a2.toInt) (ha2h : a2.toInt ≤ 2147483647) : z_sem zn (d + 2) 252 [.ref 79, .int a1, .int a2] zh40 (some (.int (Int32.ofInt (-1)))) zh42 := by
  refine ⟨zu_X12_log, Nat.le_of_ble_eq_true rfl, Nat.le_of_ble_eq_true rfl, [zo, zo, zo, zo, zo, zo, zo, zo, zo, zo, zo, zc (some (.int (Int32.ofInt 0))) zh42, zt, zo], _, _, rfl, ?_, ?_⟩
  · exact ⟨trivial, trivial, ⟨(Nat.le_of_ble_eq_true rfl), rfl, rfl⟩, trivial, trivial, trivial, trivial, (Nat.le_of_ble_eq_true rfl), trivial, trivial, trivial, ⟨(Nat.le_of_ble_eq_true rfl), zq166 zn (d + 0) a1 ha1l ha1h, (Nat.le_of_ble_eq_true rfl), (Nat.le_of_ble_eq_true rfl), (Nat.le_of_ble_eq_true rfl), (Nat.le_of_ble_eq_true rfl), (Nat.le_of_ble_eq_true rfl)⟩, zbt (by decide +kernel), trivial, trivial⟩
  · exact zfin_i rfl rfl rfl
set_option maxRecDepth 100000 in
set_option maxHeartbeats 4000000 in
theorem zq268 (zn : Bool) (d : Nat) (a1 : Int32) (ha1l : 0 ≤ a1.toInt) (ha1h : a1.toInt ≤ 0) (a2 : Int32) (ha2l : -2147483648 ≤ a2.toInt) (ha2h : a2.toInt ≤ 2147483647) : z_sem zn (d + 2) 92 [.ref 23, .int a1, .int a2] zh40 (some (.int (Int32.ofInt (-1)))) zh40 := by
  refine ⟨zu_X5_told, Nat.le_of_ble_eq_true rfl, Nat.le_of_ble_eq_true rfl, [zo, zo, zo, zo, zc (some (.int (if Int32.ofInt 0 < (Int8.ofInt 60).toInt32 then Int32.ofInt 0 else (Int8.ofInt 60).toInt32))) zh40, zt, zo], _, _, rfl, ?_, ?_⟩
  · exact ⟨trivial, zF_lt (q := 0) rfl (by decide +kernel) (by omega), trivial, trivial, ⟨⟨(Nat.le_of_ble_eq_true rfl), (Nat.le_of_ble_eq_true rfl)⟩, zq264 zn (d + 0), (Nat.le_of_ble_eq_true rfl), (Nat.le_of_ble_eq_true rfl), (Nat.le_of_ble_eq_true rfl), (Nat.le_of_ble_eq_true rfl), (Nat.le_of_ble_eq_true rfl)⟩, zT_le (p := 0) (by decide +kernel) rfl (by omega), trivial, trivial⟩
  · exact zfin_i rfl rfl rfl
set_option maxRecDepth 100000 in
set_option maxHeartbeats 4000000 in
theorem zq269 (zn : Bool) (d : Nat) (a1 : Int32) (ha1l : 0 ≤ a1.toInt) (ha1h : a1.toInt ≤ 0) (a2 : Int32) (ha2l : -2147483648 ≤ a2.toInt) (ha2h : a2.toInt ≤ 2147483647) : z_sem zn (d + 3) 159 [.ref 0, .int a1, .int a2] zh40 (some (.int (Int32.ofInt (-1)))) zh40 := by
  refine ⟨zu_X11_log, Nat.le_of_ble_eq_true rfl, Nat.le_of_ble_eq_true rfl, [zo, zo, zo, zo, zc (some (.int (Int32.ofInt (-1)))) zh40], _, _, rfl, ?_, ?_⟩
  · exact ⟨trivial, (Nat.le_of_ble_eq_true rfl), trivial, trivial, ⟨⟨(Nat.le_of_ble_eq_true rfl), (Nat.le_of_ble_eq_true rfl)⟩, zq268 zn (d + 0) a1 ha1l ha1h a2 ha2l ha2h, (Nat.le_of_ble_eq_true rfl), (Nat.le_of_ble_eq_true rfl), (Nat.le_of_ble_eq_true rfl), (Nat.le_of_ble_eq_true rfl), (Nat.le_of_ble_eq_true rfl)⟩, trivial⟩
  · exact zfin_i rfl rfl rfl
set_option maxRecDepth 100000 in
set_option maxHeartbeats 4000000 in
theorem zq270 (zn : Bool) (d : Nat) (a1 : Int32) (ha1l : 0 ≤ a1.toInt) (ha1h : a1.toInt ≤ 0) (a2 : Int32) (ha2l : -2147483648 ≤ a2.toInt) (ha2h : a2.toInt ≤ 2147483647) : z_sem zn (d + 2) 252 [.ref 79, .int a1, .int a2] zh40 (some (.int (Int32.ofInt (-1)))) zh42 := by
  refine ⟨zu_X12_log, Nat.le_of_ble_eq_true rfl, Nat.le_of_ble_eq_true rfl, [zo, zo, zo, zo, zo, zo, zo, zo, zo, zo, zo, zc (some (.int (Int32.ofInt 0))) zh42, zt, zo], _, _, rfl, ?_, ?_⟩
  · exact ⟨trivial, trivial, ⟨(Nat.le_of_ble_eq_true rfl), rfl, rfl⟩, trivial, trivial, trivial, trivial, (Nat.le_of_ble_eq_true rfl), trivial, trivial, trivial, ⟨(Nat.le_of_ble_eq_true rfl), zq169 zn (d + 0) a1 ha1l ha1h, (Nat.le_of_ble_eq_true rfl), (Nat.le_of_ble_eq_true rfl), (Nat.le_of_ble_eq_true rfl), (Nat.le_of_ble_eq_true rfl), (Nat.le_of_ble_eq_true rfl)⟩, zbt (by decide +kernel), trivial, trivial⟩
  · exact zfin_i rfl rfl rfl
set_option maxRecDepth 100000 in
set_option maxHeartbeats 4000000 in
theorem zq271 (zn : Bool) (d : Nat) (a1 : Int32) (ha1l : -2147483648 ≤ a1.toInt) (ha1h : a1.toInt ≤ -1) (a2 : Int32) (ha2l : -2147483648 ≤ a2.toInt) (ha2h : a2.toInt ≤ 2147483647) : z_sem zn (d + 1) 92 [.ref 23, .int a1, .int a2] zh40 (some (.int (Int32.ofInt (-1)))) zh40 := by
  refine ⟨zu_X5_told, Nat.le_of_ble_eq_true rfl, Nat.le_of_ble_eq_true rfl, [zo, zt, zo], _, _, rfl, ?_, ?_⟩
  · exact ⟨trivial, zT_lt (q := 0) rfl (by decide +kernel) (by omega), trivial, trivial⟩
  · exact zfin_i rfl rfl rfl
set_option maxRecDepth 100000 in
set_option maxHeartbeats 4000000 in
theorem zq272 (zn : Bool) (d : Nat) (a1 : Int32) (ha1l : -2147483648 ≤ a1.toInt) (ha1h : a1.toInt ≤ -1) (a2 : Int32) (ha2l : -2147483648 ≤ a2.toInt) (ha2h : a2.toInt ≤ 2147483647) : z_sem zn (d + 2) 159 [.ref 0, .int a1, .int a2] zh40 (some (.int (Int32.ofInt (-1)))) zh40 := by
  refine ⟨zu_X11_log, Nat.le_of_ble_eq_true rfl, Nat.le_of_ble_eq_true rfl, [zo, zo, zo, zo, zc (some (.int (Int32.ofInt (-1)))) zh40], _, _, rfl, ?_, ?_⟩
  · exact ⟨trivial, (Nat.le_of_ble_eq_true rfl), trivial, trivial, ⟨⟨(Nat.le_of_ble_eq_true rfl), (Nat.le_of_ble_eq_true rfl)⟩, zq271 zn (d + 0) a1 ha1l ha1h a2 ha2l ha2h, (Nat.le_of_ble_eq_true rfl), (Nat.le_of_ble_eq_true rfl), (Nat.le_of_ble_eq_true rfl), (Nat.le_of_ble_eq_true rfl), (Nat.le_of_ble_eq_true rfl)⟩, trivial⟩
  · exact zfin_i rfl rfl rfl
set_option maxRecDepth 100000 in
set_option maxHeartbeats 4000000 in
theorem zq273 (zn : Bool) (d : Nat) (a1 : Int32) (ha1l : -2147483648 ≤ a1.toInt) (ha1h : a1.toInt ≤ -1) : z_sem zn (d + 1) 236 [.long (a1.toInt64), .long (Int64.ofNat 0), .long ((0 - (Int32.ofInt 1)).toInt64)] zh42 (some (.int (Int32.ofInt 0))) zh42 := by
  refine ⟨zu_X12_isIn, Nat.le_of_ble_eq_true rfl, Nat.le_of_ble_eq_true rfl, [zo, zo, zo, zt, zo], _, _, rfl, ?_, ?_⟩
  · exact ⟨trivial, trivial, trivial, zbt (by rw [zc_lt (p := (a1).toInt) (q := 0) (by simp only [zi_64]) (by decide +kernel) (by omega)]; decide), trivial, trivial⟩
  · exact zfin_i rfl rfl rfl
set_option maxRecDepth 100000 in
set_option maxHeartbeats 4000000 in
theorem zq274 (zn : Bool) (d : Nat) (a1 : Int32) (ha1l : -2147483648 ≤ a1.toInt) (ha1h : a1.toInt ≤ -1) (a2 : Int32) (ha2l : -2147483648 ≤ a2.toInt) (ha2h : a2.toInt ≤ 2147483647) : z_sem zn (d + 2) 252 [.ref 79, .int a1, .int a2] zh40 (some (.int (Int32.ofInt (-1)))) zh42 := by
  refine ⟨zu_X12_log, Nat.le_of_ble_eq_true rfl, Nat.le_of_ble_eq_true rfl, [zo, zo, zo, zo, zo, zo, zo, zo, zo, zo, zo, zc (some (.int (Int32.ofInt 0))) zh42, zt, zo], _, _, rfl, ?_, ?_⟩
  · exact ⟨trivial, trivial, ⟨(Nat.le_of_ble_eq_true rfl), rfl, rfl⟩, trivial, trivial, trivial, trivial, (Nat.le_of_ble_eq_true rfl), trivial, trivial, trivial, ⟨(Nat.le_of_ble_eq_true rfl), zq273 zn (d + 0) a1 ha1l ha1h, (Nat.le_of_ble_eq_true rfl), (Nat.le_of_ble_eq_true rfl), (Nat.le_of_ble_eq_true rfl), (Nat.le_of_ble_eq_true rfl), (Nat.le_of_ble_eq_true rfl)⟩, zbt (by decide +kernel), trivial, trivial⟩
  · exact zfin_i rfl rfl rfl
set_option maxRecDepth 100000 in
set_option maxHeartbeats 4000000 in
theorem zq275 (zn : Bool) (d : Nat) (a1 : Int32) (ha1l : -2147483648 ≤ a1.toInt) (ha1h : a1.toInt ≤ 2147483647) (a2 : Int32) (ha2l : -2147483648 ≤ a2.toInt) (ha2h : a2.toInt ≤ 2147483647) : z_sem zn (d + 1) 127 [.ref 0, .int a1, .int a2] zh40 (some (.int (Int32.ofInt (-1)))) zh40 := by
  refine ⟨zu_X11_ahead, Nat.le_of_ble_eq_true rfl, Nat.le_of_ble_eq_true rfl, [zo, zo, zt, zo], _, _, rfl, ?_, ?_⟩
  · exact ⟨trivial, (Nat.le_of_ble_eq_true rfl), zbt (by decide +kernel), trivial, trivial⟩
  · exact zfin_i rfl rfl rfl
set_option maxRecDepth 100000 in
set_option maxHeartbeats 4000000 in
theorem zq276 (zn : Bool) (d : Nat) (a1 : Int32) (ha1l : -2147483648 ≤ a1.toInt) (ha1h : a1.toInt ≤ 2147483647) (a2 : Int32) (ha2l : -2147483648 ≤ a2.toInt) (ha2h : a2.toInt ≤ 2147483647) : z_sem zn (d + 2) 186 [.ref 79, .int a1, .int a2] zh40 (some (.int (Int32.ofInt (-1)))) zh42 := by
  refine ⟨zu_X12_ahead, Nat.le_of_ble_eq_true rfl, Nat.le_of_ble_eq_true rfl, [zo, zo, zo, zo, zc (some (.int (Int32.ofInt 0))) zh42, zt, zo], _, _, rfl, ?_, ?_⟩
  · exact ⟨trivial, trivial, ⟨(Nat.le_of_ble_eq_true rfl), rfl, rfl⟩, trivial, ⟨⟨(Nat.le_of_ble_eq_true rfl), (Nat.le_of_ble_eq_true rfl)⟩, zq197 zn (d + 0), (Nat.le_of_ble_eq_true rfl), (Nat.le_of_ble_eq_true rfl), (Nat.le_of_ble_eq_true rfl), (Nat.le_of_ble_eq_true rfl), (Nat.le_of_ble_eq_true rfl)⟩, zbt (by decide +kernel), trivial, trivial⟩
  · exact zfin_i rfl rfl rfl
set_option maxRecDepth 100000 in
set_option maxHeartbeats 4000000 in
theorem zq277 (zn : Bool) (d : Nat) (a1 : Int32) (ha1l : -2147483648 ≤ a1.toInt) (ha1h : a1.toInt ≤ 2147483647) (a2 : Int32) (ha2l : -2147483648 ≤ a2.toInt) (ha2h : a2.toInt ≤ 2147483647) : z_sem zn (d + 1) 143 [.ref 0, .int a1, .int a2, .int (Int32.ofInt 0)] zh40 (some (.int (Int32.ofInt (-1)))) zh40 := by
  refine ⟨zu_X11_firstOf, Nat.le_of_ble_eq_true rfl, Nat.le_of_ble_eq_true rfl, [zo, zo, zt, zo], _, _, rfl, ?_, ?_⟩
  · exact ⟨trivial, (Nat.le_of_ble_eq_true rfl), zbt (by decide +kernel), trivial, trivial⟩
  · exact zfin_i rfl rfl rfl
set_option maxRecDepth 100000 in
set_option maxHeartbeats 4000000 in
theorem zq278 (zn : Bool) (d : Nat) (a1 : Int32) (ha1l : -2147483648 ≤ a1.toInt) (ha1h : a1.toInt ≤ 2147483647) (a2 : Int32) (ha2l : -2147483648 ≤ a2.toInt) (ha2h : a2.toInt ≤ 2147483647) : z_sem zn (d + 2) 176 [.ref 0, .int a1, .int a2] zh40 (some (.int (Int32.ofInt (-1)))) zh40 := by
  refine ⟨zu_X11_starves, Nat.le_of_ble_eq_true rfl, Nat.le_of_ble_eq_true rfl, [zo, zo, zo, zo, zc (some (.int (Int32.ofInt (-1)))) zh40], _, _, rfl, ?_, ?_⟩
  · exact ⟨trivial, trivial, trivial, trivial, ⟨⟨(Nat.le_of_ble_eq_true rfl), (Nat.le_of_ble_eq_true rfl)⟩, zq277 zn (d + 0) a1 ha1l ha1h a2 ha2l ha2h, (Nat.le_of_ble_eq_true rfl), (Nat.le_of_ble_eq_true rfl), (Nat.le_of_ble_eq_true rfl), (Nat.le_of_ble_eq_true rfl), (Nat.le_of_ble_eq_true rfl)⟩, trivial⟩
  · exact zfin_i rfl rfl rfl
set_option maxRecDepth 100000 in
set_option maxHeartbeats 4000000 in
theorem zq279 (zn : Bool) (d : Nat) (a1 : Int32) (ha1l : -2147483648 ≤ a1.toInt) (ha1h : a1.toInt ≤ 2147483647) (a2 : Int32) (ha2l : -2147483648 ≤ a2.toInt) (ha2h : a2.toInt ≤ 2147483647) : z_sem zn (d + 2) 187 [.ref 79, .int a1, .int (Int32.ofInt 0), .int a2] zh42 (some (.int (Int32.ofInt (-1)))) zh42 := by
  refine ⟨zu_X12_askFirst, Nat.le_of_ble_eq_true rfl, Nat.le_of_ble_eq_true rfl, [zo, zc (some (.int (Int32.ofInt 0))) zh42, zt, zo], _, _, rfl, ?_, ?_⟩
  · exact ⟨trivial, ⟨⟨(Nat.le_of_ble_eq_true rfl), (Nat.le_of_ble_eq_true rfl)⟩, zq197 zn (d + 0), (Nat.le_of_ble_eq_true rfl), (Nat.le_of_ble_eq_true rfl), (Nat.le_of_ble_eq_true rfl), (Nat.le_of_ble_eq_true rfl), (Nat.le_of_ble_eq_true rfl)⟩, zbt (by decide +kernel), trivial, trivial⟩
  · exact zfin_i rfl rfl rfl
set_option maxRecDepth 100000 in
set_option maxHeartbeats 4000000 in
theorem zq280 (zn : Bool) (d : Nat) (a1 : Int32) (ha1l : -2147483648 ≤ a1.toInt) (ha1h : a1.toInt ≤ 2147483647) (a2 : Int32) (ha2l : -2147483648 ≤ a2.toInt) (ha2h : a2.toInt ≤ 2147483647) : z_sem zn (d + 3) 281 [.ref 79, .int a1, .int a2] zh40 (some (.int (Int32.ofInt (-1)))) zh42 := by
  refine ⟨zu_X12_starves, Nat.le_of_ble_eq_true rfl, Nat.le_of_ble_eq_true rfl, [zo, zo, zo, zo, zo, zo, zo, zc (some (.int (Int32.ofInt (-1)))) zh42], _, _, rfl, ?_, ?_⟩
  · exact ⟨trivial, trivial, ⟨(Nat.le_of_ble_eq_true rfl), rfl, rfl⟩, trivial, trivial, trivial, trivial, ⟨⟨(Nat.le_of_ble_eq_true rfl), (Nat.le_of_ble_eq_true rfl)⟩, zq279 zn (d + 0) a1 ha1l ha1h a2 ha2l ha2h, (Nat.le_of_ble_eq_true rfl), (Nat.le_of_ble_eq_true rfl), (Nat.le_of_ble_eq_true rfl), (Nat.le_of_ble_eq_true rfl), (Nat.le_of_ble_eq_true rfl)⟩, trivial⟩
  · exact zfin_i rfl rfl rfl
set_option maxRecDepth 100000 in
set_option maxHeartbeats 4000000 in
theorem zq281 (zn : Bool) (d : Nat) (a1 : Int32) (ha1l : -2147483648 ≤ a1.toInt) (ha1h : a1.toInt ≤ 2147483647) (a2 : Int32) (ha2l : -2147483648 ≤ a2.toInt) (ha2h : a2.toInt ≤ 2147483647) : z_sem zn (d + 1) 143 [.ref 0, .int a1, .int a2, .int (Int32.ofInt 1)] zh40 (some (.int (Int32.ofInt (-1)))) zh40 := by
  refine ⟨zu_X11_firstOf, Nat.le_of_ble_eq_true rfl, Nat.le_of_ble_eq_true rfl, [zo, zo, zt, zo], _, _, rfl, ?_, ?_⟩
  · exact ⟨trivial, (Nat.le_of_ble_eq_true rfl), zbt (by decide +kernel), trivial, trivial⟩
  · exact zfin_i rfl rfl rfl
set_option maxRecDepth 100000 in
set_option maxHeartbeats 4000000 in
theorem zq282 (zn : Bool) (d : Nat) (a1 : Int32) (ha1l : -2147483648 ≤ a1.toInt) (ha1h : a1.toInt ≤ 2147483647) (a2 : Int32) (ha2l : -2147483648 ≤ a2.toInt) (ha2h : a2.toInt ≤ 2147483647) : z_sem zn (d + 2) 184 [.ref 0, .int a1, .int a2] zh40 (some (.int (Int32.ofInt (-1)))) zh40 := by
  refine ⟨zu_X11_wild, Nat.le_of_ble_eq_true rfl, Nat.le_of_ble_eq_true rfl, [zo, zo, zo, zo, zc (some (.int (Int32.ofInt (-1)))) zh40], _, _, rfl, ?_, ?_⟩
  · exact ⟨trivial, trivial, trivial, trivial, ⟨⟨(Nat.le_of_ble_eq_true rfl), (Nat.le_of_ble_eq_true rfl)⟩, zq281 zn (d + 0) a1 ha1l ha1h a2 ha2l ha2h, (Nat.le_of_ble_eq_true rfl), (Nat.le_of_ble_eq_true rfl), (Nat.le_of_ble_eq_true rfl), (Nat.le_of_ble_eq_true rfl), (Nat.le_of_ble_eq_true rfl)⟩, trivial⟩
  · exact zfin_i rfl rfl rfl
set_option maxRecDepth 100000 in
set_option maxHeartbeats 4000000 in
theorem zq283 (zn : Bool) (d : Nat) (a1 : Int32) (ha1l : -2147483648 ≤ a1.toInt) (ha1h : a1.toInt ≤ 2147483647) (a2 : Int32) (ha2l : -2147483648 ≤ a2.toInt) (ha2h : a2.toInt ≤ 2147483647) : z_sem zn (d + 2) 187 [.ref 79, .int a1, .int (Int32.ofInt 1), .int a2] zh42 (some (.int (Int32.ofInt (-1)))) zh42 := by
  refine ⟨zu_X12_askFirst, Nat.le_of_ble_eq_true rfl, Nat.le_of_ble_eq_true rfl, [zo, zc (some (.int (Int32.ofInt 0))) zh42, zt, zo], _, _, rfl, ?_, ?_⟩
  · exact ⟨trivial, ⟨⟨(Nat.le_of_ble_eq_true rfl), (Nat.le_of_ble_eq_true rfl)⟩, zq197 zn (d + 0), (Nat.le_of_ble_eq_true rfl), (Nat.le_of_ble_eq_true rfl), (Nat.le_of_ble_eq_true rfl), (Nat.le_of_ble_eq_true rfl), (Nat.le_of_ble_eq_true rfl)⟩, zbt (by decide +kernel), trivial, trivial⟩
  · exact zfin_i rfl rfl rfl
set_option maxRecDepth 100000 in
set_option maxHeartbeats 4000000 in
theorem zq284 (zn : Bool) (d : Nat) (a1 : Int32) (ha1l : -2147483648 ≤ a1.toInt) (ha1h : a1.toInt ≤ 2147483647) (a2 : Int32) (ha2l : -2147483648 ≤ a2.toInt) (ha2h : a2.toInt ≤ 2147483647) : z_sem zn (d + 3) 294 [.ref 79, .int a1, .int a2] zh40 (some (.int (Int32.ofInt (-1)))) zh42 := by
  refine ⟨zu_X12_wild, Nat.le_of_ble_eq_true rfl, Nat.le_of_ble_eq_true rfl, [zo, zo, zo, zo, zo, zo, zo, zc (some (.int (Int32.ofInt (-1)))) zh42], _, _, rfl, ?_, ?_⟩
  · exact ⟨trivial, trivial, ⟨(Nat.le_of_ble_eq_true rfl), rfl, rfl⟩, trivial, trivial, trivial, trivial, ⟨⟨(Nat.le_of_ble_eq_true rfl), (Nat.le_of_ble_eq_true rfl)⟩, zq283 zn (d + 0) a1 ha1l ha1h a2 ha2l ha2h, (Nat.le_of_ble_eq_true rfl), (Nat.le_of_ble_eq_true rfl), (Nat.le_of_ble_eq_true rfl), (Nat.le_of_ble_eq_true rfl), (Nat.le_of_ble_eq_true rfl)⟩, trivial⟩
  · exact zfin_i rfl rfl rfl
set_option maxRecDepth 100000 in
set_option maxHeartbeats 4000000 in
theorem zq285 (zn : Bool) (d : Nat) : z_sem zn (d + 1) 144 [.ref 0] zh40 (some (.int (Int32.ofInt (-1)))) zh40 := by
  refine ⟨zu_X11_full, Nat.le_of_ble_eq_true rfl, Nat.le_of_ble_eq_true rfl, [zo, zo, zt, zo], _, _, rfl, ?_, ?_⟩
  · exact ⟨trivial, (Nat.le_of_ble_eq_true rfl), zbt (by decide +kernel), trivial, trivial⟩
  · exact zfin_i rfl rfl rfl
set_option maxRecDepth 100000 in
set_option maxHeartbeats 4000000 in
theorem zq286 (zn : Bool) (d : Nat) : z_sem zn (d + 2) 217 [.ref 79] zh40 (some (.int (Int32.ofInt (-1)))) zh42 := by
  refine ⟨zu_X12_full, Nat.le_of_ble_eq_true rfl, Nat.le_of_ble_eq_true rfl, [zo, zo, zo, zo, zc (some (.int (Int32.ofInt 0))) zh42, zo, zo], _, _, rfl, ?_, ?_⟩
  · exact ⟨trivial, trivial, ⟨(Nat.le_of_ble_eq_true rfl), rfl, rfl⟩, trivial, ⟨⟨(Nat.le_of_ble_eq_true rfl), (Nat.le_of_ble_eq_true rfl)⟩, zq197 zn (d + 0), (Nat.le_of_ble_eq_true rfl), (Nat.le_of_ble_eq_true rfl), (Nat.le_of_ble_eq_true rfl), (Nat.le_of_ble_eq_true rfl), (Nat.le_of_ble_eq_true rfl)⟩, zbf (by decide +kernel), trivial, trivial⟩
  · exact zfin_i rfl rfl rfl
set_option maxRecDepth 100000 in
set_option maxHeartbeats 4000000 in
theorem zq287 (zn : Bool) (d : Nat) (a1 : Int32) (ha1l : -2147483648 ≤ a1.toInt) (ha1h : a1.toInt ≤ 2147483647) (a2 : Int32) (ha2l : -2147483648 ≤ a2.toInt) (ha2h : a2.toInt ≤ 2147483647) : z_sem zn (d + 1) 154 [.ref 0, .int a1, .int a2] zh40 (some (.int (Int32.ofInt (-1)))) zh40 := by
  refine ⟨zu_X11_kinds, Nat.le_of_ble_eq_true rfl, Nat.le_of_ble_eq_true rfl, [zo, zo, zt, zo], _, _, rfl, ?_, ?_⟩
  · exact ⟨trivial, (Nat.le_of_ble_eq_true rfl), zbt (by decide +kernel), trivial, trivial⟩
  · exact zfin_i rfl rfl rfl
set_option maxRecDepth 100000 in
set_option maxHeartbeats 4000000 in
theorem zq288 (zn : Bool) (d : Nat) (a1 : Int32) (ha1l : -2147483648 ≤ a1.toInt) (ha1h : a1.toInt ≤ 2147483647) (a2 : Int32) (ha2l : -2147483648 ≤ a2.toInt) (ha2h : a2.toInt ≤ 2147483647) : z_sem zn (d + 2) 246 [.ref 79, .int a1, .int a2] zh40 (some (.int (Int32.ofInt (-1)))) zh42 := by
  refine ⟨zu_X12_kinds, Nat.le_of_ble_eq_true rfl, Nat.le_of_ble_eq_true rfl, [zo, zo, zo, zo, zc (some (.int (Int32.ofInt 0))) zh42, zt, zo], _, _, rfl, ?_, ?_⟩
  · exact ⟨trivial, trivial, ⟨(Nat.le_of_ble_eq_true rfl), rfl, rfl⟩, trivial, ⟨⟨(Nat.le_of_ble_eq_true rfl), (Nat.le_of_ble_eq_true rfl)⟩, zq197 zn (d + 0), (Nat.le_of_ble_eq_true rfl), (Nat.le_of_ble_eq_true rfl), (Nat.le_of_ble_eq_true rfl), (Nat.le_of_ble_eq_true rfl), (Nat.le_of_ble_eq_true rfl)⟩, zbt (by decide +kernel), trivial, trivial⟩
  · exact zfin_i rfl rfl rfl
set_option maxRecDepth 100000 in
set_option maxHeartbeats 4000000 in
theorem zq289 (zn : Bool) (d : Nat) (a1 : Int32) (ha1l : -2147483648 ≤ a1.toInt) (ha1h : a1.toInt ≤ 2147483647) (a2 : Int32) (ha2l : -2147483648 ≤ a2.toInt) (ha2h : a2.toInt ≤ 2147483647) : z_sem zn (d + 1) 169 [.ref 0, .int a1, .int a2] zh40 (some (.int (Int32.ofInt (-1)))) zh40 := by
  refine ⟨zu_X11_rota, Nat.le_of_ble_eq_true rfl, Nat.le_of_ble_eq_true rfl, [zo, zo, zt, zo], _, _, rfl, ?_, ?_⟩
  · exact ⟨trivial, (Nat.le_of_ble_eq_true rfl), zbt (by decide +kernel), trivial, trivial⟩
  · exact zfin_i rfl rfl rfl
set_option maxRecDepth 100000 in
set_option maxHeartbeats 4000000 in
theorem zq290 (zn : Bool) (d : Nat) (a1 : Int32) (ha1l : -2147483648 ≤ a1.toInt) (ha1h : a1.toInt ≤ 2147483647) (a2 : Int32) (ha2l : -2147483648 ≤ a2.toInt) (ha2h : a2.toInt ≤ 2147483647) : z_sem zn (d + 2) 273 [.ref 79, .int a1, .int a2] zh40 (some (.int (Int32.ofInt (-1)))) zh42 := by
  refine ⟨zu_X12_rota, Nat.le_of_ble_eq_true rfl, Nat.le_of_ble_eq_true rfl, [zo, zo, zo, zo, zc (some (.int (Int32.ofInt 0))) zh42, zt, zo], _, _, rfl, ?_, ?_⟩
  · exact ⟨trivial, trivial, ⟨(Nat.le_of_ble_eq_true rfl), rfl, rfl⟩, trivial, ⟨⟨(Nat.le_of_ble_eq_true rfl), (Nat.le_of_ble_eq_true rfl)⟩, zq197 zn (d + 0), (Nat.le_of_ble_eq_true rfl), (Nat.le_of_ble_eq_true rfl), (Nat.le_of_ble_eq_true rfl), (Nat.le_of_ble_eq_true rfl), (Nat.le_of_ble_eq_true rfl)⟩, zbt (by decide +kernel), trivial, trivial⟩
  · exact zfin_i rfl rfl rfl
set_option maxRecDepth 100000 in
set_option maxHeartbeats 4000000 in
theorem zq291 (zn : Bool) (d : Nat) (a1 : Int32) (ha1l : -2147483648 ≤ a1.toInt) (ha1h : a1.toInt ≤ 2147483647) : z_sem zn (d + 1) 142 [.ref 0, .int a1] zh40 (some (.int (Int32.ofInt (-1)))) zh40 := by
  refine ⟨zu_X11_fewest, Nat.le_of_ble_eq_true rfl, Nat.le_of_ble_eq_true rfl, [zo, zo, zt, zo], _, _, rfl, ?_, ?_⟩
  · exact ⟨trivial, (Nat.le_of_ble_eq_true rfl), zbt (by decide +kernel), trivial, trivial⟩
  · exact zfin_i rfl rfl rfl
set_option maxRecDepth 100000 in
set_option maxHeartbeats 4000000 in
theorem zq292 (zn : Bool) (d : Nat) (a1 : Int32) (ha1l : -2147483648 ≤ a1.toInt) (ha1h : a1.toInt ≤ 2147483647) : z_sem zn (d + 2) 214 [.ref 79, .int a1] zh40 (some (.int (Int32.ofInt (-1)))) zh42 := by
  refine ⟨zu_X12_fewest, Nat.le_of_ble_eq_true rfl, Nat.le_of_ble_eq_true rfl, [zo, zo, zo, zo, zc (some (.int (Int32.ofInt 0))) zh42, zt, zo], _, _, rfl, ?_, ?_⟩
  · exact ⟨trivial, trivial, ⟨(Nat.le_of_ble_eq_true rfl), rfl, rfl⟩, trivial, ⟨⟨(Nat.le_of_ble_eq_true rfl), (Nat.le_of_ble_eq_true rfl)⟩, zq197 zn (d + 0), (Nat.le_of_ble_eq_true rfl), (Nat.le_of_ble_eq_true rfl), (Nat.le_of_ble_eq_true rfl), (Nat.le_of_ble_eq_true rfl), (Nat.le_of_ble_eq_true rfl)⟩, zbt (by decide +kernel), trivial, trivial⟩
  · exact zfin_i rfl rfl rfl
set_option maxRecDepth 100000 in
set_option maxHeartbeats 4000000 in
theorem zq293 (zn : Bool) (d : Nat) : z_sem zn (d + 1) 65 [.ref 17] zh40 (some (.int (Int32.ofInt 0))) zh40 := by
  refine ⟨zu_X3_living, Nat.le_of_ble_eq_true rfl, Nat.le_of_ble_eq_true rfl, [zo, zo, zo, zo, zo, zo, zo, zo, zt, zo], _, _, rfl, ?_, ?_⟩
  · exact ⟨trivial, trivial, trivial, trivial, trivial, trivial, trivial, ⟨(Nat.le_of_ble_eq_true rfl), (zvin (by decide +kernel))⟩, zbt (by decide +kernel), trivial, trivial⟩
  · exact zfin_i rfl rfl rfl
set_option maxRecDepth 100000 in
set_option maxHeartbeats 4000000 in
theorem zq294 (zn : Bool) (d : Nat) : z_sem zn (d + 2) 158 [.ref 0] zh40 (some (.int (Int32.ofInt 0))) zh40 := by
  refine ⟨zu_X11_living, Nat.le_of_ble_eq_true rfl, Nat.le_of_ble_eq_true rfl, [zo, zo, zc (some (.int (Int32.ofInt 0))) zh40], _, _, rfl, ?_, ?_⟩
  · exact ⟨trivial, (Nat.le_of_ble_eq_true rfl), ⟨(Nat.le_of_ble_eq_true rfl), zq293 zn (d + 0), (Nat.le_of_ble_eq_true rfl), (Nat.le_of_ble_eq_true rfl), (Nat.le_of_ble_eq_true rfl), (Nat.le_of_ble_eq_true rfl), (Nat.le_of_ble_eq_true rfl)⟩, trivial⟩
  · exact zfin_i rfl rfl rfl
set_option maxRecDepth 100000 in
set_option maxHeartbeats 4000000 in
theorem zq295 (zn : Bool) (d : Nat) (a1 : Int32) (ha1l : -2147483648 ≤ a1.toInt) (ha1h : a1.toInt ≤ 2147483647) (a2 : Int32) (ha2l : -2147483648 ≤ a2.toInt) (ha2h : a2.toInt ≤ 2147483647) : z_sem zn (d + 3) 129 [.ref 0, .int a1, .int a2] zh40 (some (.int (Int32.ofInt (-1)))) zh40 := by
  refine ⟨zu_X11_best, Nat.le_of_ble_eq_true rfl, Nat.le_of_ble_eq_true rfl, [zo, zc (some (.int (Int32.ofInt 0))) zh40, zo, zo, zo, zt, zo], _, _, rfl, ?_, ?_⟩
  · exact ⟨trivial, ⟨⟨(Nat.le_of_ble_eq_true rfl), (Nat.le_of_ble_eq_true rfl)⟩, zq294 zn (d + 0), (Nat.le_of_ble_eq_true rfl), (Nat.le_of_ble_eq_true rfl), (Nat.le_of_ble_eq_true rfl), (Nat.le_of_ble_eq_true rfl), (Nat.le_of_ble_eq_true rfl)⟩, trivial, trivial, (Nat.le_of_ble_eq_true rfl), zbt (by decide +kernel), trivial, trivial⟩
  · exact zfin_i rfl rfl rfl
set_option maxRecDepth 100000 in
set_option maxHeartbeats 4000000 in
theorem zq296 (zn : Bool) (d : Nat) : z_sem zn (d + 1) 251 [.ref 92] zh42 (some (.int (Int32.ofInt 0))) zh42 := by
  refine ⟨zu_X12_living, Nat.le_of_ble_eq_true rfl, Nat.le_of_ble_eq_true rfl, [zo, zo, zo, zo, zo, zo, zo, zo, zt, zo], _, _, rfl, ?_, ?_⟩
  · exact ⟨trivial, trivial, trivial, trivial, trivial, trivial, trivial, ⟨(Nat.le_of_ble_eq_true rfl), (zvin (by decide +kernel))⟩, zbt (by decide +kernel), trivial, trivial⟩
  · exact zfin_i rfl rfl rfl
