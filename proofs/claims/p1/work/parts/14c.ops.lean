/-! methods of fresh objects, by program (wip/tools/ops.py) -/
set_option maxRecDepth 100000 in
set_option maxHeartbeats 4000000 in
theorem zq297 (zn : Bool) (d : Nat) (a1 : Int32) (ha1l : -2147483648 ≤ a1.toInt) (ha1h : a1.toInt ≤ 2147483647) (a2 : Int32) (ha2l : -2147483648 ≤ a2.toInt) (ha2h : a2.toInt ≤ 2147483647) : z_sem zn (d + 2) 190 [.ref 79, .int a1, .int a2] zh40 (some (.int (Int32.ofInt (-1)))) zh42 := by
  refine ⟨zu_X12_best, Nat.le_of_ble_eq_true rfl, Nat.le_of_ble_eq_true rfl, [zo, zo, zo, zo, zo, zc (some (.int (Int32.ofInt 0))) zh42, zo, zo, zc (some (.int (Int32.ofInt 0))) zh42, zt, zo], _, _, rfl, ?_, ?_⟩
  · exact ⟨trivial, trivial, ⟨(Nat.le_of_ble_eq_true rfl), rfl, rfl⟩, trivial, (Nat.le_of_ble_eq_true rfl), ⟨(Nat.le_of_ble_eq_true rfl), zq296 zn (d + 0), (Nat.le_of_ble_eq_true rfl), (Nat.le_of_ble_eq_true rfl), (Nat.le_of_ble_eq_true rfl), (Nat.le_of_ble_eq_true rfl), (Nat.le_of_ble_eq_true rfl)⟩, trivial, trivial, ⟨⟨(Nat.le_of_ble_eq_true rfl), (Nat.le_of_ble_eq_true rfl)⟩, zq197 zn (d + 0), (Nat.le_of_ble_eq_true rfl), (Nat.le_of_ble_eq_true rfl), (Nat.le_of_ble_eq_true rfl), (Nat.le_of_ble_eq_true rfl), (Nat.le_of_ble_eq_true rfl)⟩, zbt (by decide +kernel), trivial, trivial⟩
  · exact zfin_i rfl rfl rfl
set_option maxRecDepth 100000 in
set_option maxHeartbeats 4000000 in
theorem zq298 (zn : Bool) (d : Nat) (a1 : Int32) (ha1l : 1 ≤ a1.toInt) (ha1h : a1.toInt ≤ 2147483647) : z_sem zn (d + 2) 173 [.ref 0, .int a1] zh40 (some (.int ((-1000000)))) zh40 := by
  refine ⟨zu_X11_shows, Nat.le_of_ble_eq_true rfl, Nat.le_of_ble_eq_true rfl, [zo, zo, zc (some (.int (Int32.ofInt 0))) zh40, zt, zo], _, _, rfl, ?_, ?_⟩
  · exact ⟨trivial, trivial, ⟨⟨(Nat.le_of_ble_eq_true rfl), (Nat.le_of_ble_eq_true rfl)⟩, zq219 zn (d + 0) a1 ha1l ha1h, (Nat.le_of_ble_eq_true rfl), (Nat.le_of_ble_eq_true rfl), (Nat.le_of_ble_eq_true rfl), (Nat.le_of_ble_eq_true rfl), (Nat.le_of_ble_eq_true rfl)⟩, zbt (by decide +kernel), trivial, trivial⟩
  · exact zfin_i rfl rfl rfl
set_option maxRecDepth 100000 in
set_option maxHeartbeats 4000000 in
theorem zq299 (zn : Bool) (d : Nat) (a1 : Int32) (ha1l : 1 ≤ a1.toInt) (ha1h : a1.toInt ≤ 2147483647) : z_sem zn (d + 2) 278 [.ref 79, .int a1] zh40 (some (.int ((-1000000)))) zh42 := by
  refine ⟨zu_X12_shows, Nat.le_of_ble_eq_true rfl, Nat.le_of_ble_eq_true rfl, [zo, zo, zo, zo, zo, zc (some (.int (Int32.ofInt 0))) zh42, zt, zo], _, _, rfl, ?_, ?_⟩
  · exact ⟨trivial, trivial, ⟨(Nat.le_of_ble_eq_true rfl), rfl, rfl⟩, trivial, trivial, ⟨⟨(Nat.le_of_ble_eq_true rfl), (Nat.le_of_ble_eq_true rfl)⟩, zq222 zn (d + 0) a1 ha1l ha1h, (Nat.le_of_ble_eq_true rfl), (Nat.le_of_ble_eq_true rfl), (Nat.le_of_ble_eq_true rfl), (Nat.le_of_ble_eq_true rfl), (Nat.le_of_ble_eq_true rfl)⟩, zbt (by decide +kernel), trivial, trivial⟩
  · exact zfin_i rfl rfl rfl
set_option maxRecDepth 100000 in
set_option maxHeartbeats 4000000 in
theorem zq300 (zn : Bool) (d : Nat) (a1 : Int32) (ha1l : 0 ≤ a1.toInt) (ha1h : a1.toInt ≤ 0) : z_sem zn (d + 2) 173 [.ref 0, .int a1] zh40 (some (.int ((-1000000)))) zh40 := by
  refine ⟨zu_X11_shows, Nat.le_of_ble_eq_true rfl, Nat.le_of_ble_eq_true rfl, [zo, zo, zc (some (.int (Int32.ofInt 0))) zh40, zt, zo], _, _, rfl, ?_, ?_⟩
  · exact ⟨trivial, trivial, ⟨⟨(Nat.le_of_ble_eq_true rfl), (Nat.le_of_ble_eq_true rfl)⟩, zq225 zn (d + 0) a1 ha1l ha1h, (Nat.le_of_ble_eq_true rfl), (Nat.le_of_ble_eq_true rfl), (Nat.le_of_ble_eq_true rfl), (Nat.le_of_ble_eq_true rfl), (Nat.le_of_ble_eq_true rfl)⟩, zbt (by decide +kernel), trivial, trivial⟩
  · exact zfin_i rfl rfl rfl
set_option maxRecDepth 100000 in
set_option maxHeartbeats 4000000 in
theorem zq301 (zn : Bool) (d : Nat) (a1 : Int32) (ha1l : 0 ≤ a1.toInt) (ha1h : a1.toInt ≤ 0) : z_sem zn (d + 2) 278 [.ref 79, .int a1] zh40 (some (.int ((-1000000)))) zh42 := by
  refine ⟨zu_X12_shows, Nat.le_of_ble_eq_true rfl, Nat.le_of_ble_eq_true rfl, [zo, zo, zo, zo, zo, zc (some (.int (Int32.ofInt 0))) zh42, zt, zo], _, _, rfl, ?_, ?_⟩
  · exact ⟨trivial, trivial, ⟨(Nat.le_of_ble_eq_true rfl), rfl, rfl⟩, trivial, trivial, ⟨⟨(Nat.le_of_ble_eq_true rfl), (Nat.le_of_ble_eq_true rfl)⟩, zq228 zn (d + 0) a1 ha1l ha1h, (Nat.le_of_ble_eq_true rfl), (Nat.le_of_ble_eq_true rfl), (Nat.le_of_ble_eq_true rfl), (Nat.le_of_ble_eq_true rfl), (Nat.le_of_ble_eq_true rfl)⟩, zbt (by decide +kernel), trivial, trivial⟩
  · exact zfin_i rfl rfl rfl
set_option maxRecDepth 100000 in
set_option maxHeartbeats 4000000 in
theorem zq302 (zn : Bool) (d : Nat) (a1 : Int32) (ha1l : -2147483648 ≤ a1.toInt) (ha1h : a1.toInt ≤ -1) : z_sem zn (d + 2) 173 [.ref 0, .int a1] zh40 (some (.int ((-1000000)))) zh40 := by
  refine ⟨zu_X11_shows, Nat.le_of_ble_eq_true rfl, Nat.le_of_ble_eq_true rfl, [zo, zo, zc (some (.int (Int32.ofInt 0))) zh40, zt, zo], _, _, rfl, ?_, ?_⟩
  · exact ⟨trivial, trivial, ⟨⟨(Nat.le_of_ble_eq_true rfl), (Nat.le_of_ble_eq_true rfl)⟩, zq231 zn (d + 0) a1 ha1l ha1h, (Nat.le_of_ble_eq_true rfl), (Nat.le_of_ble_eq_true rfl), (Nat.le_of_ble_eq_true rfl), (Nat.le_of_ble_eq_true rfl), (Nat.le_of_ble_eq_true rfl)⟩, zbt (by decide +kernel), trivial, trivial⟩
  · exact zfin_i rfl rfl rfl
set_option maxRecDepth 100000 in
set_option maxHeartbeats 4000000 in
theorem zq303 (zn : Bool) (d : Nat) (a1 : Int32) (ha1l : -2147483648 ≤ a1.toInt) (ha1h : a1.toInt ≤ -1) : z_sem zn (d + 2) 278 [.ref 79, .int a1] zh40 (some (.int ((-1000000)))) zh42 := by
  refine ⟨zu_X12_shows, Nat.le_of_ble_eq_true rfl, Nat.le_of_ble_eq_true rfl, [zo, zo, zo, zo, zo, zc (some (.int (Int32.ofInt 0))) zh42, zt, zo], _, _, rfl, ?_, ?_⟩
  · exact ⟨trivial, trivial, ⟨(Nat.le_of_ble_eq_true rfl), rfl, rfl⟩, trivial, trivial, ⟨⟨(Nat.le_of_ble_eq_true rfl), (Nat.le_of_ble_eq_true rfl)⟩, zq234 zn (d + 0) a1 ha1l ha1h, (Nat.le_of_ble_eq_true rfl), (Nat.le_of_ble_eq_true rfl), (Nat.le_of_ble_eq_true rfl), (Nat.le_of_ble_eq_true rfl), (Nat.le_of_ble_eq_true rfl)⟩, zbt (by decide +kernel), trivial, trivial⟩
  · exact zfin_i rfl rfl rfl
set_option maxRecDepth 100000 in
set_option maxHeartbeats 4000000 in
theorem zq304 (zn : Bool) (d : Nat) (a1 : Int32) (ha1l : -2147483648 ≤ a1.toInt) (ha1h : a1.toInt ≤ 2147483647) : z_sem zn (d + 1) 164 [.ref 0, .int a1] zh40 (some (.int (Int32.ofInt (-1)))) zh40 := by
  refine ⟨zu_X11_near, Nat.le_of_ble_eq_true rfl, Nat.le_of_ble_eq_true rfl, [zo, zo, zt, zo], _, _, rfl, ?_, ?_⟩
  · exact ⟨trivial, (Nat.le_of_ble_eq_true rfl), zbt (by decide +kernel), trivial, trivial⟩
  · exact zfin_i rfl rfl rfl
set_option maxRecDepth 100000 in
set_option maxHeartbeats 4000000 in
theorem zq305 (zn : Bool) (d : Nat) (a1 : Int32) (ha1l : -2147483648 ≤ a1.toInt) (ha1h : a1.toInt ≤ 2147483647) : z_sem zn (d + 2) 259 [.ref 79, .int a1] zh40 (some (.int (Int32.ofInt (-1)))) zh42 := by
  refine ⟨zu_X12_near, Nat.le_of_ble_eq_true rfl, Nat.le_of_ble_eq_true rfl, [zo, zo, zo, zo, zc (some (.int (Int32.ofInt 0))) zh42, zt, zo], _, _, rfl, ?_, ?_⟩
  · exact ⟨trivial, trivial, ⟨(Nat.le_of_ble_eq_true rfl), rfl, rfl⟩, trivial, ⟨⟨(Nat.le_of_ble_eq_true rfl), (Nat.le_of_ble_eq_true rfl)⟩, zq197 zn (d + 0), (Nat.le_of_ble_eq_true rfl), (Nat.le_of_ble_eq_true rfl), (Nat.le_of_ble_eq_true rfl), (Nat.le_of_ble_eq_true rfl), (Nat.le_of_ble_eq_true rfl)⟩, zbt (by decide +kernel), trivial, trivial⟩
  · exact zfin_i rfl rfl rfl
set_option maxRecDepth 100000 in
set_option maxHeartbeats 4000000 in
theorem zq306 (zn : Bool) (d : Nat) : z_sem zn (d + 3) 162 [.ref 0] zh40 (some (.int (Int32.ofInt (-1)))) zh40 := by
  refine ⟨zu_X11_middle, Nat.le_of_ble_eq_true rfl, Nat.le_of_ble_eq_true rfl, [zo, zc (some (.int (Int32.ofInt 0))) zh40, zo, zo, zo, zo, zo, zo, zo, zo, zo, zo, zo, zo, zt, zo], _, _, rfl, ?_, ?_⟩
  · exact ⟨trivial, ⟨⟨(Nat.le_of_ble_eq_true rfl), (Nat.le_of_ble_eq_true rfl)⟩, zq294 zn (d + 0), (Nat.le_of_ble_eq_true rfl), (Nat.le_of_ble_eq_true rfl), (Nat.le_of_ble_eq_true rfl), (Nat.le_of_ble_eq_true rfl), (Nat.le_of_ble_eq_true rfl)⟩, trivial, trivial, trivial, (by decide +kernel), trivial, trivial, trivial, trivial, trivial, (Nat.le_of_ble_eq_true rfl), trivial, ⟨(Nat.le_of_ble_eq_true rfl), (zvin (by decide +kernel))⟩, zbt (by decide +kernel), trivial, trivial⟩
  · exact zfin_i rfl rfl rfl
set_option maxRecDepth 100000 in
set_option maxHeartbeats 4000000 in
theorem zq307 (zn : Bool) (d : Nat) : z_sem zn (d + 2) 257 [.ref 79] zh40 (some (.int (Int32.ofInt (-1)))) zh42 := by
  refine ⟨zu_X12_middle, Nat.le_of_ble_eq_true rfl, Nat.le_of_ble_eq_true rfl, [zo, zo, zo, zo, zo, zc (some (.int (Int32.ofInt 0))) zh42, zo, zo, zc (some (.int (Int32.ofInt 0))) zh42, zt, zo], _, _, rfl, ?_, ?_⟩
  · exact ⟨trivial, trivial, ⟨(Nat.le_of_ble_eq_true rfl), rfl, rfl⟩, trivial, (Nat.le_of_ble_eq_true rfl), ⟨(Nat.le_of_ble_eq_true rfl), zq296 zn (d + 0), (Nat.le_of_ble_eq_true rfl), (Nat.le_of_ble_eq_true rfl), (Nat.le_of_ble_eq_true rfl), (Nat.le_of_ble_eq_true rfl), (Nat.le_of_ble_eq_true rfl)⟩, trivial, trivial, ⟨⟨(Nat.le_of_ble_eq_true rfl), (Nat.le_of_ble_eq_true rfl)⟩, zq197 zn (d + 0), (Nat.le_of_ble_eq_true rfl), (Nat.le_of_ble_eq_true rfl), (Nat.le_of_ble_eq_true rfl), (Nat.le_of_ble_eq_true rfl), (Nat.le_of_ble_eq_true rfl)⟩, zbt (by decide +kernel), trivial, trivial⟩
  · exact zfin_i rfl rfl rfl
set_option maxRecDepth 100000 in
set_option maxHeartbeats 4000000 in
theorem zq308 (zn : Bool) (d : Nat) (a1 : Int32) (ha1l : 1 ≤ a1.toInt) (ha1h : a1.toInt ≤ 2147483647) : z_sem zn (d + 2) 168 [.ref 0, .int a1] zh40 (some (.int (Int32.ofInt (-1)))) zh40 := by
  refine ⟨zu_X11_ring, Nat.le_of_ble_eq_true rfl, Nat.le_of_ble_eq_true rfl, [zo, zo, zc (some (.int (Int32.ofInt 0))) zh40, zo, zo], _, _, rfl, ?_, ?_⟩
  · exact ⟨trivial, trivial, ⟨⟨(Nat.le_of_ble_eq_true rfl), (Nat.le_of_ble_eq_true rfl)⟩, zq219 zn (d + 0) a1 ha1l ha1h, (Nat.le_of_ble_eq_true rfl), (Nat.le_of_ble_eq_true rfl), (Nat.le_of_ble_eq_true rfl), (Nat.le_of_ble_eq_true rfl), (Nat.le_of_ble_eq_true rfl)⟩, zbf (by decide +kernel), trivial, trivial⟩
  · exact zfin_i rfl rfl rfl
set_option maxRecDepth 100000 in
set_option maxHeartbeats 4000000 in
theorem zq309 (zn : Bool) (d : Nat) (a1 : Int32) (ha1l : 1 ≤ a1.toInt) (ha1h : a1.toInt ≤ 2147483647) : z_sem zn (d + 2) 272 [.ref 79, .int a1] zh40 (some (.int (Int32.ofInt (-1)))) zh42 := by
  refine ⟨zu_X12_ring, Nat.le_of_ble_eq_true rfl, Nat.le_of_ble_eq_true rfl, [zo, zo, zo, zo, zo, zc (some (.int (Int32.ofInt 0))) zh42, zo, zo], _, _, rfl, ?_, ?_⟩
  · exact ⟨trivial, trivial, ⟨(Nat.le_of_ble_eq_true rfl), rfl, rfl⟩, trivial, trivial, ⟨⟨(Nat.le_of_ble_eq_true rfl), (Nat.le_of_ble_eq_true rfl)⟩, zq222 zn (d + 0) a1 ha1l ha1h, (Nat.le_of_ble_eq_true rfl), (Nat.le_of_ble_eq_true rfl), (Nat.le_of_ble_eq_true rfl), (Nat.le_of_ble_eq_true rfl), (Nat.le_of_ble_eq_true rfl)⟩, zbf (by decide +kernel), trivial, trivial⟩
  · exact zfin_i rfl rfl rfl
set_option maxRecDepth 100000 in
set_option maxHeartbeats 4000000 in
theorem zq310 (zn : Bool) (d : Nat) (a1 : Int32) (ha1l : 0 ≤ a1.toInt) (ha1h : a1.toInt ≤ 0) : z_sem zn (d + 2) 168 [.ref 0, .int a1] zh40 (some (.int (Int32.ofInt (-1)))) zh40 := by
  refine ⟨zu_X11_ring, Nat.le_of_ble_eq_true rfl, Nat.le_of_ble_eq_true rfl, [zo, zo, zc (some (.int (Int32.ofInt 0))) zh40, zo, zo], _, _, rfl, ?_, ?_⟩
  · exact ⟨trivial, trivial, ⟨⟨(Nat.le_of_ble_eq_true rfl), (Nat.le_of_ble_eq_true rfl)⟩, zq225 zn (d + 0) a1 ha1l ha1h, (Nat.le_of_ble_eq_true rfl), (Nat.le_of_ble_eq_true rfl), (Nat.le_of_ble_eq_true rfl), (Nat.le_of_ble_eq_true rfl), (Nat.le_of_ble_eq_true rfl)⟩, zbf (by decide +kernel), trivial, trivial⟩
  · exact zfin_i rfl rfl rfl
set_option maxRecDepth 100000 in
set_option maxHeartbeats 4000000 in
theorem zq311 (zn : Bool) (d : Nat) (a1 : Int32) (ha1l : 0 ≤ a1.toInt) (ha1h : a1.toInt ≤ 0) : z_sem zn (d + 2) 272 [.ref 79, .int a1] zh40 (some (.int (Int32.ofInt (-1)))) zh42 := by
  refine ⟨zu_X12_ring, Nat.le_of_ble_eq_true rfl, Nat.le_of_ble_eq_true rfl, [zo, zo, zo, zo, zo, zc (some (.int (Int32.ofInt 0))) zh42, zo, zo], _, _, rfl, ?_, ?_⟩
  · exact ⟨trivial, trivial, ⟨(Nat.le_of_ble_eq_true rfl), rfl, rfl⟩, trivial, trivial, ⟨⟨(Nat.le_of_ble_eq_true rfl), (Nat.le_of_ble_eq_true rfl)⟩, zq228 zn (d + 0) a1 ha1l ha1h, (Nat.le_of_ble_eq_true rfl), (Nat.le_of_ble_eq_true rfl), (Nat.le_of_ble_eq_true rfl), (Nat.le_of_ble_eq_true rfl), (Nat.le_of_ble_eq_true rfl)⟩, zbf (by decide +kernel), trivial, trivial⟩
  · exact zfin_i rfl rfl rfl
set_option maxRecDepth 100000 in
set_option maxHeartbeats 4000000 in
theorem zq312 (zn : Bool) (d : Nat) (a1 : Int32) (ha1l : -2147483648 ≤ a1.toInt) (ha1h : a1.toInt ≤ -1) : z_sem zn (d + 2) 168 [.ref 0, .int a1] zh40 (some (.int (Int32.ofInt (-1)))) zh40 := by
  refine ⟨zu_X11_ring, Nat.le_of_ble_eq_true rfl, Nat.le_of_ble_eq_true rfl, [zo, zo, zc (some (.int (Int32.ofInt 0))) zh40, zo, zo], _, _, rfl, ?_, ?_⟩
  · exact ⟨trivial, trivial, ⟨⟨(Nat.le_of_ble_eq_true rfl), (Nat.le_of_ble_eq_true rfl)⟩, zq231 zn (d + 0) a1 ha1l ha1h, (Nat.le_of_ble_eq_true rfl), (Nat.le_of_ble_eq_true rfl), (Nat.le_of_ble_eq_true rfl), (Nat.le_of_ble_eq_true rfl), (Nat.le_of_ble_eq_true rfl)⟩, zbf (by decide +kernel), trivial, trivial⟩
  · exact zfin_i rfl rfl rfl
set_option maxRecDepth 100000 in
set_option maxHeartbeats 4000000 in
theorem zq313 (zn : Bool) (d : Nat) (a1 : Int32) (ha1l : -2147483648 ≤ a1.toInt) (ha1h : a1.toInt ≤ -1) : z_sem zn (d + 2) 272 [.ref 79, .int a1] zh40 (some (.int (Int32.ofInt (-1)))) zh42 := by
  refine ⟨zu_X12_ring, Nat.le_of_ble_eq_true rfl, Nat.le_of_ble_eq_true rfl, [zo, zo, zo, zo, zo, zc (some (.int (Int32.ofInt 0))) zh42, zo, zo], _, _, rfl, ?_, ?_⟩
  · exact ⟨trivial, trivial, ⟨(Nat.le_of_ble_eq_true rfl), rfl, rfl⟩, trivial, trivial, ⟨⟨(Nat.le_of_ble_eq_true rfl), (Nat.le_of_ble_eq_true rfl)⟩, zq234 zn (d + 0) a1 ha1l ha1h, (Nat.le_of_ble_eq_true rfl), (Nat.le_of_ble_eq_true rfl), (Nat.le_of_ble_eq_true rfl), (Nat.le_of_ble_eq_true rfl), (Nat.le_of_ble_eq_true rfl)⟩, zbf (by decide +kernel), trivial, trivial⟩
  · exact zfin_i rfl rfl rfl
set_option maxRecDepth 100000 in
set_option maxHeartbeats 4000000 in
theorem zq314 (zn : Bool) (d : Nat) : z_sem zn (d + 1) 178 [.ref 0] zh40 (some (.int (Int32.ofInt (-1)))) zh40 := by
  refine ⟨zu_X11_still, Nat.le_of_ble_eq_true rfl, Nat.le_of_ble_eq_true rfl, [zo, zo, zo, zo], _, _, rfl, ?_, ?_⟩
  · exact ⟨trivial, (Nat.le_of_ble_eq_true rfl), zbf (by decide +kernel), trivial, trivial⟩
  · exact zfin_i rfl rfl rfl
set_option maxRecDepth 100000 in
set_option maxHeartbeats 4000000 in
theorem zq315 (zn : Bool) (d : Nat) : z_sem zn (d + 2) 282 [.ref 79] zh40 (some (.int (Int32.ofInt (-1)))) zh42 := by
  refine ⟨zu_X12_still, Nat.le_of_ble_eq_true rfl, Nat.le_of_ble_eq_true rfl, [zo, zo, zo, zo, zc (some (.int (Int32.ofInt 0))) zh42, zo, zo], _, _, rfl, ?_, ?_⟩
  · exact ⟨trivial, trivial, ⟨(Nat.le_of_ble_eq_true rfl), rfl, rfl⟩, trivial, ⟨⟨(Nat.le_of_ble_eq_true rfl), (Nat.le_of_ble_eq_true rfl)⟩, zq197 zn (d + 0), (Nat.le_of_ble_eq_true rfl), (Nat.le_of_ble_eq_true rfl), (Nat.le_of_ble_eq_true rfl), (Nat.le_of_ble_eq_true rfl), (Nat.le_of_ble_eq_true rfl)⟩, zbf (by decide +kernel), trivial, trivial⟩
  · exact zfin_i rfl rfl rfl
set_option maxRecDepth 100000 in
set_option maxHeartbeats 4000000 in
theorem zq316 (zn : Bool) (d : Nat) (a1 : Int32) (ha1l : 1 ≤ a1.toInt) (ha1h : a1.toInt ≤ 2147483647) : z_sem zn (d + 2) 136 [.ref 0, .int a1] zh40 (some (.int (Int32.ofInt (-1)))) zh40 := by
  refine ⟨zu_X11_deaths, Nat.le_of_ble_eq_true rfl, Nat.le_of_ble_eq_true rfl, [zo, zo, zc (some (.int (Int32.ofInt 0))) zh40, zt, zo], _, _, rfl, ?_, ?_⟩
  · exact ⟨trivial, trivial, ⟨⟨(Nat.le_of_ble_eq_true rfl), (Nat.le_of_ble_eq_true rfl)⟩, zq219 zn (d + 0) a1 ha1l ha1h, (Nat.le_of_ble_eq_true rfl), (Nat.le_of_ble_eq_true rfl), (Nat.le_of_ble_eq_true rfl), (Nat.le_of_ble_eq_true rfl), (Nat.le_of_ble_eq_true rfl)⟩, zbt (by decide +kernel), trivial, trivial⟩
  · exact zfin_i rfl rfl rfl
set_option maxRecDepth 100000 in
set_option maxHeartbeats 4000000 in
theorem zq317 (zn : Bool) (d : Nat) (a1 : Int32) (ha1l : 1 ≤ a1.toInt) (ha1h : a1.toInt ≤ 2147483647) : z_sem zn (d + 3) 204 [.ref 79, .int a1] zh40 (some (.int (Int32.ofInt (-1)))) zh42 := by
  refine ⟨zu_X12_deaths, Nat.le_of_ble_eq_true rfl, Nat.le_of_ble_eq_true rfl, [zo, zo, zo, zo, zo, zc (some (.int (Int32.ofInt 0))) zh42, zt, zo], _, _, rfl, ?_, ?_⟩
  · exact ⟨trivial, trivial, ⟨(Nat.le_of_ble_eq_true rfl), rfl, rfl⟩, trivial, trivial, ⟨⟨(Nat.le_of_ble_eq_true rfl), (Nat.le_of_ble_eq_true rfl)⟩, zq223 zn (d + 0) a1 ha1l ha1h, (Nat.le_of_ble_eq_true rfl), (Nat.le_of_ble_eq_true rfl), (Nat.le_of_ble_eq_true rfl), (Nat.le_of_ble_eq_true rfl), (Nat.le_of_ble_eq_true rfl)⟩, zbt (by decide +kernel), trivial, trivial⟩
  · exact zfin_i rfl rfl rfl
set_option maxRecDepth 100000 in
set_option maxHeartbeats 4000000 in
theorem zq318 (zn : Bool) (d : Nat) (a1 : Int32) (ha1l : 0 ≤ a1.toInt) (ha1h : a1.toInt ≤ 0) : z_sem zn (d + 2) 136 [.ref 0, .int a1] zh40 (some (.int (Int32.ofInt (-1)))) zh40 := by
  refine ⟨zu_X11_deaths, Nat.le_of_ble_eq_true rfl, Nat.le_of_ble_eq_true rfl, [zo, zo, zc (some (.int (Int32.ofInt 0))) zh40, zt, zo], _, _, rfl, ?_, ?_⟩
  · exact ⟨trivial, trivial, ⟨⟨(Nat.le_of_ble_eq_true rfl), (Nat.le_of_ble_eq_true rfl)⟩, zq225 zn (d + 0) a1 ha1l ha1h, (Nat.le_of_ble_eq_true rfl), (Nat.le_of_ble_eq_true rfl), (Nat.le_of_ble_eq_true rfl), (Nat.le_of_ble_eq_true rfl), (Nat.le_of_ble_eq_true rfl)⟩, zbt (by decide +kernel), trivial, trivial⟩
  · exact zfin_i rfl rfl rfl
set_option maxRecDepth 100000 in
set_option maxHeartbeats 4000000 in
theorem zq319 (zn : Bool) (d : Nat) (a1 : Int32) (ha1l : 0 ≤ a1.toInt) (ha1h : a1.toInt ≤ 0) : z_sem zn (d + 3) 204 [.ref 79, .int a1] zh40 (some (.int (Int32.ofInt (-1)))) zh42 := by
  refine ⟨zu_X12_deaths, Nat.le_of_ble_eq_true rfl, Nat.le_of_ble_eq_true rfl, [zo, zo, zo, zo, zo, zc (some (.int (Int32.ofInt 0))) zh42, zt, zo], _, _, rfl, ?_, ?_⟩
  · exact ⟨trivial, trivial, ⟨(Nat.le_of_ble_eq_true rfl), rfl, rfl⟩, trivial, trivial, ⟨⟨(Nat.le_of_ble_eq_true rfl), (Nat.le_of_ble_eq_true rfl)⟩, zq229 zn (d + 0) a1 ha1l ha1h, (Nat.le_of_ble_eq_true rfl), (Nat.le_of_ble_eq_true rfl), (Nat.le_of_ble_eq_true rfl), (Nat.le_of_ble_eq_true rfl), (Nat.le_of_ble_eq_true rfl)⟩, zbt (by decide +kernel), trivial, trivial⟩
  · exact zfin_i rfl rfl rfl
set_option maxRecDepth 100000 in
set_option maxHeartbeats 4000000 in
theorem zq320 (zn : Bool) (d : Nat) (a1 : Int32) (ha1l : -2147483648 ≤ a1.toInt) (ha1h : a1.toInt ≤ -1) : z_sem zn (d + 2) 136 [.ref 0, .int a1] zh40 (some (.int (Int32.ofInt (-1)))) zh40 := by
  refine ⟨zu_X11_deaths, Nat.le_of_ble_eq_true rfl, Nat.le_of_ble_eq_true rfl, [zo, zo, zc (some (.int (Int32.ofInt 0))) zh40, zt, zo], _, _, rfl, ?_, ?_⟩
  · exact ⟨trivial, trivial, ⟨⟨(Nat.le_of_ble_eq_true rfl), (Nat.le_of_ble_eq_true rfl)⟩, zq231 zn (d + 0) a1 ha1l ha1h, (Nat.le_of_ble_eq_true rfl), (Nat.le_of_ble_eq_true rfl), (Nat.le_of_ble_eq_true rfl), (Nat.le_of_ble_eq_true rfl), (Nat.le_of_ble_eq_true rfl)⟩, zbt (by decide +kernel), trivial, trivial⟩
  · exact zfin_i rfl rfl rfl
set_option maxRecDepth 100000 in
set_option maxHeartbeats 4000000 in
theorem zq321 (zn : Bool) (d : Nat) (a1 : Int32) (ha1l : -2147483648 ≤ a1.toInt) (ha1h : a1.toInt ≤ -1) : z_sem zn (d + 3) 204 [.ref 79, .int a1] zh40 (some (.int (Int32.ofInt (-1)))) zh42 := by
  refine ⟨zu_X12_deaths, Nat.le_of_ble_eq_true rfl, Nat.le_of_ble_eq_true rfl, [zo, zo, zo, zo, zo, zc (some (.int (Int32.ofInt 0))) zh42, zt, zo], _, _, rfl, ?_, ?_⟩
  · exact ⟨trivial, trivial, ⟨(Nat.le_of_ble_eq_true rfl), rfl, rfl⟩, trivial, trivial, ⟨⟨(Nat.le_of_ble_eq_true rfl), (Nat.le_of_ble_eq_true rfl)⟩, zq235 zn (d + 0) a1 ha1l ha1h, (Nat.le_of_ble_eq_true rfl), (Nat.le_of_ble_eq_true rfl), (Nat.le_of_ble_eq_true rfl), (Nat.le_of_ble_eq_true rfl), (Nat.le_of_ble_eq_true rfl)⟩, zbt (by decide +kernel), trivial, trivial⟩
  · exact zfin_i rfl rfl rfl
set_option maxRecDepth 100000 in
set_option maxHeartbeats 4000000 in
theorem zq322 (zn : Bool) (d : Nat) (a1 : Int32) (ha1l : -2147483648 ≤ a1.toInt) (ha1h : a1.toInt ≤ 2147483647) (a2 : Int32) (ha2l : -2147483648 ≤ a2.toInt) (ha2h : a2.toInt ≤ 2147483647) : z_sem zn (d + 1) 147 [.ref 0, .int a1, .int a2] zh40 (some (.int (Int32.ofInt (-1)))) zh40 := by
  refine ⟨zu_X11_hear, Nat.le_of_ble_eq_true rfl, Nat.le_of_ble_eq_true rfl, [zo, zo, zt, zo], _, _, rfl, ?_, ?_⟩
  · exact ⟨trivial, (Nat.le_of_ble_eq_true rfl), zbt (by decide +kernel), trivial, trivial⟩
  · exact zfin_i rfl rfl rfl
set_option maxRecDepth 100000 in
set_option maxHeartbeats 4000000 in
theorem zq323 (zn : Bool) (d : Nat) (a1 : Int32) (ha1l : -2147483648 ≤ a1.toInt) (ha1h : a1.toInt ≤ 2147483647) (a2 : Int32) (ha2l : -2147483648 ≤ a2.toInt) (ha2h : a2.toInt ≤ 2147483647) : z_sem zn (d + 2) 227 [.ref 79, .int a1, .int a2] zh40 (some (.int (Int32.ofInt (-1)))) zh42 := by
  refine ⟨zu_X12_hear, Nat.le_of_ble_eq_true rfl, Nat.le_of_ble_eq_true rfl, [zo, zo, zo, zo, zc (some (.int (Int32.ofInt 0))) zh42, zt, zo], _, _, rfl, ?_, ?_⟩
  · exact ⟨trivial, trivial, ⟨(Nat.le_of_ble_eq_true rfl), rfl, rfl⟩, trivial, ⟨⟨(Nat.le_of_ble_eq_true rfl), (Nat.le_of_ble_eq_true rfl)⟩, zq197 zn (d + 0), (Nat.le_of_ble_eq_true rfl), (Nat.le_of_ble_eq_true rfl), (Nat.le_of_ble_eq_true rfl), (Nat.le_of_ble_eq_true rfl), (Nat.le_of_ble_eq_true rfl)⟩, zbt (by decide +kernel), trivial, trivial⟩
  · exact zfin_i rfl rfl rfl
set_option maxRecDepth 100000 in
set_option maxHeartbeats 4000000 in
theorem zq324 (zn : Bool) (d : Nat) (a1 : Int32) (ha1l : 1 ≤ a1.toInt) (ha1h : a1.toInt ≤ 2147483647) (a2 : Int32) (ha2l : -2147483648 ≤ a2.toInt) (ha2h : a2.toInt ≤ 2147483647) (a3 : Int32) (ha3l : -2147483648 ≤ a3.toInt) (ha3h : a3.toInt ≤ 2147483647) : z_sem zn (d + 2) 181 [.ref 0, .int a1, .int a2, .int a3] zh40 (some (.int (Int32.ofInt (-1)))) zh40 := by
  refine ⟨zu_X11_thief, Nat.le_of_ble_eq_true rfl, Nat.le_of_ble_eq_true rfl, [zo, zo, zc (some (.int (Int32.ofInt 0))) zh40, zt, zo], _, _, rfl, ?_, ?_⟩
  · exact ⟨trivial, trivial, ⟨⟨(Nat.le_of_ble_eq_true rfl), (Nat.le_of_ble_eq_true rfl)⟩, zq141 zn (d + 0) a1 ha1l ha1h, (Nat.le_of_ble_eq_true rfl), (Nat.le_of_ble_eq_true rfl), (Nat.le_of_ble_eq_true rfl), (Nat.le_of_ble_eq_true rfl), (Nat.le_of_ble_eq_true rfl)⟩, zbt (by decide +kernel), trivial, trivial⟩
  · exact zfin_i rfl rfl rfl
set_option maxRecDepth 100000 in
set_option maxHeartbeats 4000000 in
theorem zq325 (zn : Bool) (d : Nat) (a1 : Int32) (ha1l : 1 ≤ a1.toInt) (ha1h : a1.toInt ≤ 2147483647) (a2 : Int32) (ha2l : -2147483648 ≤ a2.toInt) (ha2h : a2.toInt ≤ 2147483647) (a3 : Int32) (ha3l : -2147483648 ≤ a3.toInt) (ha3h : a3.toInt ≤ 2147483647) : z_sem zn (d + 2) 289 [.ref 79, .int a1, .int a2, .int a3] zh40 (some (.int (Int32.ofInt (-1)))) zh42 := by
  refine ⟨zu_X12_thief, Nat.le_of_ble_eq_true rfl, Nat.le_of_ble_eq_true rfl, [zo, zo, zo, zo, zo, zc (some (.int (Int32.ofInt 0))) zh42, zt, zo], _, _, rfl, ?_, ?_⟩
  · exact ⟨trivial, trivial, ⟨(Nat.le_of_ble_eq_true rfl), rfl, rfl⟩, trivial, trivial, ⟨⟨(Nat.le_of_ble_eq_true rfl), (Nat.le_of_ble_eq_true rfl)⟩, zq143 zn (d + 0) a1 ha1l ha1h, (Nat.le_of_ble_eq_true rfl), (Nat.le_of_ble_eq_true rfl), (Nat.le_of_ble_eq_true rfl), (Nat.le_of_ble_eq_true rfl), (Nat.le_of_ble_eq_true rfl)⟩, zbt (by decide +kernel), trivial, trivial⟩
  · exact zfin_i rfl rfl rfl
set_option maxRecDepth 100000 in
set_option maxHeartbeats 4000000 in
theorem zq326 (zn : Bool) (d : Nat) (a1 : Int32) (ha1l : 0 ≤ a1.toInt) (ha1h : a1.toInt ≤ 0) (a2 : Int32) (ha2l : -2147483648 ≤ a2.toInt) (ha2h : a2.toInt ≤ 2147483647) (a3 : Int32) (ha3l : -2147483648 ≤ a3.toInt) (ha3h : a3.toInt ≤ 2147483647) : z_sem zn (d + 2) 181 [.ref 0, .int a1, .int a2, .int a3] zh40 (some (.int (Int32.ofInt (-1)))) zh40 := by
  refine ⟨zu_X11_thief, Nat.le_of_ble_eq_true rfl, Nat.le_of_ble_eq_true rfl, [zo, zo, zc (some (.int (Int32.ofInt 0))) zh40, zt, zo], _, _, rfl, ?_, ?_⟩
  · exact ⟨trivial, trivial, ⟨⟨(Nat.le_of_ble_eq_true rfl), (Nat.le_of_ble_eq_true rfl)⟩, zq145 zn (d + 0) a1 ha1l ha1h, (Nat.le_of_ble_eq_true rfl), (Nat.le_of_ble_eq_true rfl), (Nat.le_of_ble_eq_true rfl), (Nat.le_of_ble_eq_true rfl), (Nat.le_of_ble_eq_true rfl)⟩, zbt (by decide +kernel), trivial, trivial⟩
  · exact zfin_i rfl rfl rfl
set_option maxRecDepth 100000 in
set_option maxHeartbeats 4000000 in
theorem zq327 (zn : Bool) (d : Nat) (a1 : Int32) (ha1l : 0 ≤ a1.toInt) (ha1h : a1.toInt ≤ 0) (a2 : Int32) (ha2l : -2147483648 ≤ a2.toInt) (ha2h : a2.toInt ≤ 2147483647) (a3 : Int32) (ha3l : -2147483648 ≤ a3.toInt) (ha3h : a3.toInt ≤ 2147483647) : z_sem zn (d + 2) 289 [.ref 79, .int a1, .int a2, .int a3] zh40 (some (.int (Int32.ofInt (-1)))) zh42 := by
  refine ⟨zu_X12_thief, Nat.le_of_ble_eq_true rfl, Nat.le_of_ble_eq_true rfl, [zo, zo, zo, zo, zo, zc (some (.int (Int32.ofInt 0))) zh42, zt, zo], _, _, rfl, ?_, ?_⟩
  · exact ⟨trivial, trivial, ⟨(Nat.le_of_ble_eq_true rfl), rfl, rfl⟩, trivial, trivial, ⟨⟨(Nat.le_of_ble_eq_true rfl), (Nat.le_of_ble_eq_true rfl)⟩, zq147 zn (d + 0) a1 ha1l ha1h, (Nat.le_of_ble_eq_true rfl), (Nat.le_of_ble_eq_true rfl), (Nat.le_of_ble_eq_true rfl), (Nat.le_of_ble_eq_true rfl), (Nat.le_of_ble_eq_true rfl)⟩, zbt (by decide +kernel), trivial, trivial⟩
  · exact zfin_i rfl rfl rfl
set_option maxRecDepth 100000 in
set_option maxHeartbeats 4000000 in
theorem zq328 (zn : Bool) (d : Nat) (a1 : Int32) (ha1l : -2147483648 ≤ a1.toInt) (ha1h : a1.toInt ≤ -1) (a2 : Int32) (ha2l : -2147483648 ≤ a2.toInt) (ha2h : a2.toInt ≤ 2147483647) (a3 : Int32) (ha3l : -2147483648 ≤ a3.toInt) (ha3h : a3.toInt ≤ 2147483647) : z_sem zn (d + 2) 181 [.ref 0, .int a1, .int a2, .int a3] zh40 (some (.int (Int32.ofInt (-1)))) zh40 := by
  refine ⟨zu_X11_thief, Nat.le_of_ble_eq_true rfl, Nat.le_of_ble_eq_true rfl, [zo, zo, zc (some (.int (Int32.ofInt 0))) zh40, zt, zo], _, _, rfl, ?_, ?_⟩
  · exact ⟨trivial, trivial, ⟨⟨(Nat.le_of_ble_eq_true rfl), (Nat.le_of_ble_eq_true rfl)⟩, zq149 zn (d + 0) a1 ha1l ha1h, (Nat.le_of_ble_eq_true rfl), (Nat.le_of_ble_eq_true rfl), (Nat.le_of_ble_eq_true rfl), (Nat.le_of_ble_eq_true rfl), (Nat.le_of_ble_eq_true rfl)⟩, zbt (by decide +kernel), trivial, trivial⟩
  · exact zfin_i rfl rfl rfl
set_option maxRecDepth 100000 in
set_option maxHeartbeats 4000000 in
theorem zq329 (zn : Bool) (d : Nat) (a1 : Int32) (ha1l : -2147483648 ≤ a1.toInt) (ha1h : a1.toInt ≤ -1) (a2 : Int32) (ha2l : -2147483648 ≤ a2.toInt) (ha2h : a2.toInt ≤ 2147483647) (a3 : Int32) (ha3l : -2147483648 ≤ a3.toInt) (ha3h : a3.toInt ≤ 2147483647) : z_sem zn (d + 2) 289 [.ref 79, .int a1, .int a2, .int a3] zh40 (some (.int (Int32.ofInt (-1)))) zh42 := by
  refine ⟨zu_X12_thief, Nat.le_of_ble_eq_true rfl, Nat.le_of_ble_eq_true rfl, [zo, zo, zo, zo, zo, zc (some (.int (Int32.ofInt 0))) zh42, zt, zo], _, _, rfl, ?_, ?_⟩
  · exact ⟨trivial, trivial, ⟨(Nat.le_of_ble_eq_true rfl), rfl, rfl⟩, trivial, trivial, ⟨⟨(Nat.le_of_ble_eq_true rfl), (Nat.le_of_ble_eq_true rfl)⟩, zq151 zn (d + 0) a1 ha1l ha1h, (Nat.le_of_ble_eq_true rfl), (Nat.le_of_ble_eq_true rfl), (Nat.le_of_ble_eq_true rfl), (Nat.le_of_ble_eq_true rfl), (Nat.le_of_ble_eq_true rfl)⟩, zbt (by decide +kernel), trivial, trivial⟩
  · exact zfin_i rfl rfl rfl
set_option maxRecDepth 100000 in
set_option maxHeartbeats 4000000 in
theorem zq330 (zn : Bool) (d : Nat) (a1 : Int32) (ha1l : 1 ≤ a1.toInt) (ha1h : a1.toInt ≤ 2147483647) (a2 : Int32) (ha2l : -2147483648 ≤ a2.toInt) (ha2h : a2.toInt ≤ 2147483647) (a3 : Int32) (ha3l : -2147483648 ≤ a3.toInt) (ha3h : a3.toInt ≤ 2147483647) (a4 : Int32) (ha4l : -2147483648 ≤ a4.toInt) (ha4h : a4.toInt ≤ 2147483647) (a5 : Int32) (ha5l : -2147483648 ≤ a5.toInt) (ha5h : a5.toInt ≤ 2147483647) : z_sem zn (d + 3) 161 [.ref 0, .int a1, .int a2, .int a3, .int a4, .int a5] zh40 (some (.int (Int32.ofInt (-1)))) zh40 := by
  refine ⟨zu_X11_lures, Nat.le_of_ble_eq_true rfl, Nat.le_of_ble_eq_true rfl, [zo, zo, zc (some (.int (Int32.ofInt 0))) zh40, zt, zo], _, _, rfl, ?_, ?_⟩
  · exact ⟨trivial, trivial, ⟨⟨(Nat.le_of_ble_eq_true rfl), (Nat.le_of_ble_eq_true rfl)⟩, zq220 zn (d + 0) a1 ha1l ha1h, (Nat.le_of_ble_eq_true rfl), (Nat.le_of_ble_eq_true rfl), (Nat.le_of_ble_eq_true rfl), (Nat.le_of_ble_eq_true rfl), (Nat.le_of_ble_eq_true rfl)⟩, zbt (by decide +kernel), trivial, trivial⟩
  · exact zfin_i rfl rfl rfl
set_option maxRecDepth 100000 in
set_option maxHeartbeats 4000000 in
theorem zq331 (zn : Bool) (d : Nat) (a1 : Int32) (ha1l : 1 ≤ a1.toInt) (ha1h : a1.toInt ≤ 2147483647) (a2 : Int32) (ha2l : -2147483648 ≤ a2.toInt) (ha2h : a2.toInt ≤ 2147483647) (a3 : Int32) (ha3l : -2147483648 ≤ a3.toInt) (ha3h : a3.toInt ≤ 2147483647) (a4 : Int32) (ha4l : -2147483648 ≤ a4.toInt) (ha4h : a4.toInt ≤ 2147483647) (a5 : Int32) (ha5l : -2147483648 ≤ a5.toInt) (ha5h : a5.toInt ≤ 2147483647) : z_sem zn (d + 3) 256 [.ref 79, .int a1, .int a2, .int a3, .int a4, .int a5] zh40 (some (.int (Int32.ofInt (-1)))) zh42 := by
  refine ⟨zu_X12_lures, Nat.le_of_ble_eq_true rfl, Nat.le_of_ble_eq_true rfl, [zo, zo, zo, zo, zo, zc (some (.int (Int32.ofInt 0))) zh42, zt, zo], _, _, rfl, ?_, ?_⟩
  · exact ⟨trivial, trivial, ⟨(Nat.le_of_ble_eq_true rfl), rfl, rfl⟩, trivial, trivial, ⟨⟨(Nat.le_of_ble_eq_true rfl), (Nat.le_of_ble_eq_true rfl)⟩, zq223 zn (d + 0) a1 ha1l ha1h, (Nat.le_of_ble_eq_true rfl), (Nat.le_of_ble_eq_true rfl), (Nat.le_of_ble_eq_true rfl), (Nat.le_of_ble_eq_true rfl), (Nat.le_of_ble_eq_true rfl)⟩, zbt (by decide +kernel), trivial, trivial⟩
  · exact zfin_i rfl rfl rfl
set_option maxRecDepth 100000 in
set_option maxHeartbeats 4000000 in
theorem zq332 (zn : Bool) (d : Nat) (a1 : Int32) (ha1l : 0 ≤ a1.toInt) (ha1h : a1.toInt ≤ 0) (a2 : Int32) (ha2l : -2147483648 ≤ a2.toInt) (ha2h : a2.toInt ≤ 2147483647) (a3 : Int32) (ha3l : -2147483648 ≤ a3.toInt) (ha3h : a3.toInt ≤ 2147483647) (a4 : Int32) (ha4l : -2147483648 ≤ a4.toInt) (ha4h : a4.toInt ≤ 2147483647) (a5 : Int32) (ha5l : -2147483648 ≤ a5.toInt) (ha5h : a5.toInt ≤ 2147483647) : z_sem zn (d + 3) 161 [.ref 0, .int a1, .int a2, .int a3, .int a4, .int a5] zh40 (some (.int (Int32.ofInt (-1)))) zh40 := by
  refine ⟨zu_X11_lures, Nat.le_of_ble_eq_true rfl, Nat.le_of_ble_eq_true rfl, [zo, zo, zc (some (.int (Int32.ofInt 0))) zh40, zt, zo], _, _, rfl, ?_, ?_⟩
  · exact ⟨trivial, trivial, ⟨⟨(Nat.le_of_ble_eq_true rfl), (Nat.le_of_ble_eq_true rfl)⟩, zq226 zn (d + 0) a1 ha1l ha1h, (Nat.le_of_ble_eq_true rfl), (Nat.le_of_ble_eq_true rfl), (Nat.le_of_ble_eq_true rfl), (Nat.le_of_ble_eq_true rfl), (Nat.le_of_ble_eq_true rfl)⟩, zbt (by decide +kernel), trivial, trivial⟩
  · exact zfin_i rfl rfl rfl
set_option maxRecDepth 100000 in
set_option maxHeartbeats 4000000 in
theorem zq333 (zn : Bool) (d : Nat) (a1 : Int32) (ha1l : 0 ≤ a1.toInt) (ha1h : a1.toInt ≤ 0) (a2 : Int32) (ha2l : -2147483648 ≤ a2.toInt) (ha2h : a2.toInt ≤ 2147483647) (a3 : Int32) (ha3l : -2147483648 ≤ a3.toInt) (ha3h : a3.toInt ≤ 2147483647) (a4 : Int32) (ha4l : -2147483648 ≤ a4.toInt) (ha4h : a4.toInt ≤ 2147483647) (a5 : Int32) (ha5l : -2147483648 ≤ a5.toInt) (ha5h : a5.toInt ≤ 2147483647) : z_sem zn (d + 3) 256 [.ref 79, .int a1, .int a2, .int a3, .int a4, .int a5] zh40 (some (.int (Int32.ofInt (-1)))) zh42 := by
  refine ⟨zu_X12_lures, Nat.le_of_ble_eq_true rfl, Nat.le_of_ble_eq_true rfl, [zo, zo, zo, zo, zo, zc (some (.int (Int32.ofInt 0))) zh42, zt, zo], _, _, rfl, ?_, ?_⟩
  · exact ⟨trivial, trivial, ⟨(Nat.le_of_ble_eq_true rfl), rfl, rfl⟩, trivial, trivial, ⟨⟨(Nat.le_of_ble_eq_true rfl), (Nat.le_of_ble_eq_true rfl)⟩, zq229 zn (d + 0) a1 ha1l ha1h, (Nat.le_of_ble_eq_true rfl), (Nat.le_of_ble_eq_true rfl), (Nat.le_of_ble_eq_true rfl), (Nat.le_of_ble_eq_true rfl), (Nat.le_of_ble_eq_true rfl)⟩, zbt (by decide +kernel), trivial, trivial⟩
  · exact zfin_i rfl rfl rfl
set_option maxRecDepth 100000 in
set_option maxHeartbeats 4000000 in
theorem zq334 (zn : Bool) (d : Nat) (a1 : Int32) (ha1l : -2147483648 ≤ a1.toInt) (ha1h : a1.toInt ≤ -1) (a2 : Int32) (ha2l : -2147483648 ≤ a2.toInt) (ha2h : a2.toInt ≤ 2147483647) (a3 : Int32) (ha3l : -2147483648 ≤ a3.toInt) (ha3h : a3.toInt ≤ 2147483647) (a4 : Int32) (ha4l : -2147483648 ≤ a4.toInt) (ha4h : a4.toInt ≤ 2147483647) (a5 : Int32) (ha5l : -2147483648 ≤ a5.toInt) (ha5h : a5.toInt ≤ 2147483647) : z_sem zn (d + 3) 161 [.ref 0, .int a1, .int a2, .int a3, .int a4, .int a5] zh40 (some (.int (Int32.ofInt (-1)))) zh40 := by
  refine ⟨zu_X11_lures, Nat.le_of_ble_eq_true rfl, Nat.le_of_ble_eq_true rfl, [zo, zo, zc (some (.int (Int32.ofInt 0))) zh40, zt, zo], _, _, rfl, ?_, ?_⟩
  · exact ⟨trivial, trivial, ⟨⟨(Nat.le_of_ble_eq_true rfl), (Nat.le_of_ble_eq_true rfl)⟩, zq232 zn (d + 0) a1 ha1l ha1h, (Nat.le_of_ble_eq_true rfl), (Nat.le_of_ble_eq_true rfl), (Nat.le_of_ble_eq_true rfl), (Nat.le_of_ble_eq_true rfl), (Nat.le_of_ble_eq_true rfl)⟩, zbt (by decide +kernel), trivial, trivial⟩
  · exact zfin_i rfl rfl rfl
set_option maxRecDepth 100000 in
set_option maxHeartbeats 4000000 in
theorem zq335 (zn : Bool) (d : Nat) (a1 : Int32) (ha1l : -2147483648 ≤ a1.toInt) (ha1h : a1.toInt ≤ -1) (a2 : Int32) (ha2l : -2147483648 ≤ a2.toInt) (ha2h : a2.toInt ≤ 2147483647) (a3 : Int32) (ha3l : -2147483648 ≤ a3.toInt) (ha3h : a3.toInt ≤ 2147483647) (a4 : Int32) (ha4l : -2147483648 ≤ a4.toInt) (ha4h : a4.toInt ≤ 2147483647) (a5 : Int32) (ha5l : -2147483648 ≤ a5.toInt) (ha5h : a5.toInt ≤ 2147483647) : z_sem zn (d + 3) 256 [.ref 79, .int a1, .int a2, .int a3, .int a4, .int a5] zh40 (some (.int (Int32.ofInt (-1)))) zh42 := by
  refine ⟨zu_X12_lures, Nat.le_of_ble_eq_true rfl, Nat.le_of_ble_eq_true rfl, [zo, zo, zo, zo, zo, zc (some (.int (Int32.ofInt 0))) zh42, zt, zo], _, _, rfl, ?_, ?_⟩
  · exact ⟨trivial, trivial, ⟨(Nat.le_of_ble_eq_true rfl), rfl, rfl⟩, trivial, trivial, ⟨⟨(Nat.le_of_ble_eq_true rfl), (Nat.le_of_ble_eq_true rfl)⟩, zq235 zn (d + 0) a1 ha1l ha1h, (Nat.le_of_ble_eq_true rfl), (Nat.le_of_ble_eq_true rfl), (Nat.le_of_ble_eq_true rfl), (Nat.le_of_ble_eq_true rfl), (Nat.le_of_ble_eq_true rfl)⟩, zbt (by decide +kernel), trivial, trivial⟩
  · exact zfin_i rfl rfl rfl
set_option maxRecDepth 100000 in
set_option maxHeartbeats 4000000 in
theorem zq336 (zn : Bool) (d : Nat) (a1 : Int32) (ha1l : 1 ≤ a1.toInt) (ha1h : a1.toInt ≤ 2147483647) : z_sem zn (d + 2) 155 [.ref 0, .int a1] zh40 (some (.int ((-1000000)))) zh40 := by
  refine ⟨zu_X11_later, Nat.le_of_ble_eq_true rfl, Nat.le_of_ble_eq_true rfl, [zo, zo, zc (some (.int (Int32.ofInt 0))) zh40, zt, zo], _, _, rfl, ?_, ?_⟩
  · exact ⟨trivial, trivial, ⟨⟨(Nat.le_of_ble_eq_true rfl), (Nat.le_of_ble_eq_true rfl)⟩, zq141 zn (d + 0) a1 ha1l ha1h, (Nat.le_of_ble_eq_true rfl), (Nat.le_of_ble_eq_true rfl), (Nat.le_of_ble_eq_true rfl), (Nat.le_of_ble_eq_true rfl), (Nat.le_of_ble_eq_true rfl)⟩, zbt (by decide +kernel), trivial, trivial⟩
  · exact zfin_i rfl rfl rfl
set_option maxRecDepth 100000 in
set_option maxHeartbeats 4000000 in
theorem zq337 (zn : Bool) (d : Nat) (a1 : Int32) (ha1l : 1 ≤ a1.toInt) (ha1h : a1.toInt ≤ 2147483647) : z_sem zn (d + 2) 247 [.ref 79, .int a1] zh40 (some (.int ((-1000000)))) zh42 := by
  refine ⟨zu_X12_later, Nat.le_of_ble_eq_true rfl, Nat.le_of_ble_eq_true rfl, [zo, zo, zo, zo, zo, zc (some (.int (Int32.ofInt 0))) zh42, zo, zo], _, _, rfl, ?_, ?_⟩
  · exact ⟨trivial, trivial, ⟨(Nat.le_of_ble_eq_true rfl), rfl, rfl⟩, trivial, trivial, ⟨⟨(Nat.le_of_ble_eq_true rfl), (Nat.le_of_ble_eq_true rfl)⟩, zq143 zn (d + 0) a1 ha1l ha1h, (Nat.le_of_ble_eq_true rfl), (Nat.le_of_ble_eq_true rfl), (Nat.le_of_ble_eq_true rfl), (Nat.le_of_ble_eq_true rfl), (Nat.le_of_ble_eq_true rfl)⟩, zbf (by decide +kernel), trivial, trivial⟩
  · exact zfin_i rfl rfl rfl
set_option maxRecDepth 100000 in
set_option maxHeartbeats 4000000 in
theorem zq338 (zn : Bool) (d : Nat) (a1 : Int32) (ha1l : 0 ≤ a1.toInt) (ha1h : a1.toInt ≤ 0) : z_sem zn (d + 2) 155 [.ref 0, .int a1] zh40 (some (.int ((-1000000)))) zh40 := by
  refine ⟨zu_X11_later, Nat.le_of_ble_eq_true rfl, Nat.le_of_ble_eq_true rfl, [zo, zo, zc (some (.int (Int32.ofInt 0))) zh40, zt, zo], _, _, rfl, ?_, ?_⟩
  · exact ⟨trivial, trivial, ⟨⟨(Nat.le_of_ble_eq_true rfl), (Nat.le_of_ble_eq_true rfl)⟩, zq145 zn (d + 0) a1 ha1l ha1h, (Nat.le_of_ble_eq_true rfl), (Nat.le_of_ble_eq_true rfl), (Nat.le_of_ble_eq_true rfl), (Nat.le_of_ble_eq_true rfl), (Nat.le_of_ble_eq_true rfl)⟩, zbt (by decide +kernel), trivial, trivial⟩
  · exact zfin_i rfl rfl rfl
set_option maxRecDepth 100000 in
set_option maxHeartbeats 4000000 in
theorem zq339 (zn : Bool) (d : Nat) (a1 : Int32) (ha1l : 0 ≤ a1.toInt) (ha1h : a1.toInt ≤ 0) : z_sem zn (d + 2) 247 [.ref 79, .int a1] zh40 (some (.int ((-1000000)))) zh42 := by
  refine ⟨zu_X12_later, Nat.le_of_ble_eq_true rfl, Nat.le_of_ble_eq_true rfl, [zo, zo, zo, zo, zo, zc (some (.int (Int32.ofInt 0))) zh42, zo, zo], _, _, rfl, ?_, ?_⟩
  · exact ⟨trivial, trivial, ⟨(Nat.le_of_ble_eq_true rfl), rfl, rfl⟩, trivial, trivial, ⟨⟨(Nat.le_of_ble_eq_true rfl), (Nat.le_of_ble_eq_true rfl)⟩, zq147 zn (d + 0) a1 ha1l ha1h, (Nat.le_of_ble_eq_true rfl), (Nat.le_of_ble_eq_true rfl), (Nat.le_of_ble_eq_true rfl), (Nat.le_of_ble_eq_true rfl), (Nat.le_of_ble_eq_true rfl)⟩, zbf (by decide +kernel), trivial, trivial⟩
  · exact zfin_i rfl rfl rfl
set_option maxRecDepth 100000 in
set_option maxHeartbeats 4000000 in
theorem zq340 (zn : Bool) (d : Nat) (a1 : Int32) (ha1l : -2147483648 ≤ a1.toInt) (ha1h : a1.toInt ≤ -1) : z_sem zn (d + 2) 155 [.ref 0, .int a1] zh40 (some (.int ((-1000000)))) zh40 := by
  refine ⟨zu_X11_later, Nat.le_of_ble_eq_true rfl, Nat.le_of_ble_eq_true rfl, [zo, zo, zc (some (.int (Int32.ofInt 0))) zh40, zt, zo], _, _, rfl, ?_, ?_⟩
  · exact ⟨trivial, trivial, ⟨⟨(Nat.le_of_ble_eq_true rfl), (Nat.le_of_ble_eq_true rfl)⟩, zq149 zn (d + 0) a1 ha1l ha1h, (Nat.le_of_ble_eq_true rfl), (Nat.le_of_ble_eq_true rfl), (Nat.le_of_ble_eq_true rfl), (Nat.le_of_ble_eq_true rfl), (Nat.le_of_ble_eq_true rfl)⟩, zbt (by decide +kernel), trivial, trivial⟩
  · exact zfin_i rfl rfl rfl
set_option maxRecDepth 100000 in
set_option maxHeartbeats 4000000 in
theorem zq341 (zn : Bool) (d : Nat) (a1 : Int32) (ha1l : -2147483648 ≤ a1.toInt) (ha1h : a1.toInt ≤ -1) : z_sem zn (d + 2) 247 [.ref 79, .int a1] zh40 (some (.int ((-1000000)))) zh42 := by
  refine ⟨zu_X12_later, Nat.le_of_ble_eq_true rfl, Nat.le_of_ble_eq_true rfl, [zo, zo, zo, zo, zo, zc (some (.int (Int32.ofInt 0))) zh42, zo, zo], _, _, rfl, ?_, ?_⟩
  · exact ⟨trivial, trivial, ⟨(Nat.le_of_ble_eq_true rfl), rfl, rfl⟩, trivial, trivial, ⟨⟨(Nat.le_of_ble_eq_true rfl), (Nat.le_of_ble_eq_true rfl)⟩, zq151 zn (d + 0) a1 ha1l ha1h, (Nat.le_of_ble_eq_true rfl), (Nat.le_of_ble_eq_true rfl), (Nat.le_of_ble_eq_true rfl), (Nat.le_of_ble_eq_true rfl), (Nat.le_of_ble_eq_true rfl)⟩, zbf (by decide +kernel), trivial, trivial⟩
  · exact zfin_i rfl rfl rfl
set_option maxRecDepth 100000 in
set_option maxHeartbeats 4000000 in
theorem zq342 (zn : Bool) (d : Nat) (a1 : Int32) (ha1l : -2147483648 ≤ a1.toInt) (ha1h : a1.toInt ≤ 2147483647) (a2 : Int32) (ha2l : -2147483648 ≤ a2.toInt) (ha2h : a2.toInt ≤ 2147483647) : z_sem zn (d + 1) 175 [.ref 0, .int a1, .int a2] zh40 (some (.int (Int32.ofInt (-1)))) zh40 := by
  refine ⟨zu_X11_spared, Nat.le_of_ble_eq_true rfl, Nat.le_of_ble_eq_true rfl, [zo, zo, zt, zo], _, _, rfl, ?_, ?_⟩
  · exact ⟨trivial, (Nat.le_of_ble_eq_true rfl), zbt (by decide +kernel), trivial, trivial⟩
  · exact zfin_i rfl rfl rfl
set_option maxRecDepth 100000 in
set_option maxHeartbeats 4000000 in
theorem zq343 (zn : Bool) (d : Nat) (a1 : Int32) (ha1l : -2147483648 ≤ a1.toInt) (ha1h : a1.toInt ≤ 2147483647) (a2 : Int32) (ha2l : -2147483648 ≤ a2.toInt) (ha2h : a2.toInt ≤ 2147483647) : z_sem zn (d + 2) 279 [.ref 79, .int a1, .int a2] zh40 (some (.int (Int32.ofInt (-1)))) zh42 := by
  refine ⟨zu_X12_spared, Nat.le_of_ble_eq_true rfl, Nat.le_of_ble_eq_true rfl, [zo, zo, zo, zo, zc (some (.int (Int32.ofInt 0))) zh42, zt, zo], _, _, rfl, ?_, ?_⟩
  · exact ⟨trivial, trivial, ⟨(Nat.le_of_ble_eq_true rfl), rfl, rfl⟩, trivial, ⟨⟨(Nat.le_of_ble_eq_true rfl), (Nat.le_of_ble_eq_true rfl)⟩, zq197 zn (d + 0), (Nat.le_of_ble_eq_true rfl), (Nat.le_of_ble_eq_true rfl), (Nat.le_of_ble_eq_true rfl), (Nat.le_of_ble_eq_true rfl), (Nat.le_of_ble_eq_true rfl)⟩, zbt (by decide +kernel), trivial, trivial⟩
  · exact zfin_i rfl rfl rfl
set_option maxRecDepth 100000 in
set_option maxHeartbeats 4000000 in
theorem zq344 (zn : Bool) (d : Nat) (a1 : Int32) (ha1l : 1 ≤ a1.toInt) (ha1h : a1.toInt ≤ 2147483647) (a2 : Int32) (ha2l : -2147483648 ≤ a2.toInt) (ha2h : a2.toInt ≤ 2147483647) : z_sem zn (d + 2) 170 [.ref 0, .int a1, .int a2] zh40 (some (.int (Int32.ofInt (-1)))) zh40 := by
  refine ⟨zu_X11_seen, Nat.le_of_ble_eq_true rfl, Nat.le_of_ble_eq_true rfl, [zo, zo, zc (some (.int (Int32.ofInt 0))) zh40, zt, zo], _, _, rfl, ?_, ?_⟩
  · exact ⟨trivial, trivial, ⟨⟨(Nat.le_of_ble_eq_true rfl), (Nat.le_of_ble_eq_true rfl)⟩, zq141 zn (d + 0) a1 ha1l ha1h, (Nat.le_of_ble_eq_true rfl), (Nat.le_of_ble_eq_true rfl), (Nat.le_of_ble_eq_true rfl), (Nat.le_of_ble_eq_true rfl), (Nat.le_of_ble_eq_true rfl)⟩, zbt (by decide +kernel), trivial, trivial⟩
  · exact zfin_i rfl rfl rfl
set_option maxRecDepth 100000 in
set_option maxHeartbeats 4000000 in
theorem zq345 (zn : Bool) (d : Nat) (a1 : Int32) (ha1l : 1 ≤ a1.toInt) (ha1h : a1.toInt ≤ 2147483647) (a2 : Int32) (ha2l : -2147483648 ≤ a2.toInt) (ha2h : a2.toInt ≤ 2147483647) : z_sem zn (d + 2) 274 [.ref 79, .int a1, .int a2] zh40 (some (.int (Int32.ofInt (-1)))) zh42 := by
  refine ⟨zu_X12_seen, Nat.le_of_ble_eq_true rfl, Nat.le_of_ble_eq_true rfl, [zo, zo, zo, zo, zo, zc (some (.int (Int32.ofInt 0))) zh42, zt, zo], _, _, rfl, ?_, ?_⟩
  · exact ⟨trivial, trivial, ⟨(Nat.le_of_ble_eq_true rfl), rfl, rfl⟩, trivial, trivial, ⟨⟨(Nat.le_of_ble_eq_true rfl), (Nat.le_of_ble_eq_true rfl)⟩, zq143 zn (d + 0) a1 ha1l ha1h, (Nat.le_of_ble_eq_true rfl), (Nat.le_of_ble_eq_true rfl), (Nat.le_of_ble_eq_true rfl), (Nat.le_of_ble_eq_true rfl), (Nat.le_of_ble_eq_true rfl)⟩, zbt (by decide +kernel), trivial, trivial⟩
  · exact zfin_i rfl rfl rfl
set_option maxRecDepth 100000 in
set_option maxHeartbeats 4000000 in
theorem zq346 (zn : Bool) (d : Nat) (a1 : Int32) (ha1l : 0 ≤ a1.toInt) (ha1h : a1.toInt ≤ 0) (a2 : Int32) (ha2l : -2147483648 ≤ a2.toInt) (ha2h : a2.toInt ≤ 2147483647) : z_sem zn (d + 2) 170 [.ref 0, .int a1, .int a2] zh40 (some (.int (Int32.ofInt (-1)))) zh40 := by
  refine ⟨zu_X11_seen, Nat.le_of_ble_eq_true rfl, Nat.le_of_ble_eq_true rfl, [zo, zo, zc (some (.int (Int32.ofInt 0))) zh40, zt, zo], _, _, rfl, ?_, ?_⟩
  · exact ⟨trivial, trivial, ⟨⟨(Nat.le_of_ble_eq_true rfl), (Nat.le_of_ble_eq_true rfl)⟩, zq145 zn (d + 0) a1 ha1l ha1h, (Nat.le_of_ble_eq_true rfl), (Nat.le_of_ble_eq_true rfl), (Nat.le_of_ble_eq_true rfl), (Nat.le_of_ble_eq_true rfl), (Nat.le_of_ble_eq_true rfl)⟩, zbt (by decide +kernel), trivial, trivial⟩
  · exact zfin_i rfl rfl rfl
set_option maxRecDepth 100000 in
set_option maxHeartbeats 4000000 in
theorem zq347 (zn : Bool) (d : Nat) (a1 : Int32) (ha1l : 0 ≤ a1.toInt) (ha1h : a1.toInt ≤ 0) (a2 : Int32) (ha2l : -2147483648 ≤ a2.toInt) (ha2h : a2.toInt ≤ 2147483647) : z_sem zn (d + 2) 274 [.ref 79, .int a1, .int a2] zh40 (some (.int (Int32.ofInt (-1)))) zh42 := by
  refine ⟨zu_X12_seen, Nat.le_of_ble_eq_true rfl, Nat.le_of_ble_eq_true rfl, [zo, zo, zo, zo, zo, zc (some (.int (Int32.ofInt 0))) zh42, zt, zo], _, _, rfl, ?_, ?_⟩
  · exact ⟨trivial, trivial, ⟨(Nat.le_of_ble_eq_true rfl), rfl, rfl⟩, trivial, trivial, ⟨⟨(Nat.le_of_ble_eq_true rfl), (Nat.le_of_ble_eq_true rfl)⟩, zq147 zn (d + 0) a1 ha1l ha1h, (Nat.le_of_ble_eq_true rfl), (Nat.le_of_ble_eq_true rfl), (Nat.le_of_ble_eq_true rfl), (Nat.le_of_ble_eq_true rfl), (Nat.le_of_ble_eq_true rfl)⟩, zbt (by decide +kernel), trivial, trivial⟩
  · exact zfin_i rfl rfl rfl
set_option maxRecDepth 100000 in
set_option maxHeartbeats 4000000 in
theorem zq348 (zn : Bool) (d : Nat) (a1 : Int32) (ha1l : -2147483648 ≤ a1.toInt) (ha1h : a1.toInt ≤ -1) (a2 : Int32) (ha2l : -2147483648 ≤ a2.toInt) (ha2h : a2.toInt ≤ 2147483647) : z_sem zn (d + 2) 170 [.ref 0, .int a1, .int a2] zh40 (some (.int (Int32.ofInt (-1)))) zh40 := by
  refine ⟨zu_X11_seen, Nat.le_of_ble_eq_true rfl, Nat.le_of_ble_eq_true rfl, [zo, zo, zc (some (.int (Int32.ofInt 0))) zh40, zt, zo], _, _, rfl, ?_, ?_⟩
  · exact ⟨trivial, trivial, ⟨⟨(Nat.le_of_ble_eq_true rfl), (Nat.le_of_ble_eq_true rfl)⟩, zq149 zn (d + 0) a1 ha1l ha1h, (Nat.le_of_ble_eq_true rfl), (Nat.le_of_ble_eq_true rfl), (Nat.le_of_ble_eq_true rfl), (Nat.le_of_ble_eq_true rfl), (Nat.le_of_ble_eq_true rfl)⟩, zbt (by decide +kernel), trivial, trivial⟩
  · exact zfin_i rfl rfl rfl
set_option maxRecDepth 100000 in
set_option maxHeartbeats 4000000 in
theorem zq349 (zn : Bool) (d : Nat) (a1 : Int32) (ha1l : -2147483648 ≤ a1.toInt) (ha1h : a1.toInt ≤ -1) (a2 : Int32) (ha2l : -2147483648 ≤ a2.toInt) (ha2h : a2.toInt ≤ 2147483647) : z_sem zn (d + 2) 274 [.ref 79, .int a1, .int a2] zh40 (some (.int (Int32.ofInt (-1)))) zh42 := by
  refine ⟨zu_X12_seen, Nat.le_of_ble_eq_true rfl, Nat.le_of_ble_eq_true rfl, [zo, zo, zo, zo, zo, zc (some (.int (Int32.ofInt 0))) zh42, zt, zo], _, _, rfl, ?_, ?_⟩
  · exact ⟨trivial, trivial, ⟨(Nat.le_of_ble_eq_true rfl), rfl, rfl⟩, trivial, trivial, ⟨⟨(Nat.le_of_ble_eq_true rfl), (Nat.le_of_ble_eq_true rfl)⟩, zq151 zn (d + 0) a1 ha1l ha1h, (Nat.le_of_ble_eq_true rfl), (Nat.le_of_ble_eq_true rfl), (Nat.le_of_ble_eq_true rfl), (Nat.le_of_ble_eq_true rfl), (Nat.le_of_ble_eq_true rfl)⟩, zbt (by decide +kernel), trivial, trivial⟩
  · exact zfin_i rfl rfl rfl
set_option maxRecDepth 100000 in
set_option maxHeartbeats 4000000 in
theorem zq350 (zn : Bool) (d : Nat) (a1 : Int32) (ha1l : 1 ≤ a1.toInt) (ha1h : a1.toInt ≤ 2147483647) : z_sem zn (d + 2) 160 [.ref 0, .int a1] zh40 (some (.int (Int32.ofInt (-1)))) zh40 := by
  refine ⟨zu_X11_looks, Nat.le_of_ble_eq_true rfl, Nat.le_of_ble_eq_true rfl, [zo, zo, zc (some (.int (Int32.ofInt 0))) zh40, zt, zo], _, _, rfl, ?_, ?_⟩
  · exact ⟨trivial, trivial, ⟨⟨(Nat.le_of_ble_eq_true rfl), (Nat.le_of_ble_eq_true rfl)⟩, zq141 zn (d + 0) a1 ha1l ha1h, (Nat.le_of_ble_eq_true rfl), (Nat.le_of_ble_eq_true rfl), (Nat.le_of_ble_eq_true rfl), (Nat.le_of_ble_eq_true rfl), (Nat.le_of_ble_eq_true rfl)⟩, zbt (by decide +kernel), trivial, trivial⟩
  · exact zfin_i rfl rfl rfl
set_option maxRecDepth 100000 in
set_option maxHeartbeats 4000000 in
theorem zq351 (zn : Bool) (d : Nat) (a1 : Int32) (ha1l : 1 ≤ a1.toInt) (ha1h : a1.toInt ≤ 2147483647) : z_sem zn (d + 2) 254 [.ref 79, .int a1] zh40 (some (.int (Int32.ofInt (-1)))) zh42 := by
  refine ⟨zu_X12_looks, Nat.le_of_ble_eq_true rfl, Nat.le_of_ble_eq_true rfl, [zo, zo, zo, zo, zo, zc (some (.int (Int32.ofInt 0))) zh42, zt, zo], _, _, rfl, ?_, ?_⟩
  · exact ⟨trivial, trivial, ⟨(Nat.le_of_ble_eq_true rfl), rfl, rfl⟩, trivial, trivial, ⟨⟨(Nat.le_of_ble_eq_true rfl), (Nat.le_of_ble_eq_true rfl)⟩, zq143 zn (d + 0) a1 ha1l ha1h, (Nat.le_of_ble_eq_true rfl), (Nat.le_of_ble_eq_true rfl), (Nat.le_of_ble_eq_true rfl), (Nat.le_of_ble_eq_true rfl), (Nat.le_of_ble_eq_true rfl)⟩, zbt (by decide +kernel), trivial, trivial⟩
  · exact zfin_i rfl rfl rfl
set_option maxRecDepth 100000 in
set_option maxHeartbeats 4000000 in
theorem zq352 (zn : Bool) (d : Nat) (a1 : Int32) (ha1l : 0 ≤ a1.toInt) (ha1h : a1.toInt ≤ 0) : z_sem zn (d + 2) 160 [.ref 0, .int a1] zh40 (some (.int (Int32.ofInt (-1)))) zh40 := by
  refine ⟨zu_X11_looks, Nat.le_of_ble_eq_true rfl, Nat.le_of_ble_eq_true rfl, [zo, zo, zc (some (.int (Int32.ofInt 0))) zh40, zt, zo], _, _, rfl, ?_, ?_⟩
  · exact ⟨trivial, trivial, ⟨⟨(Nat.le_of_ble_eq_true rfl), (Nat.le_of_ble_eq_true rfl)⟩, zq145 zn (d + 0) a1 ha1l ha1h, (Nat.le_of_ble_eq_true rfl), (Nat.le_of_ble_eq_true rfl), (Nat.le_of_ble_eq_true rfl), (Nat.le_of_ble_eq_true rfl), (Nat.le_of_ble_eq_true rfl)⟩, zbt (by decide +kernel), trivial, trivial⟩
  · exact zfin_i rfl rfl rfl
set_option maxRecDepth 100000 in
set_option maxHeartbeats 4000000 in
theorem zq353 (zn : Bool) (d : Nat) (a1 : Int32) (ha1l : 0 ≤ a1.toInt) (ha1h : a1.toInt ≤ 0) : z_sem zn (d + 2) 254 [.ref 79, .int a1] zh40 (some (.int (Int32.ofInt (-1)))) zh42 := by
  refine ⟨zu_X12_looks, Nat.le_of_ble_eq_true rfl, Nat.le_of_ble_eq_true rfl, [zo, zo, zo, zo, zo, zc (some (.int (Int32.ofInt 0))) zh42, zt, zo], _, _, rfl, ?_, ?_⟩
  · exact ⟨trivial, trivial, ⟨(Nat.le_of_ble_eq_true rfl), rfl, rfl⟩, trivial, trivial, ⟨⟨(Nat.le_of_ble_eq_true rfl), (Nat.le_of_ble_eq_true rfl)⟩, zq147 zn (d + 0) a1 ha1l ha1h, (Nat.le_of_ble_eq_true rfl), (Nat.le_of_ble_eq_true rfl), (Nat.le_of_ble_eq_true rfl), (Nat.le_of_ble_eq_true rfl), (Nat.le_of_ble_eq_true rfl)⟩, zbt (by decide +kernel), trivial, trivial⟩
  · exact zfin_i rfl rfl rfl
set_option maxRecDepth 100000 in
set_option maxHeartbeats 4000000 in
theorem zq354 (zn : Bool) (d : Nat) (a1 : Int32) (ha1l : -2147483648 ≤ a1.toInt) (ha1h : a1.toInt ≤ -1) : z_sem zn (d + 2) 160 [.ref 0, .int a1] zh40 (some (.int (Int32.ofInt (-1)))) zh40 := by
  refine ⟨zu_X11_looks, Nat.le_of_ble_eq_true rfl, Nat.le_of_ble_eq_true rfl, [zo, zo, zc (some (.int (Int32.ofInt 0))) zh40, zt, zo], _, _, rfl, ?_, ?_⟩
  · exact ⟨trivial, trivial, ⟨⟨(Nat.le_of_ble_eq_true rfl), (Nat.le_of_ble_eq_true rfl)⟩, zq149 zn (d + 0) a1 ha1l ha1h, (Nat.le_of_ble_eq_true rfl), (Nat.le_of_ble_eq_true rfl), (Nat.le_of_ble_eq_true rfl), (Nat.le_of_ble_eq_true rfl), (Nat.le_of_ble_eq_true rfl)⟩, zbt (by decide +kernel), trivial, trivial⟩
  · exact zfin_i rfl rfl rfl
set_option maxRecDepth 100000 in
set_option maxHeartbeats 4000000 in
theorem zq355 (zn : Bool) (d : Nat) (a1 : Int32) (ha1l : -2147483648 ≤ a1.toInt) (ha1h : a1.toInt ≤ -1) : z_sem zn (d + 2) 254 [.ref 79, .int a1] zh40 (some (.int (Int32.ofInt (-1)))) zh42 := by
  refine ⟨zu_X12_looks, Nat.le_of_ble_eq_true rfl, Nat.le_of_ble_eq_true rfl, [zo, zo, zo, zo, zo, zc (some (.int (Int32.ofInt 0))) zh42, zt, zo], _, _, rfl, ?_, ?_⟩
  · exact ⟨trivial, trivial, ⟨(Nat.le_of_ble_eq_true rfl), rfl, rfl⟩, trivial, trivial, ⟨⟨(Nat.le_of_ble_eq_true rfl), (Nat.le_of_ble_eq_true rfl)⟩, zq151 zn (d + 0) a1 ha1l ha1h, (Nat.le_of_ble_eq_true rfl), (Nat.le_of_ble_eq_true rfl), (Nat.le_of_ble_eq_true rfl), (Nat.le_of_ble_eq_true rfl), (Nat.le_of_ble_eq_true rfl)⟩, zbt (by decide +kernel), trivial, trivial⟩
  · exact zfin_i rfl rfl rfl
set_option maxRecDepth 100000 in
set_option maxHeartbeats 4000000 in
theorem zq356 (zn : Bool) (d : Nat) (a1 : Int32) (ha1l : 1 ≤ a1.toInt) (ha1h : a1.toInt ≤ 2147483647) (a2 : Int32) (ha2l : -2147483648 ≤ a2.toInt) (ha2h : a2.toInt ≤ 2147483647) : z_sem zn (d + 2) 131 [.ref 0, .int a1, .int a2] zh40 (some (.int ((-1000000)))) zh40 := by
  refine ⟨zu_X11_child, Nat.le_of_ble_eq_true rfl, Nat.le_of_ble_eq_true rfl, [zo, zo, zc (some (.int (Int32.ofInt 0))) zh40, zt, zo], _, _, rfl, ?_, ?_⟩
  · exact ⟨trivial, trivial, ⟨⟨(Nat.le_of_ble_eq_true rfl), (Nat.le_of_ble_eq_true rfl)⟩, zq219 zn (d + 0) a1 ha1l ha1h, (Nat.le_of_ble_eq_true rfl), (Nat.le_of_ble_eq_true rfl), (Nat.le_of_ble_eq_true rfl), (Nat.le_of_ble_eq_true rfl), (Nat.le_of_ble_eq_true rfl)⟩, zbt (by decide +kernel), trivial, trivial⟩
  · exact zfin_i rfl rfl rfl
set_option maxRecDepth 100000 in
set_option maxHeartbeats 4000000 in
theorem zq357 (zn : Bool) (d : Nat) (a1 : Int32) (ha1l : 1 ≤ a1.toInt) (ha1h : a1.toInt ≤ 2147483647) (a2 : Int32) (ha2l : -2147483648 ≤ a2.toInt) (ha2h : a2.toInt ≤ 2147483647) : z_sem zn (d + 2) 194 [.ref 79, .int a1, .int a2] zh40 (some (.int ((-1000000)))) zh42 := by
  refine ⟨zu_X12_child, Nat.le_of_ble_eq_true rfl, Nat.le_of_ble_eq_true rfl, [zo, zo, zo, zo, zo, zc (some (.int (Int32.ofInt 0))) zh42, zt, zo], _, _, rfl, ?_, ?_⟩
  · exact ⟨trivial, trivial, ⟨(Nat.le_of_ble_eq_true rfl), rfl, rfl⟩, trivial, trivial, ⟨⟨(Nat.le_of_ble_eq_true rfl), (Nat.le_of_ble_eq_true rfl)⟩, zq222 zn (d + 0) a1 ha1l ha1h, (Nat.le_of_ble_eq_true rfl), (Nat.le_of_ble_eq_true rfl), (Nat.le_of_ble_eq_true rfl), (Nat.le_of_ble_eq_true rfl), (Nat.le_of_ble_eq_true rfl)⟩, zbt (by decide +kernel), trivial, trivial⟩
  · exact zfin_i rfl rfl rfl
set_option maxRecDepth 100000 in
set_option maxHeartbeats 4000000 in
theorem zq358 (zn : Bool) (d : Nat) (a1 : Int32) (ha1l : 0 ≤ a1.toInt) (ha1h : a1.toInt ≤ 0) (a2 : Int32) (ha2l : -2147483648 ≤ a2.toInt) (ha2h : a2.toInt ≤ 2147483647) : z_sem zn (d + 2) 131 [.ref 0, .int a1, .int a2] zh40 (some (.int ((-1000000)))) zh40 := by
  refine ⟨zu_X11_child, Nat.le_of_ble_eq_true rfl, Nat.le_of_ble_eq_true rfl, [zo, zo, zc (some (.int (Int32.ofInt 0))) zh40, zt, zo], _, _, rfl, ?_, ?_⟩
  · exact ⟨trivial, trivial, ⟨⟨(Nat.le_of_ble_eq_true rfl), (Nat.le_of_ble_eq_true rfl)⟩, zq225 zn (d + 0) a1 ha1l ha1h, (Nat.le_of_ble_eq_true rfl), (Nat.le_of_ble_eq_true rfl), (Nat.le_of_ble_eq_true rfl), (Nat.le_of_ble_eq_true rfl), (Nat.le_of_ble_eq_true rfl)⟩, zbt (by decide +kernel), trivial, trivial⟩
  · exact zfin_i rfl rfl rfl
set_option maxRecDepth 100000 in
set_option maxHeartbeats 4000000 in
theorem zq359 (zn : Bool) (d : Nat) (a1 : Int32) (ha1l : 0 ≤ a1.toInt) (ha1h : a1.toInt ≤ 0) (a2 : Int32) (ha2l : -2147483648 ≤ a2.toInt) (ha2h : a2.toInt ≤ 2147483647) : z_sem zn (d + 2) 194 [.ref 79, .int a1, .int a2] zh40 (some (.int ((-1000000)))) zh42 := by
  refine ⟨zu_X12_child, Nat.le_of_ble_eq_true rfl, Nat.le_of_ble_eq_true rfl, [zo, zo, zo, zo, zo, zc (some (.int (Int32.ofInt 0))) zh42, zt, zo], _, _, rfl, ?_, ?_⟩
  · exact ⟨trivial, trivial, ⟨(Nat.le_of_ble_eq_true rfl), rfl, rfl⟩, trivial, trivial, ⟨⟨(Nat.le_of_ble_eq_true rfl), (Nat.le_of_ble_eq_true rfl)⟩, zq228 zn (d + 0) a1 ha1l ha1h, (Nat.le_of_ble_eq_true rfl), (Nat.le_of_ble_eq_true rfl), (Nat.le_of_ble_eq_true rfl), (Nat.le_of_ble_eq_true rfl), (Nat.le_of_ble_eq_true rfl)⟩, zbt (by decide +kernel), trivial, trivial⟩
  · exact zfin_i rfl rfl rfl
set_option maxRecDepth 100000 in
set_option maxHeartbeats 4000000 in
theorem zq360 (zn : Bool) (d : Nat) (a1 : Int32) (ha1l : -2147483648 ≤ a1.toInt) (ha1h : a1.toInt ≤ -1) (a2 : Int32) (ha2l : -2147483648 ≤ a2.toInt) (ha2h : a2.toInt ≤ 2147483647) : z_sem zn (d + 2) 131 [.ref 0, .int a1, .int a2] zh40 (some (.int ((-1000000)))) zh40 := by
  refine ⟨zu_X11_child, Nat.le_of_ble_eq_true rfl, Nat.le_of_ble_eq_true rfl, [zo, zo, zc (some (.int (Int32.ofInt 0))) zh40, zt, zo], _, _, rfl, ?_, ?_⟩
  · exact ⟨trivial, trivial, ⟨⟨(Nat.le_of_ble_eq_true rfl), (Nat.le_of_ble_eq_true rfl)⟩, zq231 zn (d + 0) a1 ha1l ha1h, (Nat.le_of_ble_eq_true rfl), (Nat.le_of_ble_eq_true rfl), (Nat.le_of_ble_eq_true rfl), (Nat.le_of_ble_eq_true rfl), (Nat.le_of_ble_eq_true rfl)⟩, zbt (by decide +kernel), trivial, trivial⟩
  · exact zfin_i rfl rfl rfl
set_option maxRecDepth 100000 in
set_option maxHeartbeats 4000000 in
theorem zq361 (zn : Bool) (d : Nat) (a1 : Int32) (ha1l : -2147483648 ≤ a1.toInt) (ha1h : a1.toInt ≤ -1) (a2 : Int32) (ha2l : -2147483648 ≤ a2.toInt) (ha2h : a2.toInt ≤ 2147483647) : z_sem zn (d + 2) 194 [.ref 79, .int a1, .int a2] zh40 (some (.int ((-1000000)))) zh42 := by
  refine ⟨zu_X12_child, Nat.le_of_ble_eq_true rfl, Nat.le_of_ble_eq_true rfl, [zo, zo, zo, zo, zo, zc (some (.int (Int32.ofInt 0))) zh42, zt, zo], _, _, rfl, ?_, ?_⟩
  · exact ⟨trivial, trivial, ⟨(Nat.le_of_ble_eq_true rfl), rfl, rfl⟩, trivial, trivial, ⟨⟨(Nat.le_of_ble_eq_true rfl), (Nat.le_of_ble_eq_true rfl)⟩, zq234 zn (d + 0) a1 ha1l ha1h, (Nat.le_of_ble_eq_true rfl), (Nat.le_of_ble_eq_true rfl), (Nat.le_of_ble_eq_true rfl), (Nat.le_of_ble_eq_true rfl), (Nat.le_of_ble_eq_true rfl)⟩, zbt (by decide +kernel), trivial, trivial⟩
  · exact zfin_i rfl rfl rfl
set_option maxRecDepth 100000 in
set_option maxHeartbeats 4000000 in
theorem zq362 (zn : Bool) (d : Nat) : z_sem zn (d + 1) 148 [.ref 0] zh40 (some (.int (Int32.ofInt (-1)))) zh40 := by
  refine ⟨zu_X11_image, Nat.le_of_ble_eq_true rfl, Nat.le_of_ble_eq_true rfl, [zo, zo, zo, zo], _, _, rfl, ?_, ?_⟩
  · exact ⟨trivial, (Nat.le_of_ble_eq_true rfl), zbf (by decide +kernel), trivial, trivial⟩
  · exact zfin_i rfl rfl rfl
set_option maxRecDepth 100000 in
set_option maxHeartbeats 4000000 in
theorem zq363 (zn : Bool) (d : Nat) : z_sem zn (d + 2) 229 [.ref 79] zh40 (some (.int (Int32.ofInt (-1)))) zh42 := by
  refine ⟨zu_X12_image, Nat.le_of_ble_eq_true rfl, Nat.le_of_ble_eq_true rfl, [zo, zo, zo, zo, zc (some (.int (Int32.ofInt 0))) zh42, zo, zo], _, _, rfl, ?_, ?_⟩
  · exact ⟨trivial, trivial, ⟨(Nat.le_of_ble_eq_true rfl), rfl, rfl⟩, trivial, ⟨⟨(Nat.le_of_ble_eq_true rfl), (Nat.le_of_ble_eq_true rfl)⟩, zq197 zn (d + 0), (Nat.le_of_ble_eq_true rfl), (Nat.le_of_ble_eq_true rfl), (Nat.le_of_ble_eq_true rfl), (Nat.le_of_ble_eq_true rfl), (Nat.le_of_ble_eq_true rfl)⟩, zbf (by decide +kernel), trivial, trivial⟩
  · exact zfin_i rfl rfl rfl
set_option maxRecDepth 100000 in
set_option maxHeartbeats 4000000 in
theorem zq364 (zn : Bool) (d : Nat) : z_sem zn (d + 1) 90 [.ref 23, .ref 17] zh40 (some (.int (Int32.ofInt 0))) zh40 := by
  refine ⟨zu_X5_restore, Nat.le_of_ble_eq_true rfl, Nat.le_of_ble_eq_true rfl, [zo, zo, zo, zo], _, _, rfl, ?_, ?_⟩
  · exact ⟨trivial, (Nat.le_of_ble_eq_true rfl), zbf (by decide +kernel), trivial, trivial⟩
  · exact zfin_i rfl rfl rfl
set_option maxRecDepth 100000 in
set_option maxHeartbeats 4000000 in
theorem zq365 (zn : Bool) (d : Nat) : z_sem zn (d + 2) 128 [.ref 0] zh40 (some (.int (Int32.ofInt (-1)))) zh40 := by
  refine ⟨zu_X11_back, Nat.le_of_ble_eq_true rfl, Nat.le_of_ble_eq_true rfl, [zo, zo, zo, zo, zc (some (.int (Int32.ofInt 0))) zh40, zt, zo], _, _, rfl, ?_, ?_⟩
  · exact ⟨trivial, (Nat.le_of_ble_eq_true rfl), trivial, (Nat.le_of_ble_eq_true rfl), ⟨⟨(Nat.le_of_ble_eq_true rfl), (Nat.le_of_ble_eq_true rfl)⟩, zq364 zn (d + 0), (Nat.le_of_ble_eq_true rfl), (Nat.le_of_ble_eq_true rfl), (Nat.le_of_ble_eq_true rfl), (Nat.le_of_ble_eq_true rfl), (Nat.le_of_ble_eq_true rfl)⟩, zbt (by decide +kernel), trivial, trivial⟩
  · exact zfin_i rfl rfl rfl
set_option maxRecDepth 100000 in
set_option maxHeartbeats 4000000 in
theorem zq366 (zn : Bool) (d : Nat) : z_sem zn (d + 1) 189 [.ref 79] zh40 (some (.int (Int32.ofInt (-1)))) zh42 := by
  refine ⟨zu_X12_back, Nat.le_of_ble_eq_true rfl, Nat.le_of_ble_eq_true rfl, [zo, zo, zo, zo, zo, zo, zo], _, _, rfl, ?_, ?_⟩
  · exact ⟨trivial, trivial, ⟨(Nat.le_of_ble_eq_true rfl), rfl, rfl⟩, trivial, (Nat.le_of_ble_eq_true rfl), zbf (by decide +kernel), trivial, trivial⟩
  · exact zfin_i rfl rfl rfl
set_option maxRecDepth 100000 in
set_option maxHeartbeats 4000000 in
theorem zq367 (zn : Bool) (d : Nat) (a1 : Int32) (ha1l : 14 ≤ a1.toInt) (ha1h : a1.toInt ≤ 2147483647) : z_sem zn (d + 1) 133 [.ref 0, .int a1] zh40 (some (.int ((-1000000)))) zh40 := by
  refine ⟨zu_X11_count, Nat.le_of_ble_eq_true rfl, Nat.le_of_ble_eq_true rfl, [zo, zo, zo], _, _, rfl, ?_, ?_⟩
  · exact ⟨trivial, (by omega), trivial, trivial⟩
  · exact zfin_i rfl rfl rfl
set_option maxRecDepth 100000 in
set_option maxHeartbeats 4000000 in
theorem zq368 (zn : Bool) (d : Nat) (a1 : Int32) (ha1l : 14 ≤ a1.toInt) (ha1h : a1.toInt ≤ 2147483647) : z_sem zn (d + 1) 200 [.ref 79, .int a1] zh40 (some (.int ((-1000000)))) zh42 := by
  refine ⟨zu_X12_count, Nat.le_of_ble_eq_true rfl, Nat.le_of_ble_eq_true rfl, [zo, zo, zo, zo, zo, zo], _, _, rfl, ?_, ?_⟩
  · exact ⟨trivial, trivial, ⟨(Nat.le_of_ble_eq_true rfl), rfl, rfl⟩, trivial, (by omega), trivial, trivial⟩
  · exact zfin_i rfl rfl rfl
set_option maxRecDepth 100000 in
set_option maxHeartbeats 4000000 in
theorem zq369 (zn : Bool) (d : Nat) (a1 : Int32) (ha1l : 13 ≤ a1.toInt) (ha1h : a1.toInt ≤ 13) : z_sem zn (d + 1) 133 [.ref 0, .int a1] zh40 (some (.int 0)) zh40 := by
  refine ⟨zu_X11_count, Nat.le_of_ble_eq_true rfl, Nat.le_of_ble_eq_true rfl, [zo, (true, 13, none, zh0, none), zo, zo, zo, zo], _, _, rfl, ?_, ?_⟩
  · exact ⟨trivial, ⟨by (try dsimp only); omega, by (try dsimp only); omega⟩, trivial, (Nat.le_of_ble_eq_true rfl), trivial, ⟨(Nat.le_of_ble_eq_true rfl), (zvin (by decide +kernel))⟩, trivial⟩
  · exact zfin_i rfl rfl rfl
set_option maxRecDepth 100000 in
set_option maxHeartbeats 4000000 in
theorem zq370 (zn : Bool) (d : Nat) (a1 : Int32) (ha1l : 13 ≤ a1.toInt) (ha1h : a1.toInt ≤ 13) : z_sem zn (d + 1) 200 [.ref 79, .int a1] zh40 (some (.int 0)) zh42 := by
  refine ⟨zu_X12_count, Nat.le_of_ble_eq_true rfl, Nat.le_of_ble_eq_true rfl, [zo, zo, zo, zo, (true, 13, none, zh0, none), zo, zo, zo, zo], _, _, rfl, ?_, ?_⟩
  · exact ⟨trivial, trivial, ⟨(Nat.le_of_ble_eq_true rfl), rfl, rfl⟩, trivial, ⟨by (try dsimp only); omega, by (try dsimp only); omega⟩, trivial, (Nat.le_of_ble_eq_true rfl), trivial, ⟨(Nat.le_of_ble_eq_true rfl), (zvin (by decide +kernel))⟩, trivial⟩
  · exact zfin_i rfl rfl rfl
set_option maxRecDepth 100000 in
set_option maxHeartbeats 4000000 in
theorem zq371 (zn : Bool) (d : Nat) (a1 : Int32) (ha1l : 12 ≤ a1.toInt) (ha1h : a1.toInt ≤ 12) : z_sem zn (d + 1) 133 [.ref 0, .int a1] zh40 (some (.int 0)) zh40 := by
  refine ⟨zu_X11_count, Nat.le_of_ble_eq_true rfl, Nat.le_of_ble_eq_true rfl, [zo, (true, 12, none, zh0, none), zo, zo, zo, zo], _, _, rfl, ?_, ?_⟩
  · exact ⟨trivial, ⟨by (try dsimp only); omega, by (try dsimp only); omega⟩, trivial, (Nat.le_of_ble_eq_true rfl), trivial, ⟨(Nat.le_of_ble_eq_true rfl), (zvin (by decide +kernel))⟩, trivial⟩
  · exact zfin_i rfl rfl rfl
set_option maxRecDepth 100000 in
set_option maxHeartbeats 4000000 in
theorem zq372 (zn : Bool) (d : Nat) (a1 : Int32) (ha1l : 12 ≤ a1.toInt) (ha1h : a1.toInt ≤ 12) : z_sem zn (d + 1) 200 [.ref 79, .int a1] zh40 (some (.int 0)) zh42 := by
  refine ⟨zu_X12_count, Nat.le_of_ble_eq_true rfl, Nat.le_of_ble_eq_true rfl, [zo, zo, zo, zo, (true, 12, none, zh0, none), zo, zo, zo, zo], _, _, rfl, ?_, ?_⟩
  · exact ⟨trivial, trivial, ⟨(Nat.le_of_ble_eq_true rfl), rfl, rfl⟩, trivial, ⟨by (try dsimp only); omega, by (try dsimp only); omega⟩, trivial, (Nat.le_of_ble_eq_true rfl), trivial, ⟨(Nat.le_of_ble_eq_true rfl), (zvin (by decide +kernel))⟩, trivial⟩
  · exact zfin_i rfl rfl rfl
set_option maxRecDepth 100000 in
set_option maxHeartbeats 4000000 in
theorem zq373 (zn : Bool) (d : Nat) (a1 : Int32) (ha1l : 11 ≤ a1.toInt) (ha1h : a1.toInt ≤ 11) : z_sem zn (d + 2) 133 [.ref 0, .int a1] zh40 (some (.int (if Int32.ofInt 0 < (Int8.ofInt 60).toInt32 then Int32.ofInt 0 else (Int8.ofInt 60).toInt32))) zh40 := by
  refine ⟨zu_X11_count, Nat.le_of_ble_eq_true rfl, Nat.le_of_ble_eq_true rfl, [zo, (true, 11, none, zh0, none), zo, zo, zc (some (.int (if Int32.ofInt 0 < (Int8.ofInt 60).toInt32 then Int32.ofInt 0 else (Int8.ofInt 60).toInt32))) zh40], _, _, rfl, ?_, ?_⟩
  · exact ⟨trivial, ⟨by (try dsimp only); omega, by (try dsimp only); omega⟩, trivial, (Nat.le_of_ble_eq_true rfl), ⟨⟨(Nat.le_of_ble_eq_true rfl), (Nat.le_of_ble_eq_true rfl)⟩, zq264 zn (d + 0), (Nat.le_of_ble_eq_true rfl), (Nat.le_of_ble_eq_true rfl), (Nat.le_of_ble_eq_true rfl), (Nat.le_of_ble_eq_true rfl), (Nat.le_of_ble_eq_true rfl)⟩, trivial⟩
  · exact zfin_i rfl rfl rfl
set_option maxRecDepth 100000 in
set_option maxHeartbeats 4000000 in
theorem zq374 (zn : Bool) (d : Nat) (a1 : Int32) (ha1l : 11 ≤ a1.toInt) (ha1h : a1.toInt ≤ 11) : z_sem zn (d + 1) 200 [.ref 79, .int a1] zh40 (some (.int 0)) zh42 := by
  refine ⟨zu_X12_count, Nat.le_of_ble_eq_true rfl, Nat.le_of_ble_eq_true rfl, [zo, zo, zo, zo, (true, 11, none, zh0, none), zo, zo], _, _, rfl, ?_, ?_⟩
  · exact ⟨trivial, trivial, ⟨(Nat.le_of_ble_eq_true rfl), rfl, rfl⟩, trivial, ⟨by (try dsimp only); omega, by (try dsimp only); omega⟩, trivial, (Nat.le_of_ble_eq_true rfl), trivial⟩
  · exact zfin_i rfl rfl rfl
set_option maxRecDepth 100000 in
set_option maxHeartbeats 4000000 in
theorem zq375 (zn : Bool) (d : Nat) (a1 : Int32) (ha1l : 10 ≤ a1.toInt) (ha1h : a1.toInt ≤ 10) : z_sem zn (d + 1) 133 [.ref 0, .int a1] zh40 (some (.int (Int32.ofInt 0))) zh40 := by
  refine ⟨zu_X11_count, Nat.le_of_ble_eq_true rfl, Nat.le_of_ble_eq_true rfl, [zo, (true, 10, none, zh0, none), zo, zo, zo], _, _, rfl, ?_, ?_⟩
  · exact ⟨trivial, ⟨by (try dsimp only); omega, by (try dsimp only); omega⟩, trivial, (Nat.le_of_ble_eq_true rfl), (Nat.le_of_ble_eq_true rfl), trivial⟩
  · exact zfin_i rfl rfl rfl
set_option maxRecDepth 100000 in
set_option maxHeartbeats 4000000 in
theorem zq376 (zn : Bool) (d : Nat) (a1 : Int32) (ha1l : 10 ≤ a1.toInt) (ha1h : a1.toInt ≤ 10) : z_sem zn (d + 1) 200 [.ref 79, .int a1] zh40 (some (.int 0)) zh42 := by
  refine ⟨zu_X12_count, Nat.le_of_ble_eq_true rfl, Nat.le_of_ble_eq_true rfl, [zo, zo, zo, zo, (true, 10, none, zh0, none), zo, zo], _, _, rfl, ?_, ?_⟩
  · exact ⟨trivial, trivial, ⟨(Nat.le_of_ble_eq_true rfl), rfl, rfl⟩, trivial, ⟨by (try dsimp only); omega, by (try dsimp only); omega⟩, trivial, (Nat.le_of_ble_eq_true rfl), trivial⟩
  · exact zfin_i rfl rfl rfl
set_option maxRecDepth 100000 in
set_option maxHeartbeats 4000000 in
theorem zq377 (zn : Bool) (d : Nat) (a1 : Int32) (ha1l : 9 ≤ a1.toInt) (ha1h : a1.toInt ≤ 9) : z_sem zn (d + 1) 133 [.ref 0, .int a1] zh40 (some (.int (Int32.ofInt 0))) zh40 := by
  refine ⟨zu_X11_count, Nat.le_of_ble_eq_true rfl, Nat.le_of_ble_eq_true rfl, [zo, (true, 9, none, zh0, none), zo, zo, zo], _, _, rfl, ?_, ?_⟩
  · exact ⟨trivial, ⟨by (try dsimp only); omega, by (try dsimp only); omega⟩, trivial, (Nat.le_of_ble_eq_true rfl), (Nat.le_of_ble_eq_true rfl), trivial⟩
  · exact zfin_i rfl rfl rfl
set_option maxRecDepth 100000 in
set_option maxHeartbeats 4000000 in
theorem zq378 (zn : Bool) (d : Nat) (a1 : Int32) (ha1l : 9 ≤ a1.toInt) (ha1h : a1.toInt ≤ 9) : z_sem zn (d + 1) 200 [.ref 79, .int a1] zh40 (some (.int 0)) zh42 := by
  refine ⟨zu_X12_count, Nat.le_of_ble_eq_true rfl, Nat.le_of_ble_eq_true rfl, [zo, zo, zo, zo, (true, 9, none, zh0, none), zo, zo], _, _, rfl, ?_, ?_⟩
  · exact ⟨trivial, trivial, ⟨(Nat.le_of_ble_eq_true rfl), rfl, rfl⟩, trivial, ⟨by (try dsimp only); omega, by (try dsimp only); omega⟩, trivial, (Nat.le_of_ble_eq_true rfl), trivial⟩
  · exact zfin_i rfl rfl rfl
set_option maxRecDepth 100000 in
set_option maxHeartbeats 4000000 in
theorem zq379 (zn : Bool) (d : Nat) (a1 : Int32) (ha1l : 8 ≤ a1.toInt) (ha1h : a1.toInt ≤ 8) : z_sem zn (d + 3) 133 [.ref 0, .int a1] zh40 (some (.int (Int32.ofInt 0))) zh40 := by
  refine ⟨zu_X11_count, Nat.le_of_ble_eq_true rfl, Nat.le_of_ble_eq_true rfl, [zo, (true, 8, none, zh0, none), zo, zc (some (.int (Int32.ofInt 0))) zh40], _, _, rfl, ?_, ?_⟩
  · exact ⟨trivial, ⟨by (try dsimp only); omega, by (try dsimp only); omega⟩, trivial, ⟨⟨(Nat.le_of_ble_eq_true rfl), (Nat.le_of_ble_eq_true rfl)⟩, zq294 zn (d + 0), (Nat.le_of_ble_eq_true rfl), (Nat.le_of_ble_eq_true rfl), (Nat.le_of_ble_eq_true rfl), (Nat.le_of_ble_eq_true rfl), (Nat.le_of_ble_eq_true rfl)⟩, trivial⟩
  · exact zfin_i rfl rfl rfl
set_option maxRecDepth 100000 in
set_option maxHeartbeats 4000000 in
theorem zq380 (zn : Bool) (d : Nat) (a1 : Int32) (ha1l : 8 ≤ a1.toInt) (ha1h : a1.toInt ≤ 8) : z_sem zn (d + 2) 200 [.ref 79, .int a1] zh40 (some (.int (Int32.ofInt 0))) zh42 := by
  refine ⟨zu_X12_count, Nat.le_of_ble_eq_true rfl, Nat.le_of_ble_eq_true rfl, [zo, zo, zo, zo, (true, 8, none, zh0, none), zo, zo, zc (some (.int (Int32.ofInt 0))) zh42], _, _, rfl, ?_, ?_⟩
  · exact ⟨trivial, trivial, ⟨(Nat.le_of_ble_eq_true rfl), rfl, rfl⟩, trivial, ⟨by (try dsimp only); omega, by (try dsimp only); omega⟩, trivial, (Nat.le_of_ble_eq_true rfl), ⟨(Nat.le_of_ble_eq_true rfl), zq296 zn (d + 0), (Nat.le_of_ble_eq_true rfl), (Nat.le_of_ble_eq_true rfl), (Nat.le_of_ble_eq_true rfl), (Nat.le_of_ble_eq_true rfl), (Nat.le_of_ble_eq_true rfl)⟩, trivial⟩
  · exact zfin_i rfl rfl rfl
set_option maxRecDepth 100000 in
set_option maxHeartbeats 4000000 in
theorem zq381 (zn : Bool) (d : Nat) (a1 : Int32) (ha1l : 7 ≤ a1.toInt) (ha1h : a1.toInt ≤ 7) : z_sem zn (d + 1) 133 [.ref 0, .int a1] zh40 (some (.int (Int32.ofInt 0))) zh40 := by
  refine ⟨zu_X11_count, Nat.le_of_ble_eq_true rfl, Nat.le_of_ble_eq_true rfl, [zo, (true, 7, none, zh0, none), zo, zo, zo], _, _, rfl, ?_, ?_⟩
  · exact ⟨trivial, ⟨by (try dsimp only); omega, by (try dsimp only); omega⟩, trivial, (Nat.le_of_ble_eq_true rfl), (Nat.le_of_ble_eq_true rfl), trivial⟩
  · exact zfin_i rfl rfl rfl
set_option maxRecDepth 100000 in
set_option maxHeartbeats 4000000 in
theorem zq382 (zn : Bool) (d : Nat) (a1 : Int32) (ha1l : 7 ≤ a1.toInt) (ha1h : a1.toInt ≤ 7) : z_sem zn (d + 1) 200 [.ref 79, .int a1] zh40 (some (.int 0)) zh42 := by
  refine ⟨zu_X12_count, Nat.le_of_ble_eq_true rfl, Nat.le_of_ble_eq_true rfl, [zo, zo, zo, zo, (true, 7, none, zh0, none), zo, zo], _, _, rfl, ?_, ?_⟩
  · exact ⟨trivial, trivial, ⟨(Nat.le_of_ble_eq_true rfl), rfl, rfl⟩, trivial, ⟨by (try dsimp only); omega, by (try dsimp only); omega⟩, trivial, (Nat.le_of_ble_eq_true rfl), trivial⟩
  · exact zfin_i rfl rfl rfl
set_option maxRecDepth 100000 in
set_option maxHeartbeats 4000000 in
theorem zq383 (zn : Bool) (d : Nat) (a1 : Int32) (ha1l : 6 ≤ a1.toInt) (ha1h : a1.toInt ≤ 6) : z_sem zn (d + 1) 133 [.ref 0, .int a1] zh40 (some (.int 0)) zh40 := by
  refine ⟨zu_X11_count, Nat.le_of_ble_eq_true rfl, Nat.le_of_ble_eq_true rfl, [zo, (true, 6, none, zh0, none), zo, zo, zo, zo], _, _, rfl, ?_, ?_⟩
  · exact ⟨trivial, ⟨by (try dsimp only); omega, by (try dsimp only); omega⟩, trivial, (Nat.le_of_ble_eq_true rfl), trivial, ⟨(Nat.le_of_ble_eq_true rfl), (zvin (by decide +kernel))⟩, trivial⟩
  · exact zfin_i rfl rfl rfl
set_option maxRecDepth 100000 in
set_option maxHeartbeats 4000000 in
theorem zq384 (zn : Bool) (d : Nat) (a1 : Int32) (ha1l : 6 ≤ a1.toInt) (ha1h : a1.toInt ≤ 6) : z_sem zn (d + 1) 200 [.ref 79, .int a1] zh40 (some (.int 0)) zh42 := by
  refine ⟨zu_X12_count, Nat.le_of_ble_eq_true rfl, Nat.le_of_ble_eq_true rfl, [zo, zo, zo, zo, (true, 6, none, zh0, none), zo, zo, zo, zo], _, _, rfl, ?_, ?_⟩
  · exact ⟨trivial, trivial, ⟨(Nat.le_of_ble_eq_true rfl), rfl, rfl⟩, trivial, ⟨by (try dsimp only); omega, by (try dsimp only); omega⟩, trivial, (Nat.le_of_ble_eq_true rfl), trivial, ⟨(Nat.le_of_ble_eq_true rfl), (zvin (by decide +kernel))⟩, trivial⟩
  · exact zfin_i rfl rfl rfl
set_option maxRecDepth 100000 in
set_option maxHeartbeats 4000000 in
theorem zq385 (zn : Bool) (d : Nat) (a1 : Int32) (ha1l : 5 ≤ a1.toInt) (ha1h : a1.toInt ≤ 5) : z_sem zn (d + 1) 133 [.ref 0, .int a1] zh40 (some (.int (Int32.ofInt (-1)))) zh40 := by
  refine ⟨zu_X11_count, Nat.le_of_ble_eq_true rfl, Nat.le_of_ble_eq_true rfl, [zo, (true, 5, none, zh0, none), zo, zo], _, _, rfl, ?_, ?_⟩
  · exact ⟨trivial, ⟨by (try dsimp only); omega, by (try dsimp only); omega⟩, trivial, (Nat.le_of_ble_eq_true rfl), trivial⟩
  · exact zfin_i rfl rfl rfl
set_option maxRecDepth 100000 in
set_option maxHeartbeats 4000000 in
theorem zq386 (zn : Bool) (d : Nat) (a1 : Int32) (ha1l : 5 ≤ a1.toInt) (ha1h : a1.toInt ≤ 5) : z_sem zn (d + 1) 200 [.ref 79, .int a1] zh40 (some (.int (Int32.ofInt (-1)))) zh42 := by
  refine ⟨zu_X12_count, Nat.le_of_ble_eq_true rfl, Nat.le_of_ble_eq_true rfl, [zo, zo, zo, zo, (true, 5, none, zh0, none), zo, zo], _, _, rfl, ?_, ?_⟩
  · exact ⟨trivial, trivial, ⟨(Nat.le_of_ble_eq_true rfl), rfl, rfl⟩, trivial, ⟨by (try dsimp only); omega, by (try dsimp only); omega⟩, trivial, (Nat.le_of_ble_eq_true rfl), trivial⟩
  · exact zfin_i rfl rfl rfl
set_option maxRecDepth 100000 in
set_option maxHeartbeats 4000000 in
theorem zq387 (zn : Bool) (d : Nat) (a1 : Int32) (ha1l : 4 ≤ a1.toInt) (ha1h : a1.toInt ≤ 4) : z_sem zn (d + 1) 133 [.ref 0, .int a1] zh40 (some (.int (Int32.ofInt 0))) zh40 := by
  refine ⟨zu_X11_count, Nat.le_of_ble_eq_true rfl, Nat.le_of_ble_eq_true rfl, [zo, (true, 4, none, zh0, none), zo, zo, zo], _, _, rfl, ?_, ?_⟩
  · exact ⟨trivial, ⟨by (try dsimp only); omega, by (try dsimp only); omega⟩, trivial, (Nat.le_of_ble_eq_true rfl), (Nat.le_of_ble_eq_true rfl), trivial⟩
  · exact zfin_i rfl rfl rfl
set_option maxRecDepth 100000 in
set_option maxHeartbeats 4000000 in
theorem zq388 (zn : Bool) (d : Nat) (a1 : Int32) (ha1l : 4 ≤ a1.toInt) (ha1h : a1.toInt ≤ 4) : z_sem zn (d + 1) 200 [.ref 79, .int a1] zh40 (some (.int 0)) zh42 := by
  refine ⟨zu_X12_count, Nat.le_of_ble_eq_true rfl, Nat.le_of_ble_eq_true rfl, [zo, zo, zo, zo, (true, 4, none, zh0, none), zo, zo], _, _, rfl, ?_, ?_⟩
  · exact ⟨trivial, trivial, ⟨(Nat.le_of_ble_eq_true rfl), rfl, rfl⟩, trivial, ⟨by (try dsimp only); omega, by (try dsimp only); omega⟩, trivial, (Nat.le_of_ble_eq_true rfl), trivial⟩
  · exact zfin_i rfl rfl rfl
set_option maxRecDepth 100000 in
set_option maxHeartbeats 4000000 in
theorem zq389 (zn : Bool) (d : Nat) (a1 : Int32) (ha1l : 3 ≤ a1.toInt) (ha1h : a1.toInt ≤ 3) : z_sem zn (d + 1) 133 [.ref 0, .int a1] zh40 (some (.int (Int32.ofInt 0))) zh40 := by
  refine ⟨zu_X11_count, Nat.le_of_ble_eq_true rfl, Nat.le_of_ble_eq_true rfl, [zo, (true, 3, none, zh0, none), zo, zo], _, _, rfl, ?_, ?_⟩
  · exact ⟨trivial, ⟨by (try dsimp only); omega, by (try dsimp only); omega⟩, trivial, (Nat.le_of_ble_eq_true rfl), trivial⟩
  · exact zfin_i rfl rfl rfl
set_option maxRecDepth 100000 in
set_option maxHeartbeats 4000000 in
theorem zq390 (zn : Bool) (d : Nat) (a1 : Int32) (ha1l : 3 ≤ a1.toInt) (ha1h : a1.toInt ≤ 3) : z_sem zn (d + 1) 200 [.ref 79, .int a1] zh40 (some (.int 0)) zh42 := by
  refine ⟨zu_X12_count, Nat.le_of_ble_eq_true rfl, Nat.le_of_ble_eq_true rfl, [zo, zo, zo, zo, (true, 3, none, zh0, none), zo, zo], _, _, rfl, ?_, ?_⟩
  · exact ⟨trivial, trivial, ⟨(Nat.le_of_ble_eq_true rfl), rfl, rfl⟩, trivial, ⟨by (try dsimp only); omega, by (try dsimp only); omega⟩, trivial, (Nat.le_of_ble_eq_true rfl), trivial⟩
  · exact zfin_i rfl rfl rfl
set_option maxRecDepth 100000 in
set_option maxHeartbeats 4000000 in
theorem zq391 (zn : Bool) (d : Nat) (a1 : Int32) (ha1l : 2 ≤ a1.toInt) (ha1h : a1.toInt ≤ 2) : z_sem zn (d + 1) 133 [.ref 0, .int a1] zh40 (some (.int (Int32.ofInt 0))) zh40 := by
  refine ⟨zu_X11_count, Nat.le_of_ble_eq_true rfl, Nat.le_of_ble_eq_true rfl, [zo, (true, 2, none, zh0, none), zo, zo, zo], _, _, rfl, ?_, ?_⟩
  · exact ⟨trivial, ⟨by (try dsimp only); omega, by (try dsimp only); omega⟩, trivial, (Nat.le_of_ble_eq_true rfl), (Nat.le_of_ble_eq_true rfl), trivial⟩
  · exact zfin_i rfl rfl rfl
set_option maxRecDepth 100000 in
set_option maxHeartbeats 4000000 in
theorem zq392 (zn : Bool) (d : Nat) (a1 : Int32) (ha1l : 2 ≤ a1.toInt) (ha1h : a1.toInt ≤ 2) : z_sem zn (d + 1) 200 [.ref 79, .int a1] zh40 (some (.int 0)) zh42 := by
  refine ⟨zu_X12_count, Nat.le_of_ble_eq_true rfl, Nat.le_of_ble_eq_true rfl, [zo, zo, zo, zo, (true, 2, none, zh0, none), zo, zo], _, _, rfl, ?_, ?_⟩
  · exact ⟨trivial, trivial, ⟨(Nat.le_of_ble_eq_true rfl), rfl, rfl⟩, trivial, ⟨by (try dsimp only); omega, by (try dsimp only); omega⟩, trivial, (Nat.le_of_ble_eq_true rfl), trivial⟩
  · exact zfin_i rfl rfl rfl
set_option maxRecDepth 100000 in
set_option maxHeartbeats 4000000 in
theorem zq393 (zn : Bool) (d : Nat) (a1 : Int32) (ha1l : 1 ≤ a1.toInt) (ha1h : a1.toInt ≤ 1) : z_sem zn (d + 1) 133 [.ref 0, .int a1] zh40 (some (.int 0)) zh40 := by
  refine ⟨zu_X11_count, Nat.le_of_ble_eq_true rfl, Nat.le_of_ble_eq_true rfl, [zo, (true, 1, none, zh0, none), zo, zo, zo, zo], _, _, rfl, ?_, ?_⟩
  · exact ⟨trivial, ⟨by (try dsimp only); omega, by (try dsimp only); omega⟩, trivial, (Nat.le_of_ble_eq_true rfl), trivial, ⟨(Nat.le_of_ble_eq_true rfl), (zvin (by decide +kernel))⟩, trivial⟩
  · exact zfin_i rfl rfl rfl
set_option maxRecDepth 100000 in
set_option maxHeartbeats 4000000 in
theorem zq394 (zn : Bool) (d : Nat) (a1 : Int32) (ha1l : 1 ≤ a1.toInt) (ha1h : a1.toInt ≤ 1) : z_sem zn (d + 1) 200 [.ref 79, .int a1] zh40 (some (.int 0)) zh42 := by
  refine ⟨zu_X12_count, Nat.le_of_ble_eq_true rfl, Nat.le_of_ble_eq_true rfl, [zo, zo, zo, zo, (true, 1, none, zh0, none), zo, zo, zo, zo], _, _, rfl, ?_, ?_⟩
  · exact ⟨trivial, trivial, ⟨(Nat.le_of_ble_eq_true rfl), rfl, rfl⟩, trivial, ⟨by (try dsimp only); omega, by (try dsimp only); omega⟩, trivial, (Nat.le_of_ble_eq_true rfl), trivial, ⟨(Nat.le_of_ble_eq_true rfl), (zvin (by decide +kernel))⟩, trivial⟩
  · exact zfin_i rfl rfl rfl
set_option maxRecDepth 100000 in
set_option maxHeartbeats 4000000 in
theorem zq395 (zn : Bool) (d : Nat) (a1 : Int32) (ha1l : 0 ≤ a1.toInt) (ha1h : a1.toInt ≤ 0) : z_sem zn (d + 1) 133 [.ref 0, .int a1] zh40 (some (.int (Int32.ofInt 0))) zh40 := by
  refine ⟨zu_X11_count, Nat.le_of_ble_eq_true rfl, Nat.le_of_ble_eq_true rfl, [zo, (true, 0, none, zh0, none), zo, zo, zo], _, _, rfl, ?_, ?_⟩
  · exact ⟨trivial, ⟨by (try dsimp only); omega, by (try dsimp only); omega⟩, trivial, (Nat.le_of_ble_eq_true rfl), (Nat.le_of_ble_eq_true rfl), trivial⟩
  · exact zfin_i rfl rfl rfl
set_option maxRecDepth 100000 in
set_option maxHeartbeats 4000000 in
theorem zq396 (zn : Bool) (d : Nat) (a1 : Int32) (ha1l : 0 ≤ a1.toInt) (ha1h : a1.toInt ≤ 0) : z_sem zn (d + 1) 200 [.ref 79, .int a1] zh40 (some (.int 0)) zh42 := by
  refine ⟨zu_X12_count, Nat.le_of_ble_eq_true rfl, Nat.le_of_ble_eq_true rfl, [zo, zo, zo, zo, (true, 0, none, zh0, none), zo, zo], _, _, rfl, ?_, ?_⟩
  · exact ⟨trivial, trivial, ⟨(Nat.le_of_ble_eq_true rfl), rfl, rfl⟩, trivial, ⟨by (try dsimp only); omega, by (try dsimp only); omega⟩, trivial, (Nat.le_of_ble_eq_true rfl), trivial⟩
  · exact zfin_i rfl rfl rfl
set_option maxRecDepth 100000 in
set_option maxHeartbeats 4000000 in
theorem zq397 (zn : Bool) (d : Nat) (a1 : Int32) (ha1l : -2147483648 ≤ a1.toInt) (ha1h : a1.toInt ≤ -1) : z_sem zn (d + 1) 133 [.ref 0, .int a1] zh40 (some (.int ((-1000000)))) zh40 := by
  refine ⟨zu_X11_count, Nat.le_of_ble_eq_true rfl, Nat.le_of_ble_eq_true rfl, [zo, zo, zo], _, _, rfl, ?_, ?_⟩
  · exact ⟨trivial, (by omega), trivial, trivial⟩
  · exact zfin_i rfl rfl rfl
set_option maxRecDepth 100000 in
set_option maxHeartbeats 4000000 in
theorem zq398 (zn : Bool) (d : Nat) (a1 : Int32) (ha1l : -2147483648 ≤ a1.toInt) (ha1h : a1.toInt ≤ -1) : z_sem zn (d + 1) 200 [.ref 79, .int a1] zh40 (some (.int ((-1000000)))) zh42 := by
  refine ⟨zu_X12_count, Nat.le_of_ble_eq_true rfl, Nat.le_of_ble_eq_true rfl, [zo, zo, zo, zo, zo, zo], _, _, rfl, ?_, ?_⟩
  · exact ⟨trivial, trivial, ⟨(Nat.le_of_ble_eq_true rfl), rfl, rfl⟩, trivial, (by omega), trivial, trivial⟩
  · exact zfin_i rfl rfl rfl
set_option maxRecDepth 100000 in
set_option maxHeartbeats 4000000 in
theorem zq399 (zn : Bool) (d : Nat) (a1 : Int32) (ha1l : -2147483648 ≤ a1.toInt) (ha1h : a1.toInt ≤ -1) : z_sem zn (d + 2) 130 [.ref 0, .int a1, .int (Int32.ofInt 1)] zh40 (some (.int (Int32.ofInt (-1)))) zh40 := by
  refine ⟨zu_X11_blind, Nat.le_of_ble_eq_true rfl, Nat.le_of_ble_eq_true rfl, [zo, zo, zc (some (.int (Int32.ofInt 0))) zh40, zt, zo], _, _, rfl, ?_, ?_⟩
  · exact ⟨trivial, trivial, ⟨⟨(Nat.le_of_ble_eq_true rfl), (Nat.le_of_ble_eq_true rfl)⟩, zq149 zn (d + 0) a1 ha1l ha1h, (Nat.le_of_ble_eq_true rfl), (Nat.le_of_ble_eq_true rfl), (Nat.le_of_ble_eq_true rfl), (Nat.le_of_ble_eq_true rfl), (Nat.le_of_ble_eq_true rfl)⟩, zbt (by decide +kernel), trivial, trivial⟩
  · exact zfin_i rfl rfl rfl
set_option maxRecDepth 100000 in
set_option maxHeartbeats 4000000 in
theorem zq400 (zn : Bool) (d : Nat) (a1 : Int32) (ha1l : -2147483648 ≤ a1.toInt) (ha1h : a1.toInt ≤ -1) : z_sem zn (d + 2) 191 [.ref 79, .int a1, .int (Int32.ofInt 1)] zh40 (some (.int (Int32.ofInt (-1)))) zh42 := by
  refine ⟨zu_X12_blind, Nat.le_of_ble_eq_true rfl, Nat.le_of_ble_eq_true rfl, [zo, zo, zo, zo, zo, zo, zo, zo, zo, zo, zo, zo, zo, zc (some (.int (Int32.ofInt 0))) zh42, zt, zo], _, _, rfl, ?_, ?_⟩
  · exact ⟨trivial, trivial, ⟨(Nat.le_of_ble_eq_true rfl), rfl, rfl⟩, trivial, trivial, trivial, trivial, trivial, trivial, trivial, trivial, trivial, trivial, ⟨⟨(Nat.le_of_ble_eq_true rfl), (Nat.le_of_ble_eq_true rfl)⟩, zq151 zn (d + 0) a1 ha1l ha1h, (Nat.le_of_ble_eq_true rfl), (Nat.le_of_ble_eq_true rfl), (Nat.le_of_ble_eq_true rfl), (Nat.le_of_ble_eq_true rfl), (Nat.le_of_ble_eq_true rfl)⟩, zbt (by decide +kernel), trivial, trivial⟩
  · exact zfin_i rfl rfl rfl
set_option maxRecDepth 100000 in
set_option maxHeartbeats 4000000 in
theorem zq401 (zn : Bool) (d : Nat) (a1 : Int32) (ha1l : 0 ≤ a1.toInt) (ha1h : a1.toInt ≤ 0) : z_sem zn (d + 2) 130 [.ref 0, .int a1, .int (Int32.ofInt 1)] zh40 (some (.int (Int32.ofInt (-1)))) zh40 := by
  refine ⟨zu_X11_blind, Nat.le_of_ble_eq_true rfl, Nat.le_of_ble_eq_true rfl, [zo, zo, zc (some (.int (Int32.ofInt 0))) zh40, zt, zo], _, _, rfl, ?_, ?_⟩
  · exact ⟨trivial, trivial, ⟨⟨(Nat.le_of_ble_eq_true rfl), (Nat.le_of_ble_eq_true rfl)⟩, zq145 zn (d + 0) a1 ha1l ha1h, (Nat.le_of_ble_eq_true rfl), (Nat.le_of_ble_eq_true rfl), (Nat.le_of_ble_eq_true rfl), (Nat.le_of_ble_eq_true rfl), (Nat.le_of_ble_eq_true rfl)⟩, zbt (by decide +kernel), trivial, trivial⟩
  · exact zfin_i rfl rfl rfl
set_option maxRecDepth 100000 in
set_option maxHeartbeats 4000000 in
theorem zq402 (zn : Bool) (d : Nat) (a1 : Int32) (ha1l : 0 ≤ a1.toInt) (ha1h : a1.toInt ≤ 0) : z_sem zn (d + 2) 191 [.ref 79, .int a1, .int (Int32.ofInt 1)] zh40 (some (.int (Int32.ofInt (-1)))) zh42 := by
  refine ⟨zu_X12_blind, Nat.le_of_ble_eq_true rfl, Nat.le_of_ble_eq_true rfl, [zo, zo, zo, zo, zo, zo, zo, zo, zo, zo, zo, zo, zo, zc (some (.int (Int32.ofInt 0))) zh42, zt, zo], _, _, rfl, ?_, ?_⟩
  · exact ⟨trivial, trivial, ⟨(Nat.le_of_ble_eq_true rfl), rfl, rfl⟩, trivial, trivial, trivial, trivial, trivial, trivial, trivial, trivial, trivial, trivial, ⟨⟨(Nat.le_of_ble_eq_true rfl), (Nat.le_of_ble_eq_true rfl)⟩, zq147 zn (d + 0) a1 ha1l ha1h, (Nat.le_of_ble_eq_true rfl), (Nat.le_of_ble_eq_true rfl), (Nat.le_of_ble_eq_true rfl), (Nat.le_of_ble_eq_true rfl), (Nat.le_of_ble_eq_true rfl)⟩, zbt (by decide +kernel), trivial, trivial⟩
  · exact zfin_i rfl rfl rfl
set_option maxRecDepth 100000 in
set_option maxHeartbeats 4000000 in
theorem zq403 (zn : Bool) (d : Nat) (a1 : Int32) (ha1l : 1 ≤ a1.toInt) (ha1h : a1.toInt ≤ 2147483647) : z_sem zn (d + 2) 130 [.ref 0, .int a1, .int (Int32.ofInt 1)] zh40 (some (.int (Int32.ofInt (-1)))) zh40 := by
  refine ⟨zu_X11_blind, Nat.le_of_ble_eq_true rfl, Nat.le_of_ble_eq_true rfl, [zo, zo, zc (some (.int (Int32.ofInt 0))) zh40, zt, zo], _, _, rfl, ?_, ?_⟩
  · exact ⟨trivial, trivial, ⟨⟨(Nat.le_of_ble_eq_true rfl), (Nat.le_of_ble_eq_true rfl)⟩, zq141 zn (d + 0) a1 ha1l ha1h, (Nat.le_of_ble_eq_true rfl), (Nat.le_of_ble_eq_true rfl), (Nat.le_of_ble_eq_true rfl), (Nat.le_of_ble_eq_true rfl), (Nat.le_of_ble_eq_true rfl)⟩, zbt (by decide +kernel), trivial, trivial⟩
  · exact zfin_i rfl rfl rfl
set_option maxRecDepth 100000 in
set_option maxHeartbeats 4000000 in
theorem zq404 (zn : Bool) (d : Nat) (a1 : Int32) (ha1l : 1 ≤ a1.toInt) (ha1h : a1.toInt ≤ 2147483647) : z_sem zn (d + 2) 191 [.ref 79, .int a1, .int (Int32.ofInt 1)] zh40 (some (.int (Int32.ofInt (-1)))) zh42 := by
  refine ⟨zu_X12_blind, Nat.le_of_ble_eq_true rfl, Nat.le_of_ble_eq_true rfl, [zo, zo, zo, zo, zo, zo, zo, zo, zo, zo, zo, zo, zo, zc (some (.int (Int32.ofInt 0))) zh42, zt, zo], _, _, rfl, ?_, ?_⟩
  · exact ⟨trivial, trivial, ⟨(Nat.le_of_ble_eq_true rfl), rfl, rfl⟩, trivial, trivial, trivial, trivial, trivial, trivial, trivial, trivial, trivial, trivial, ⟨⟨(Nat.le_of_ble_eq_true rfl), (Nat.le_of_ble_eq_true rfl)⟩, zq143 zn (d + 0) a1 ha1l ha1h, (Nat.le_of_ble_eq_true rfl), (Nat.le_of_ble_eq_true rfl), (Nat.le_of_ble_eq_true rfl), (Nat.le_of_ble_eq_true rfl), (Nat.le_of_ble_eq_true rfl)⟩, zbt (by decide +kernel), trivial, trivial⟩
  · exact zfin_i rfl rfl rfl
set_option maxRecDepth 100000 in
set_option maxHeartbeats 4000000 in
theorem zq405 (zn : Bool) (d : Nat) (a1 : Int32) (ha1l : -2147483648 ≤ a1.toInt) (ha1h : a1.toInt ≤ -1) : z_sem zn (d + 2) 130 [.ref 0, .int a1, .int (Int32.ofInt 0)] zh40 (some (.int (Int32.ofInt (-1)))) zh40 := by
  refine ⟨zu_X11_blind, Nat.le_of_ble_eq_true rfl, Nat.le_of_ble_eq_true rfl, [zo, zo, zc (some (.int (Int32.ofInt 0))) zh40, zt, zo], _, _, rfl, ?_, ?_⟩
  · exact ⟨trivial, trivial, ⟨⟨(Nat.le_of_ble_eq_true rfl), (Nat.le_of_ble_eq_true rfl)⟩, zq149 zn (d + 0) a1 ha1l ha1h, (Nat.le_of_ble_eq_true rfl), (Nat.le_of_ble_eq_true rfl), (Nat.le_of_ble_eq_true rfl), (Nat.le_of_ble_eq_true rfl), (Nat.le_of_ble_eq_true rfl)⟩, zbt (by decide +kernel), trivial, trivial⟩
  · exact zfin_i rfl rfl rfl
set_option maxRecDepth 100000 in
set_option maxHeartbeats 4000000 in
theorem zq406 (zn : Bool) (d : Nat) (a1 : Int32) (ha1l : -2147483648 ≤ a1.toInt) (ha1h : a1.toInt ≤ -1) : z_sem zn (d + 2) 191 [.ref 79, .int a1, .int (Int32.ofInt 0)] zh40 (some (.int (Int32.ofInt (-1)))) zh42 := by
  refine ⟨zu_X12_blind, Nat.le_of_ble_eq_true rfl, Nat.le_of_ble_eq_true rfl, [zo, zo, zo, zo, zo, zo, zo, zo, zo, zo, zo, zo, zo, zc (some (.int (Int32.ofInt 0))) zh42, zt, zo], _, _, rfl, ?_, ?_⟩
  · exact ⟨trivial, trivial, ⟨(Nat.le_of_ble_eq_true rfl), rfl, rfl⟩, trivial, trivial, trivial, trivial, trivial, trivial, trivial, trivial, trivial, trivial, ⟨⟨(Nat.le_of_ble_eq_true rfl), (Nat.le_of_ble_eq_true rfl)⟩, zq151 zn (d + 0) a1 ha1l ha1h, (Nat.le_of_ble_eq_true rfl), (Nat.le_of_ble_eq_true rfl), (Nat.le_of_ble_eq_true rfl), (Nat.le_of_ble_eq_true rfl), (Nat.le_of_ble_eq_true rfl)⟩, zbt (by decide +kernel), trivial, trivial⟩
  · exact zfin_i rfl rfl rfl
set_option maxRecDepth 100000 in
set_option maxHeartbeats 4000000 in
theorem zq407 (zn : Bool) (d : Nat) (a1 : Int32) (ha1l : 0 ≤ a1.toInt) (ha1h : a1.toInt ≤ 0) : z_sem zn (d + 2) 130 [.ref 0, .int a1, .int (Int32.ofInt 0)] zh40 (some (.int (Int32.ofInt (-1)))) zh40 := by
  refine ⟨zu_X11_blind, Nat.le_of_ble_eq_true rfl, Nat.le_of_ble_eq_true rfl, [zo, zo, zc (some (.int (Int32.ofInt 0))) zh40, zt, zo], _, _, rfl, ?_, ?_⟩
  · exact ⟨trivial, trivial, ⟨⟨(Nat.le_of_ble_eq_true rfl), (Nat.le_of_ble_eq_true rfl)⟩, zq145 zn (d + 0) a1 ha1l ha1h, (Nat.le_of_ble_eq_true rfl), (Nat.le_of_ble_eq_true rfl), (Nat.le_of_ble_eq_true rfl), (Nat.le_of_ble_eq_true rfl), (Nat.le_of_ble_eq_true rfl)⟩, zbt (by decide +kernel), trivial, trivial⟩
  · exact zfin_i rfl rfl rfl
set_option maxRecDepth 100000 in
set_option maxHeartbeats 4000000 in
theorem zq408 (zn : Bool) (d : Nat) (a1 : Int32) (ha1l : 0 ≤ a1.toInt) (ha1h : a1.toInt ≤ 0) : z_sem zn (d + 2) 191 [.ref 79, .int a1, .int (Int32.ofInt 0)] zh40 (some (.int (Int32.ofInt (-1)))) zh42 := by
  refine ⟨zu_X12_blind, Nat.le_of_ble_eq_true rfl, Nat.le_of_ble_eq_true rfl, [zo, zo, zo, zo, zo, zo, zo, zo, zo, zo, zo, zo, zo, zc (some (.int (Int32.ofInt 0))) zh42, zt, zo], _, _, rfl, ?_, ?_⟩
  · exact ⟨trivial, trivial, ⟨(Nat.le_of_ble_eq_true rfl), rfl, rfl⟩, trivial, trivial, trivial, trivial, trivial, trivial, trivial, trivial, trivial, trivial, ⟨⟨(Nat.le_of_ble_eq_true rfl), (Nat.le_of_ble_eq_true rfl)⟩, zq147 zn (d + 0) a1 ha1l ha1h, (Nat.le_of_ble_eq_true rfl), (Nat.le_of_ble_eq_true rfl), (Nat.le_of_ble_eq_true rfl), (Nat.le_of_ble_eq_true rfl), (Nat.le_of_ble_eq_true rfl)⟩, zbt (by decide +kernel), trivial, trivial⟩
  · exact zfin_i rfl rfl rfl
set_option maxRecDepth 100000 in
set_option maxHeartbeats 4000000 in
theorem zq409 (zn : Bool) (d : Nat) (a1 : Int32) (ha1l : 1 ≤ a1.toInt) (ha1h : a1.toInt ≤ 2147483647) : z_sem zn (d + 2) 130 [.ref 0, .int a1, .int (Int32.ofInt 0)] zh40 (some (.int (Int32.ofInt (-1)))) zh40 := by
  refine ⟨zu_X11_blind, Nat.le_of_ble_eq_true rfl, Nat.le_of_ble_eq_true rfl, [zo, zo, zc (some (.int (Int32.ofInt 0))) zh40, zt, zo], _, _, rfl, ?_, ?_⟩
  · exact ⟨trivial, trivial, ⟨⟨(Nat.le_of_ble_eq_true rfl), (Nat.le_of_ble_eq_true rfl)⟩, zq141 zn (d + 0) a1 ha1l ha1h, (Nat.le_of_ble_eq_true rfl), (Nat.le_of_ble_eq_true rfl), (Nat.le_of_ble_eq_true rfl), (Nat.le_of_ble_eq_true rfl), (Nat.le_of_ble_eq_true rfl)⟩, zbt (by decide +kernel), trivial, trivial⟩
  · exact zfin_i rfl rfl rfl
set_option maxRecDepth 100000 in
set_option maxHeartbeats 4000000 in
theorem zq410 (zn : Bool) (d : Nat) (a1 : Int32) (ha1l : 1 ≤ a1.toInt) (ha1h : a1.toInt ≤ 2147483647) : z_sem zn (d + 2) 191 [.ref 79, .int a1, .int (Int32.ofInt 0)] zh40 (some (.int (Int32.ofInt (-1)))) zh42 := by
  refine ⟨zu_X12_blind, Nat.le_of_ble_eq_true rfl, Nat.le_of_ble_eq_true rfl, [zo, zo, zo, zo, zo, zo, zo, zo, zo, zo, zo, zo, zo, zc (some (.int (Int32.ofInt 0))) zh42, zt, zo], _, _, rfl, ?_, ?_⟩
  · exact ⟨trivial, trivial, ⟨(Nat.le_of_ble_eq_true rfl), rfl, rfl⟩, trivial, trivial, trivial, trivial, trivial, trivial, trivial, trivial, trivial, trivial, ⟨⟨(Nat.le_of_ble_eq_true rfl), (Nat.le_of_ble_eq_true rfl)⟩, zq143 zn (d + 0) a1 ha1l ha1h, (Nat.le_of_ble_eq_true rfl), (Nat.le_of_ble_eq_true rfl), (Nat.le_of_ble_eq_true rfl), (Nat.le_of_ble_eq_true rfl), (Nat.le_of_ble_eq_true rfl)⟩, zbt (by decide +kernel), trivial, trivial⟩
  · exact zfin_i rfl rfl rfl
set_option maxRecDepth 100000 in
set_option maxHeartbeats 4000000 in
theorem zq411 (zn : Bool) (d : Nat) (a1 : Int32) (ha1l : -2147483648 ≤ a1.toInt) (ha1h : a1.toInt ≤ -1) : z_sem zn (d + 3) 165 [.ref 0, .int a1, .int (Int32.ofInt 1)] zh40 (some (.int (Int32.ofInt (-1)))) zh40 := by
  refine ⟨zu_X11_paint, Nat.le_of_ble_eq_true rfl, Nat.le_of_ble_eq_true rfl, [zo, zo, zc (some (.int (Int32.ofInt 0))) zh40, zt, zo], _, _, rfl, ?_, ?_⟩
  · exact ⟨trivial, trivial, ⟨⟨(Nat.le_of_ble_eq_true rfl), (Nat.le_of_ble_eq_true rfl)⟩, zq232 zn (d + 0) a1 ha1l ha1h, (Nat.le_of_ble_eq_true rfl), (Nat.le_of_ble_eq_true rfl), (Nat.le_of_ble_eq_true rfl), (Nat.le_of_ble_eq_true rfl), (Nat.le_of_ble_eq_true rfl)⟩, zbt (by decide +kernel), trivial, trivial⟩
  · exact zfin_i rfl rfl rfl
set_option maxRecDepth 100000 in
set_option maxHeartbeats 4000000 in
theorem zq412 (zn : Bool) (d : Nat) (a1 : Int32) (ha1l : -2147483648 ≤ a1.toInt) (ha1h : a1.toInt ≤ -1) : z_sem zn (d + 3) 260 [.ref 79, .int a1, .int (Int32.ofInt 1)] zh40 (some (.int (Int32.ofInt (-1)))) zh42 := by
  refine ⟨zu_X12_paint, Nat.le_of_ble_eq_true rfl, Nat.le_of_ble_eq_true rfl, [zo, zo, zo, zo, zo, zc (some (.int (Int32.ofInt 0))) zh42, zt, zo], _, _, rfl, ?_, ?_⟩
  · exact ⟨trivial, trivial, ⟨(Nat.le_of_ble_eq_true rfl), rfl, rfl⟩, trivial, trivial, ⟨⟨(Nat.le_of_ble_eq_true rfl), (Nat.le_of_ble_eq_true rfl)⟩, zq235 zn (d + 0) a1 ha1l ha1h, (Nat.le_of_ble_eq_true rfl), (Nat.le_of_ble_eq_true rfl), (Nat.le_of_ble_eq_true rfl), (Nat.le_of_ble_eq_true rfl), (Nat.le_of_ble_eq_true rfl)⟩, zbt (by decide +kernel), trivial, trivial⟩
  · exact zfin_i rfl rfl rfl
set_option maxRecDepth 100000 in
set_option maxHeartbeats 4000000 in
theorem zq413 (zn : Bool) (d : Nat) (a1 : Int32) (ha1l : 0 ≤ a1.toInt) (ha1h : a1.toInt ≤ 0) : z_sem zn (d + 3) 165 [.ref 0, .int a1, .int (Int32.ofInt 1)] zh40 (some (.int (Int32.ofInt (-1)))) zh40 := by
  refine ⟨zu_X11_paint, Nat.le_of_ble_eq_true rfl, Nat.le_of_ble_eq_true rfl, [zo, zo, zc (some (.int (Int32.ofInt 0))) zh40, zt, zo], _, _, rfl, ?_, ?_⟩
  · exact ⟨trivial, trivial, ⟨⟨(Nat.le_of_ble_eq_true rfl), (Nat.le_of_ble_eq_true rfl)⟩, zq226 zn (d + 0) a1 ha1l ha1h, (Nat.le_of_ble_eq_true rfl), (Nat.le_of_ble_eq_true rfl), (Nat.le_of_ble_eq_true rfl), (Nat.le_of_ble_eq_true rfl), (Nat.le_of_ble_eq_true rfl)⟩, zbt (by decide +kernel), trivial, trivial⟩
  · exact zfin_i rfl rfl rfl
set_option maxRecDepth 100000 in
set_option maxHeartbeats 4000000 in
theorem zq414 (zn : Bool) (d : Nat) (a1 : Int32) (ha1l : 0 ≤ a1.toInt) (ha1h : a1.toInt ≤ 0) : z_sem zn (d + 3) 260 [.ref 79, .int a1, .int (Int32.ofInt 1)] zh40 (some (.int (Int32.ofInt (-1)))) zh42 := by
  refine ⟨zu_X12_paint, Nat.le_of_ble_eq_true rfl, Nat.le_of_ble_eq_true rfl, [zo, zo, zo, zo, zo, zc (some (.int (Int32.ofInt 0))) zh42, zt, zo], _, _, rfl, ?_, ?_⟩
  · exact ⟨trivial, trivial, ⟨(Nat.le_of_ble_eq_true rfl), rfl, rfl⟩, trivial, trivial, ⟨⟨(Nat.le_of_ble_eq_true rfl), (Nat.le_of_ble_eq_true rfl)⟩, zq229 zn (d + 0) a1 ha1l ha1h, (Nat.le_of_ble_eq_true rfl), (Nat.le_of_ble_eq_true rfl), (Nat.le_of_ble_eq_true rfl), (Nat.le_of_ble_eq_true rfl), (Nat.le_of_ble_eq_true rfl)⟩, zbt (by decide +kernel), trivial, trivial⟩
  · exact zfin_i rfl rfl rfl
set_option maxRecDepth 100000 in
set_option maxHeartbeats 4000000 in
theorem zq415 (zn : Bool) (d : Nat) (a1 : Int32) (ha1l : 1 ≤ a1.toInt) (ha1h : a1.toInt ≤ 2147483647) : z_sem zn (d + 3) 165 [.ref 0, .int a1, .int (Int32.ofInt 1)] zh40 (some (.int (Int32.ofInt (-1)))) zh40 := by
  refine ⟨zu_X11_paint, Nat.le_of_ble_eq_true rfl, Nat.le_of_ble_eq_true rfl, [zo, zo, zc (some (.int (Int32.ofInt 0))) zh40, zt, zo], _, _, rfl, ?_, ?_⟩
  · exact ⟨trivial, trivial, ⟨⟨(Nat.le_of_ble_eq_true rfl), (Nat.le_of_ble_eq_true rfl)⟩, zq220 zn (d + 0) a1 ha1l ha1h, (Nat.le_of_ble_eq_true rfl), (Nat.le_of_ble_eq_true rfl), (Nat.le_of_ble_eq_true rfl), (Nat.le_of_ble_eq_true rfl), (Nat.le_of_ble_eq_true rfl)⟩, zbt (by decide +kernel), trivial, trivial⟩
  · exact zfin_i rfl rfl rfl
set_option maxRecDepth 100000 in
set_option maxHeartbeats 4000000 in
theorem zq416 (zn : Bool) (d : Nat) (a1 : Int32) (ha1l : 1 ≤ a1.toInt) (ha1h : a1.toInt ≤ 2147483647) : z_sem zn (d + 3) 260 [.ref 79, .int a1, .int (Int32.ofInt 1)] zh40 (some (.int (Int32.ofInt (-1)))) zh42 := by
  refine ⟨zu_X12_paint, Nat.le_of_ble_eq_true rfl, Nat.le_of_ble_eq_true rfl, [zo, zo, zo, zo, zo, zc (some (.int (Int32.ofInt 0))) zh42, zt, zo], _, _, rfl, ?_, ?_⟩
  · exact ⟨trivial, trivial, ⟨(Nat.le_of_ble_eq_true rfl), rfl, rfl⟩, trivial, trivial, ⟨⟨(Nat.le_of_ble_eq_true rfl), (Nat.le_of_ble_eq_true rfl)⟩, zq223 zn (d + 0) a1 ha1l ha1h, (Nat.le_of_ble_eq_true rfl), (Nat.le_of_ble_eq_true rfl), (Nat.le_of_ble_eq_true rfl), (Nat.le_of_ble_eq_true rfl), (Nat.le_of_ble_eq_true rfl)⟩, zbt (by decide +kernel), trivial, trivial⟩
  · exact zfin_i rfl rfl rfl
set_option maxRecDepth 100000 in
set_option maxHeartbeats 4000000 in
theorem zq417 (zn : Bool) (d : Nat) (a1 : Int32) (ha1l : -2147483648 ≤ a1.toInt) (ha1h : a1.toInt ≤ -1) : z_sem zn (d + 3) 165 [.ref 0, .int a1, .int (Int32.ofInt 0)] zh40 (some (.int (Int32.ofInt (-1)))) zh40 := by
  refine ⟨zu_X11_paint, Nat.le_of_ble_eq_true rfl, Nat.le_of_ble_eq_true rfl, [zo, zo, zc (some (.int (Int32.ofInt 0))) zh40, zt, zo], _, _, rfl, ?_, ?_⟩
  · exact ⟨trivial, trivial, ⟨⟨(Nat.le_of_ble_eq_true rfl), (Nat.le_of_ble_eq_true rfl)⟩, zq232 zn (d + 0) a1 ha1l ha1h, (Nat.le_of_ble_eq_true rfl), (Nat.le_of_ble_eq_true rfl), (Nat.le_of_ble_eq_true rfl), (Nat.le_of_ble_eq_true rfl), (Nat.le_of_ble_eq_true rfl)⟩, zbt (by decide +kernel), trivial, trivial⟩
  · exact zfin_i rfl rfl rfl
set_option maxRecDepth 100000 in
set_option maxHeartbeats 4000000 in
theorem zq418 (zn : Bool) (d : Nat) (a1 : Int32) (ha1l : -2147483648 ≤ a1.toInt) (ha1h : a1.toInt ≤ -1) : z_sem zn (d + 3) 260 [.ref 79, .int a1, .int (Int32.ofInt 0)] zh40 (some (.int (Int32.ofInt (-1)))) zh42 := by
  refine ⟨zu_X12_paint, Nat.le_of_ble_eq_true rfl, Nat.le_of_ble_eq_true rfl, [zo, zo, zo, zo, zo, zc (some (.int (Int32.ofInt 0))) zh42, zt, zo], _, _, rfl, ?_, ?_⟩
  · exact ⟨trivial, trivial, ⟨(Nat.le_of_ble_eq_true rfl), rfl, rfl⟩, trivial, trivial, ⟨⟨(Nat.le_of_ble_eq_true rfl), (Nat.le_of_ble_eq_true rfl)⟩, zq235 zn (d + 0) a1 ha1l ha1h, (Nat.le_of_ble_eq_true rfl), (Nat.le_of_ble_eq_true rfl), (Nat.le_of_ble_eq_true rfl), (Nat.le_of_ble_eq_true rfl), (Nat.le_of_ble_eq_true rfl)⟩, zbt (by decide +kernel), trivial, trivial⟩
  · exact zfin_i rfl rfl rfl
set_option maxRecDepth 100000 in
set_option maxHeartbeats 4000000 in
theorem zq419 (zn : Bool) (d : Nat) (a1 : Int32) (ha1l : 0 ≤ a1.toInt) (ha1h : a1.toInt ≤ 0) : z_sem zn (d + 3) 165 [.ref 0, .int a1, .int (Int32.ofInt 0)] zh40 (some (.int (Int32.ofInt (-1)))) zh40 := by
  refine ⟨zu_X11_paint, Nat.le_of_ble_eq_true rfl, Nat.le_of_ble_eq_true rfl, [zo, zo, zc (some (.int (Int32.ofInt 0))) zh40, zt, zo], _, _, rfl, ?_, ?_⟩
  · exact ⟨trivial, trivial, ⟨⟨(Nat.le_of_ble_eq_true rfl), (Nat.le_of_ble_eq_true rfl)⟩, zq226 zn (d + 0) a1 ha1l ha1h, (Nat.le_of_ble_eq_true rfl), (Nat.le_of_ble_eq_true rfl), (Nat.le_of_ble_eq_true rfl), (Nat.le_of_ble_eq_true rfl), (Nat.le_of_ble_eq_true rfl)⟩, zbt (by decide +kernel), trivial, trivial⟩
  · exact zfin_i rfl rfl rfl
set_option maxRecDepth 100000 in
set_option maxHeartbeats 4000000 in
theorem zq420 (zn : Bool) (d : Nat) (a1 : Int32) (ha1l : 0 ≤ a1.toInt) (ha1h : a1.toInt ≤ 0) : z_sem zn (d + 3) 260 [.ref 79, .int a1, .int (Int32.ofInt 0)] zh40 (some (.int (Int32.ofInt (-1)))) zh42 := by
  refine ⟨zu_X12_paint, Nat.le_of_ble_eq_true rfl, Nat.le_of_ble_eq_true rfl, [zo, zo, zo, zo, zo, zc (some (.int (Int32.ofInt 0))) zh42, zt, zo], _, _, rfl, ?_, ?_⟩
  · exact ⟨trivial, trivial, ⟨(Nat.le_of_ble_eq_true rfl), rfl, rfl⟩, trivial, trivial, ⟨⟨(Nat.le_of_ble_eq_true rfl), (Nat.le_of_ble_eq_true rfl)⟩, zq229 zn (d + 0) a1 ha1l ha1h, (Nat.le_of_ble_eq_true rfl), (Nat.le_of_ble_eq_true rfl), (Nat.le_of_ble_eq_true rfl), (Nat.le_of_ble_eq_true rfl), (Nat.le_of_ble_eq_true rfl)⟩, zbt (by decide +kernel), trivial, trivial⟩
  · exact zfin_i rfl rfl rfl
set_option maxRecDepth 100000 in
set_option maxHeartbeats 4000000 in
theorem zq421 (zn : Bool) (d : Nat) (a1 : Int32) (ha1l : 1 ≤ a1.toInt) (ha1h : a1.toInt ≤ 2147483647) : z_sem zn (d + 3) 165 [.ref 0, .int a1, .int (Int32.ofInt 0)] zh40 (some (.int (Int32.ofInt (-1)))) zh40 := by
  refine ⟨zu_X11_paint, Nat.le_of_ble_eq_true rfl, Nat.le_of_ble_eq_true rfl, [zo, zo, zc (some (.int (Int32.ofInt 0))) zh40, zt, zo], _, _, rfl, ?_, ?_⟩
  · exact ⟨trivial, trivial, ⟨⟨(Nat.le_of_ble_eq_true rfl), (Nat.le_of_ble_eq_true rfl)⟩, zq220 zn (d + 0) a1 ha1l ha1h, (Nat.le_of_ble_eq_true rfl), (Nat.le_of_ble_eq_true rfl), (Nat.le_of_ble_eq_true rfl), (Nat.le_of_ble_eq_true rfl), (Nat.le_of_ble_eq_true rfl)⟩, zbt (by decide +kernel), trivial, trivial⟩
  · exact zfin_i rfl rfl rfl
set_option maxRecDepth 100000 in
set_option maxHeartbeats 4000000 in
theorem zq422 (zn : Bool) (d : Nat) (a1 : Int32) (ha1l : 1 ≤ a1.toInt) (ha1h : a1.toInt ≤ 2147483647) : z_sem zn (d + 3) 260 [.ref 79, .int a1, .int (Int32.ofInt 0)] zh40 (some (.int (Int32.ofInt (-1)))) zh42 := by
  refine ⟨zu_X12_paint, Nat.le_of_ble_eq_true rfl, Nat.le_of_ble_eq_true rfl, [zo, zo, zo, zo, zo, zc (some (.int (Int32.ofInt 0))) zh42, zt, zo], _, _, rfl, ?_, ?_⟩
  · exact ⟨trivial, trivial, ⟨(Nat.le_of_ble_eq_true rfl), rfl, rfl⟩, trivial, trivial, ⟨⟨(Nat.le_of_ble_eq_true rfl), (Nat.le_of_ble_eq_true rfl)⟩, zq223 zn (d + 0) a1 ha1l ha1h, (Nat.le_of_ble_eq_true rfl), (Nat.le_of_ble_eq_true rfl), (Nat.le_of_ble_eq_true rfl), (Nat.le_of_ble_eq_true rfl), (Nat.le_of_ble_eq_true rfl)⟩, zbt (by decide +kernel), trivial, trivial⟩
  · exact zfin_i rfl rfl rfl
