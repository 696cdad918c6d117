/-! texts, by program (wip/tools/gw5): X12_starts_80H, X12_readHouse_F -/
set_option maxRecDepth 100000 in
set_option maxHeartbeats 4000000 in
theorem S_X12_starts_80H (zn : Bool) (d : Nat) {c : Nat × Nat} {mC : zM} {t9 : Int} {e9 : Nat} (hN : 107 ≤ c.1) (hC : c.1 < z_RO) (fr : Int) (many : Int) (m : zM) (hIm : zJ mC t9 e9 m) (r_fr : -2147483648 ≤ fr ∧ fr ≤ 2147483647) (r_many : -2147483648 ≤ many ∧ many ≤ 2147483647) (hf : fr = 0) (hm9 : many = mC 79 6) : zCv zn (d + 1) 280 [.ref 79, .ref 80, .int (Int32.ofInt fr), .int (Int32.ofInt many)] c m (fun (m1 : zM) => zJ mC t9 e9 m1 ∧ (m1 79 10 = 0) ∧ (m1 79 11 = -1) ∧ (m1 79 12 = m 79 12) ∧ (m1 79 5 = 80 ∧ m1 79 8 = 0 ∧ m1 79 9 = mC 79 6) ∧ zY m m1) := by
  refine zCv.of zu_X12_starts hC (Nat.le_of_ble_eq_true rfl) ?_
  show zW zn (d + 0) 280 c (0, [(some (.ref 79)), (some (.ref 80)), (some (.int (Int32.ofInt fr))), (some (.int (Int32.ofInt many)))], [], zk c m) (fun v h1 => ∃ (m1 : zM), v = none ∧ h1 = zk c m1 ∧ zJ mC t9 e9 m1 ∧ (m1 79 10 = 0) ∧ (m1 79 11 = -1) ∧ (m1 79 12 = m 79 12) ∧ (m1 79 5 = 80 ∧ m1 79 8 = 0 ∧ m1 79 9 = mC 79 6) ∧ zY m m1)
  have f1 : (80 : Int) ≤ m 79 5 ∧ m 79 5 ≤ 81 := hIm.1 79 5
  have f2 : (0 : Int) ≤ m 79 8 ∧ m 79 8 ≤ 720 := hIm.1 79 8
  have f3 : (0 : Int) ≤ m 79 9 ∧ m 79 9 ≤ 240 := hIm.1 79 9
  have f4 : (0 : Int) ≤ m 79 10 ∧ m 79 10 ≤ 241 := hIm.1 79 10
  have f5 : (-2147483648 : Int) ≤ m 79 11 ∧ m 79 11 ≤ 2147483647 := hIm.1 79 11
  have f6 : (0 : Int) ≤ m 79 12 ∧ m 79 12 ≤ 6 := hIm.1 79 12
  have q7 := zn_m hIm
  obtain ⟨m8, hm8⟩ : ∃ q, q = zm_up m 79 5 (80 : Int) := ⟨_, rfl⟩
  have em8 : m8 79 5 = (80 : Int) := by rw [hm8]; exact zm_eq
  have f9 : m8 79 8 = m 79 8 := by rw [hm8]; exact zm_ne (Or.inr (by decide))
  have f10 : m8 79 9 = m 79 9 := by rw [hm8]; exact zm_ne (Or.inr (by decide))
  have f11 : m8 79 10 = m 79 10 := by rw [hm8]; exact zm_ne (Or.inr (by decide))
  have f12 : m8 79 11 = m 79 11 := by rw [hm8]; exact zm_ne (Or.inr (by decide))
  have f13 : m8 79 12 = m 79 12 := by rw [hm8]; exact zm_ne (Or.inr (by decide))
  have tk14 : zY m m8 := by rw [hm8]; exact zY_up zY_rf (zYs_79 (by decide))
  refine zW.step (st1 := (5, [(some (.ref 79)), (some (.ref 80)), (some (.int (Int32.ofInt fr))), (some (.int (Int32.ofInt many)))], [], z_hup (zk c m) 79 (.inr (12, (.int (Int32.ofInt (m 79 0)) :: .ref 80 :: .ref 81 :: .ref 82 :: .ref 83 :: .ref 80 :: .int (Int32.ofInt (m 79 6)) :: .int (Int32.ofInt (m 79 7)) :: .int (Int32.ofInt (m 79 8)) :: .int (Int32.ofInt (m 79 9)) :: .int (Int32.ofInt (m 79 10)) :: .int (Int32.ofInt (m 79 11)) :: .int (Int32.ofInt (m 79 12)) :: .int (Int32.ofInt (m 79 13)) :: .int (Int32.ofInt (m 79 14)) :: .ref (z_RO + 5) :: .ref (z_RO + 3) :: .int (Int32.ofInt (m 79 17)) :: .ref 84 :: .ref 85 :: .ref 86 :: .ref 87 :: .ref 88 :: .ref 89 :: .ref 90 :: .ref 91 :: .int (Int32.ofInt (m 79 26)) :: .int (Int32.ofInt (m 79 27)) :: .int (Int32.ofInt (m 79 28)) :: .int (Int32.ofInt (m 79 29)) :: .int (Int32.ofInt (m 79 30)) :: .ref 92 :: .ref 93 :: .int (Int32.ofInt (m 79 33)) :: .int (Int32.ofInt (m 79 34)) :: .ref 94 :: .ref 95 :: .int (Int32.ofInt (m 79 37)) :: .int (Int32.ofInt (m 79 38)) :: .int (Int32.ofInt (m 79 39)) :: .int (Int32.ofInt (m 79 40)) :: .int (Int32.ofInt (m 79 41)) :: .int (Int32.ofInt (m 79 42)) :: .ref 96 :: .ref 97 :: .ref 98 :: .ref 99 :: .ref 100 :: .int (Int32.ofInt (m 79 48)) :: .int (Int32.ofInt (m 79 49)) :: .long (Int64.ofInt (m 79 50)) :: .ref 101 :: .ref 102 :: .int (Int32.ofInt (m 79 53)) :: .ref 103 :: .ref 104 :: .ref 105 :: .int (Int32.ofInt (m 79 57)) :: []))))) (st2 := (5, [(some (.ref 79)), (some (.ref 80)), (some (.int (Int32.ofInt fr))), (some (.int (Int32.ofInt many)))], [], zk c m8)) ⟨[zo, zo, zo], _, rfl, ⟨trivial, trivial, ⟨(Nat.lt_of_lt_of_le (Nat.le_of_ble_eq_true rfl) hN), rfl, rfl⟩, trivial⟩⟩ (z_steq rfl rfl ((zk_up c m 79 5 (80 : Int) _ ((congrArg (fun q => (.inr (12, (.int (Int32.ofInt (m 79 0)) :: .ref 80 :: .ref 81 :: .ref 82 :: .ref 83 :: q :: .int (Int32.ofInt (m 79 6)) :: .int (Int32.ofInt (m 79 7)) :: .int (Int32.ofInt (m 79 8)) :: .int (Int32.ofInt (m 79 9)) :: .int (Int32.ofInt (m 79 10)) :: .int (Int32.ofInt (m 79 11)) :: .int (Int32.ofInt (m 79 12)) :: .int (Int32.ofInt (m 79 13)) :: .int (Int32.ofInt (m 79 14)) :: .ref (z_RO + 5) :: .ref (z_RO + 3) :: .int (Int32.ofInt (m 79 17)) :: .ref 84 :: .ref 85 :: .ref 86 :: .ref 87 :: .ref 88 :: .ref 89 :: .ref 90 :: .ref 91 :: .int (Int32.ofInt (m 79 26)) :: .int (Int32.ofInt (m 79 27)) :: .int (Int32.ofInt (m 79 28)) :: .int (Int32.ofInt (m 79 29)) :: .int (Int32.ofInt (m 79 30)) :: .ref 92 :: .ref 93 :: .int (Int32.ofInt (m 79 33)) :: .int (Int32.ofInt (m 79 34)) :: .ref 94 :: .ref 95 :: .int (Int32.ofInt (m 79 37)) :: .int (Int32.ofInt (m 79 38)) :: .int (Int32.ofInt (m 79 39)) :: .int (Int32.ofInt (m 79 40)) :: .int (Int32.ofInt (m 79 41)) :: .int (Int32.ofInt (m 79 42)) :: .ref 96 :: .ref 97 :: .ref 98 :: .ref 99 :: .ref 100 :: .int (Int32.ofInt (m 79 48)) :: .int (Int32.ofInt (m 79 49)) :: .long (Int64.ofInt (m 79 50)) :: .ref 101 :: .ref 102 :: .int (Int32.ofInt (m 79 53)) :: .ref 103 :: .ref 104 :: .ref 105 :: .int (Int32.ofInt (m 79 57)) :: [])) : z_E)) (zm_rf_1 (x := (80 : Int)) (T := 80) rfl (by decide)).symm).trans rfl)).trans (by rw [hm8]))) ?_
  obtain ⟨m15, hm15⟩ : ∃ q, q = zm_up m8 79 8 fr := ⟨_, rfl⟩
  have hIm15 := zJ_upTB hIm hm8 hm15 (by omega)
  have em15 : m15 79 8 = fr := by rw [hm15]; exact zm_eq
  have f16 : m15 79 5 = m8 79 5 := by rw [hm15]; exact zm_ne (Or.inr (by decide))
  have f17 : m15 79 9 = m8 79 9 := by rw [hm15]; exact zm_ne (Or.inr (by decide))
  have f18 : m15 79 10 = m8 79 10 := by rw [hm15]; exact zm_ne (Or.inr (by decide))
  have f19 : m15 79 11 = m8 79 11 := by rw [hm15]; exact zm_ne (Or.inr (by decide))
  have f20 : m15 79 12 = m8 79 12 := by rw [hm15]; exact zm_ne (Or.inr (by decide))
  have tk21 : zY m m15 := by rw [hm15]; exact zY_up tk14 (zYs_79 (by decide))
  clear tk14
  refine zW.step (st1 := (10, [(some (.ref 79)), (some (.ref 80)), (some (.int (Int32.ofInt fr))), (some (.int (Int32.ofInt many)))], [], z_hup (zk c m8) 79 (.inr (12, (.int (Int32.ofInt (m8 79 0)) :: .ref 80 :: .ref 81 :: .ref 82 :: .ref 83 :: zm_rf (m8 79 5) :: .int (Int32.ofInt (m8 79 6)) :: .int (Int32.ofInt (m8 79 7)) :: .int (Int32.ofInt fr) :: .int (Int32.ofInt (m8 79 9)) :: .int (Int32.ofInt (m8 79 10)) :: .int (Int32.ofInt (m8 79 11)) :: .int (Int32.ofInt (m8 79 12)) :: .int (Int32.ofInt (m8 79 13)) :: .int (Int32.ofInt (m8 79 14)) :: .ref (z_RO + 5) :: .ref (z_RO + 3) :: .int (Int32.ofInt (m8 79 17)) :: .ref 84 :: .ref 85 :: .ref 86 :: .ref 87 :: .ref 88 :: .ref 89 :: .ref 90 :: .ref 91 :: .int (Int32.ofInt (m8 79 26)) :: .int (Int32.ofInt (m8 79 27)) :: .int (Int32.ofInt (m8 79 28)) :: .int (Int32.ofInt (m8 79 29)) :: .int (Int32.ofInt (m8 79 30)) :: .ref 92 :: .ref 93 :: .int (Int32.ofInt (m8 79 33)) :: .int (Int32.ofInt (m8 79 34)) :: .ref 94 :: .ref 95 :: .int (Int32.ofInt (m8 79 37)) :: .int (Int32.ofInt (m8 79 38)) :: .int (Int32.ofInt (m8 79 39)) :: .int (Int32.ofInt (m8 79 40)) :: .int (Int32.ofInt (m8 79 41)) :: .int (Int32.ofInt (m8 79 42)) :: .ref 96 :: .ref 97 :: .ref 98 :: .ref 99 :: .ref 100 :: .int (Int32.ofInt (m8 79 48)) :: .int (Int32.ofInt (m8 79 49)) :: .long (Int64.ofInt (m8 79 50)) :: .ref 101 :: .ref 102 :: .int (Int32.ofInt (m8 79 53)) :: .ref 103 :: .ref 104 :: .ref 105 :: .int (Int32.ofInt (m8 79 57)) :: []))))) (st2 := (10, [(some (.ref 79)), (some (.ref 80)), (some (.int (Int32.ofInt fr))), (some (.int (Int32.ofInt many)))], [], zk c m15)) ⟨[zo, zo, zo], _, rfl, ⟨trivial, trivial, ⟨(Nat.lt_of_lt_of_le (Nat.le_of_ble_eq_true rfl) hN), rfl, rfl⟩, trivial⟩⟩ (z_steq rfl rfl ((zk_up c m8 79 8 fr _ rfl).trans (by rw [hm15]))) ?_
  obtain ⟨m22, hm22⟩ : ∃ q, q = zm_up m15 79 9 many := ⟨_, rfl⟩
  have hIm22 := zJ_upE hIm15 hm22 (zOj_79 (by decide)) (show (0 : Int) ≤ many ∧ many ≤ 240 by omega)
  have em22 : m22 79 9 = many := by rw [hm22]; exact zm_eq
  have f23 : m22 79 8 = m15 79 8 := by rw [hm22]; exact zm_ne (Or.inr (by decide))
  have f24 : m22 79 5 = m15 79 5 := by rw [hm22]; exact zm_ne (Or.inr (by decide))
  have f25 : m22 79 10 = m15 79 10 := by rw [hm22]; exact zm_ne (Or.inr (by decide))
  have f26 : m22 79 11 = m15 79 11 := by rw [hm22]; exact zm_ne (Or.inr (by decide))
  have f27 : m22 79 12 = m15 79 12 := by rw [hm22]; exact zm_ne (Or.inr (by decide))
  have tk28 : zY m m22 := by rw [hm22]; exact zY_up tk21 (zYs_79 (by decide))
  clear tk21
  refine zW.step (st1 := (15, [(some (.ref 79)), (some (.ref 80)), (some (.int (Int32.ofInt fr))), (some (.int (Int32.ofInt many)))], [], z_hup (zk c m15) 79 (.inr (12, (.int (Int32.ofInt (m15 79 0)) :: .ref 80 :: .ref 81 :: .ref 82 :: .ref 83 :: zm_rf (m15 79 5) :: .int (Int32.ofInt (m15 79 6)) :: .int (Int32.ofInt (m15 79 7)) :: .int (Int32.ofInt (m15 79 8)) :: .int (Int32.ofInt many) :: .int (Int32.ofInt (m15 79 10)) :: .int (Int32.ofInt (m15 79 11)) :: .int (Int32.ofInt (m15 79 12)) :: .int (Int32.ofInt (m15 79 13)) :: .int (Int32.ofInt (m15 79 14)) :: .ref (z_RO + 5) :: .ref (z_RO + 3) :: .int (Int32.ofInt (m15 79 17)) :: .ref 84 :: .ref 85 :: .ref 86 :: .ref 87 :: .ref 88 :: .ref 89 :: .ref 90 :: .ref 91 :: .int (Int32.ofInt (m15 79 26)) :: .int (Int32.ofInt (m15 79 27)) :: .int (Int32.ofInt (m15 79 28)) :: .int (Int32.ofInt (m15 79 29)) :: .int (Int32.ofInt (m15 79 30)) :: .ref 92 :: .ref 93 :: .int (Int32.ofInt (m15 79 33)) :: .int (Int32.ofInt (m15 79 34)) :: .ref 94 :: .ref 95 :: .int (Int32.ofInt (m15 79 37)) :: .int (Int32.ofInt (m15 79 38)) :: .int (Int32.ofInt (m15 79 39)) :: .int (Int32.ofInt (m15 79 40)) :: .int (Int32.ofInt (m15 79 41)) :: .int (Int32.ofInt (m15 79 42)) :: .ref 96 :: .ref 97 :: .ref 98 :: .ref 99 :: .ref 100 :: .int (Int32.ofInt (m15 79 48)) :: .int (Int32.ofInt (m15 79 49)) :: .long (Int64.ofInt (m15 79 50)) :: .ref 101 :: .ref 102 :: .int (Int32.ofInt (m15 79 53)) :: .ref 103 :: .ref 104 :: .ref 105 :: .int (Int32.ofInt (m15 79 57)) :: []))))) (st2 := (15, [(some (.ref 79)), (some (.ref 80)), (some (.int (Int32.ofInt fr))), (some (.int (Int32.ofInt many)))], [], zk c m22)) ⟨[zo, zo, zo], _, rfl, ⟨trivial, trivial, ⟨(Nat.lt_of_lt_of_le (Nat.le_of_ble_eq_true rfl) hN), rfl, rfl⟩, trivial⟩⟩ (z_steq rfl rfl ((zk_up c m15 79 9 many _ rfl).trans (by rw [hm22]))) ?_
  obtain ⟨m29, hm29⟩ : ∃ q, q = zm_up m22 79 10 0 := ⟨_, rfl⟩
  have hIm29 := zJ_upE hIm22 hm29 (zOj_79 (by decide)) (show (0 : Int) ≤ 0 ∧ 0 ≤ 241 by omega)
  have em29 : m29 79 10 = 0 := by rw [hm29]; exact zm_eq
  have f30 : m29 79 9 = m22 79 9 := by rw [hm29]; exact zm_ne (Or.inr (by decide))
  have f31 : m29 79 8 = m22 79 8 := by rw [hm29]; exact zm_ne (Or.inr (by decide))
  have f32 : m29 79 5 = m22 79 5 := by rw [hm29]; exact zm_ne (Or.inr (by decide))
  have f33 : m29 79 11 = m22 79 11 := by rw [hm29]; exact zm_ne (Or.inr (by decide))
  have f34 : m29 79 12 = m22 79 12 := by rw [hm29]; exact zm_ne (Or.inr (by decide))
  have tk35 : zY m m29 := by rw [hm29]; exact zY_up tk28 (zYs_79 (by decide))
  clear tk28
  refine zW.step (st1 := (20, [(some (.ref 79)), (some (.ref 80)), (some (.int (Int32.ofInt fr))), (some (.int (Int32.ofInt many)))], [], z_hup (zk c m22) 79 (.inr (12, (.int (Int32.ofInt (m22 79 0)) :: .ref 80 :: .ref 81 :: .ref 82 :: .ref 83 :: zm_rf (m22 79 5) :: .int (Int32.ofInt (m22 79 6)) :: .int (Int32.ofInt (m22 79 7)) :: .int (Int32.ofInt (m22 79 8)) :: .int (Int32.ofInt (m22 79 9)) :: .int (Int32.ofInt 0) :: .int (Int32.ofInt (m22 79 11)) :: .int (Int32.ofInt (m22 79 12)) :: .int (Int32.ofInt (m22 79 13)) :: .int (Int32.ofInt (m22 79 14)) :: .ref (z_RO + 5) :: .ref (z_RO + 3) :: .int (Int32.ofInt (m22 79 17)) :: .ref 84 :: .ref 85 :: .ref 86 :: .ref 87 :: .ref 88 :: .ref 89 :: .ref 90 :: .ref 91 :: .int (Int32.ofInt (m22 79 26)) :: .int (Int32.ofInt (m22 79 27)) :: .int (Int32.ofInt (m22 79 28)) :: .int (Int32.ofInt (m22 79 29)) :: .int (Int32.ofInt (m22 79 30)) :: .ref 92 :: .ref 93 :: .int (Int32.ofInt (m22 79 33)) :: .int (Int32.ofInt (m22 79 34)) :: .ref 94 :: .ref 95 :: .int (Int32.ofInt (m22 79 37)) :: .int (Int32.ofInt (m22 79 38)) :: .int (Int32.ofInt (m22 79 39)) :: .int (Int32.ofInt (m22 79 40)) :: .int (Int32.ofInt (m22 79 41)) :: .int (Int32.ofInt (m22 79 42)) :: .ref 96 :: .ref 97 :: .ref 98 :: .ref 99 :: .ref 100 :: .int (Int32.ofInt (m22 79 48)) :: .int (Int32.ofInt (m22 79 49)) :: .long (Int64.ofInt (m22 79 50)) :: .ref 101 :: .ref 102 :: .int (Int32.ofInt (m22 79 53)) :: .ref 103 :: .ref 104 :: .ref 105 :: .int (Int32.ofInt (m22 79 57)) :: []))))) (st2 := (20, [(some (.ref 79)), (some (.ref 80)), (some (.int (Int32.ofInt fr))), (some (.int (Int32.ofInt many)))], [], zk c m29)) ⟨[zo, zo, zo], _, rfl, ⟨trivial, trivial, ⟨(Nat.lt_of_lt_of_le (Nat.le_of_ble_eq_true rfl) hN), rfl, rfl⟩, trivial⟩⟩ (z_steq rfl rfl ((zk_up c m22 79 10 0 _ rfl).trans (by rw [hm29]))) ?_
  obtain ⟨m36, hm36⟩ : ∃ q, q = zm_up m29 79 11 (-1) := ⟨_, rfl⟩
  have hIm36 := zJ_upE hIm29 hm36 (zOj_79 (by decide)) (show (-2147483648 : Int) ≤ (-1) ∧ (-1) ≤ 2147483647 by omega)
  have em36 : m36 79 11 = (-1) := by rw [hm36]; exact zm_eq
  have f37 : m36 79 10 = m29 79 10 := by rw [hm36]; exact zm_ne (Or.inr (by decide))
  have f38 : m36 79 9 = m29 79 9 := by rw [hm36]; exact zm_ne (Or.inr (by decide))
  have f39 : m36 79 8 = m29 79 8 := by rw [hm36]; exact zm_ne (Or.inr (by decide))
  have f40 : m36 79 5 = m29 79 5 := by rw [hm36]; exact zm_ne (Or.inr (by decide))
  have f41 : m36 79 12 = m29 79 12 := by rw [hm36]; exact zm_ne (Or.inr (by decide))
  have tk42 : zY m m36 := by rw [hm36]; exact zY_up tk35 (zYs_79 (by decide))
  clear tk35
  refine zW.step (st1 := (25, [(some (.ref 79)), (some (.ref 80)), (some (.int (Int32.ofInt fr))), (some (.int (Int32.ofInt many)))], [], z_hup (zk c m29) 79 (.inr (12, (.int (Int32.ofInt (m29 79 0)) :: .ref 80 :: .ref 81 :: .ref 82 :: .ref 83 :: zm_rf (m29 79 5) :: .int (Int32.ofInt (m29 79 6)) :: .int (Int32.ofInt (m29 79 7)) :: .int (Int32.ofInt (m29 79 8)) :: .int (Int32.ofInt (m29 79 9)) :: .int (Int32.ofInt (m29 79 10)) :: .int (Int32.ofInt (-1)) :: .int (Int32.ofInt (m29 79 12)) :: .int (Int32.ofInt (m29 79 13)) :: .int (Int32.ofInt (m29 79 14)) :: .ref (z_RO + 5) :: .ref (z_RO + 3) :: .int (Int32.ofInt (m29 79 17)) :: .ref 84 :: .ref 85 :: .ref 86 :: .ref 87 :: .ref 88 :: .ref 89 :: .ref 90 :: .ref 91 :: .int (Int32.ofInt (m29 79 26)) :: .int (Int32.ofInt (m29 79 27)) :: .int (Int32.ofInt (m29 79 28)) :: .int (Int32.ofInt (m29 79 29)) :: .int (Int32.ofInt (m29 79 30)) :: .ref 92 :: .ref 93 :: .int (Int32.ofInt (m29 79 33)) :: .int (Int32.ofInt (m29 79 34)) :: .ref 94 :: .ref 95 :: .int (Int32.ofInt (m29 79 37)) :: .int (Int32.ofInt (m29 79 38)) :: .int (Int32.ofInt (m29 79 39)) :: .int (Int32.ofInt (m29 79 40)) :: .int (Int32.ofInt (m29 79 41)) :: .int (Int32.ofInt (m29 79 42)) :: .ref 96 :: .ref 97 :: .ref 98 :: .ref 99 :: .ref 100 :: .int (Int32.ofInt (m29 79 48)) :: .int (Int32.ofInt (m29 79 49)) :: .long (Int64.ofInt (m29 79 50)) :: .ref 101 :: .ref 102 :: .int (Int32.ofInt (m29 79 53)) :: .ref 103 :: .ref 104 :: .ref 105 :: .int (Int32.ofInt (m29 79 57)) :: []))))) (st2 := (25, [(some (.ref 79)), (some (.ref 80)), (some (.int (Int32.ofInt fr))), (some (.int (Int32.ofInt many)))], [], zk c m36)) ⟨[zo, zo, zo], _, rfl, ⟨trivial, trivial, ⟨(Nat.lt_of_lt_of_le (Nat.le_of_ble_eq_true rfl) hN), rfl, rfl⟩, trivial⟩⟩ (z_steq rfl rfl ((zk_up c m29 79 11 (-1) _ rfl).trans (by rw [hm36]))) ?_
  exact zW.fin (zfin_v rfl rfl) ⟨m36, rfl, rfl, hIm36, (by omega), (by omega), (by omega), (by omega), tk42⟩

set_option maxRecDepth 100000 in
set_option maxHeartbeats 4000000 in
theorem L_X12_readHouse_F_30 (zn : Bool) (d : Nat) {c : Nat × Nat} {mC : zM} {t9 : Int} {e9 : Nat} (hN : 107 ≤ c.1) (hC : c.1 < z_RO) (m0 : zM) (Q : Option Value → z_H → Prop) (K : ∀ (x1 : Int) (m : zM), zJ mC t9 e9 m → 0 ≤ x1 ∧ x1 ≤ 1 → m 79 5 = 80 ∧ m 79 8 = 0 ∧ m 79 9 = mC 79 6 → 0 ≤ m 79 10 ∧ m 79 10 ≤ mC 79 6 → zImp (x1 = 1) (m 79 11 = -1 ∧ (zhs (zbT mC) (mC 79 6)) = zcs (zbT mC) (mC 79 6) (241 - m 79 10).toNat (m 79 10) (zWm m)) → zImp (x1 = 0) (zImp (m 79 11 = -1) ((zhs (zbT mC) (mC 79 6)).1 = 1 ∧ m 79 10 = (zhs (zbT mC) (mC 79 6)).2.1 ∧ (zhs (zbT mC) (mC 79 6)).2.2 = zWm m ∧ znx (zbT mC) (mC 79 6) (m 79 10) = m 79 10)) → zImp (x1 = 0) (zImp (m 79 11 ≠ -1) ((zhs (zbT mC) (mC 79 6)).1 = 0 ∧ m 79 11 = (zhs (zbT mC) (mC 79 6)).2.1)) → zV9 m0 m → zK m (m 79 29) → x1 = 0 ∨ m 79 11 ≠ -1 → zW zn (d + 7) 267 c (86, [(some (.ref 79)), (some (.int (Int32.ofInt x1)))], [], zk c m) Q) :
    ∀ (w : Nat) (x1 : Int) (m : zM), zJ mC t9 e9 m → 0 ≤ x1 ∧ x1 ≤ 1 → m 79 5 = 80 ∧ m 79 8 = 0 ∧ m 79 9 = mC 79 6 → 0 ≤ m 79 10 ∧ m 79 10 ≤ mC 79 6 → zImp (x1 = 1) (m 79 11 = -1 ∧ (zhs (zbT mC) (mC 79 6)) = zcs (zbT mC) (mC 79 6) (241 - m 79 10).toNat (m 79 10) (zWm m)) → zImp (x1 = 0) (zImp (m 79 11 = -1) ((zhs (zbT mC) (mC 79 6)).1 = 1 ∧ m 79 10 = (zhs (zbT mC) (mC 79 6)).2.1 ∧ (zhs (zbT mC) (mC 79 6)).2.2 = zWm m ∧ znx (zbT mC) (mC 79 6) (m 79 10) = m 79 10)) → zImp (x1 = 0) (zImp (m 79 11 ≠ -1) ((zhs (zbT mC) (mC 79 6)).1 = 0 ∧ m 79 11 = (zhs (zbT mC) (mC 79 6)).2.1)) → zV9 m0 m → zK m (m 79 29) → w = (241 - m 79 10 + x1).toNat → zW zn (d + 7) 267 c (30, [(some (.ref 79)), (some (.int (Int32.ofInt x1)))], [], zk c m) Q := by
  intro w
  induction w using Nat.strongRecOn with | _ w ih => ?_
  intro x1 m hIm i1 t5 jb J1 J2 J3 tV tK hw
  have f1 : (0 : Int) ≤ m 79 9 ∧ m 79 9 ≤ 240 := hIm.1 79 9
  have f2 : (0 : Int) ≤ m 79 10 ∧ m 79 10 ≤ 241 := hIm.1 79 10
  have f3 : (-2147483648 : Int) ≤ m 79 11 ∧ m 79 11 ≤ 2147483647 := hIm.1 79 11
  have f4 : (0 : Int) ≤ m 79 12 ∧ m 79 12 ≤ 6 := hIm.1 79 12
  have f5 : (0 : Int) ≤ m 79 28 ∧ m 79 28 ≤ 5 := hIm.1 79 28
  have f6 : (0 : Int) ≤ m 79 29 ∧ m 79 29 ≤ 6 := hIm.1 79 29
  have f7 : (0 : Int) ≤ m 79 30 ∧ m 79 30 ≤ 6 := hIm.1 79 30
  have f8 : (80 : Int) ≤ m 79 5 ∧ m 79 5 ≤ 81 := hIm.1 79 5
  have f9 : (0 : Int) ≤ m 79 8 ∧ m 79 8 ≤ 720 := hIm.1 79 8
  have q10 := zn_m hIm
  by_cases b11 : x1 = 0
  · refine zW.step (st1 := (86, [(some (.ref 79)), (some (.int (Int32.ofInt x1)))], [], zk c m)) (st2 := (86, [(some (.ref 79)), (some (.int (Int32.ofInt x1)))], [], zk c m)) ⟨[zo, zt], _, rfl, ⟨trivial, zbt ((zi_eq rfl (rfl : (0 : Int32) = Int32.ofInt 0) (by unfold zR; omega) (⟨by decide, by decide⟩ : zR 0)).mpr b11), trivial⟩⟩ rfl ?_
    exact K x1 m hIm (by omega) (by omega) (by omega) (by exact J1) (by exact J2) (by exact J3) tV (zK_cg tK (by omega)) (by omega)
  · refine zW.step (st1 := (34, [(some (.ref 79)), (some (.int (Int32.ofInt x1)))], [], zk c m)) (st2 := (34, [(some (.ref 79)), (some (.int (Int32.ofInt x1)))], [], zk c m)) ⟨[zo, zo], _, rfl, ⟨trivial, zbf (fun q => b11 ((zi_eq rfl (rfl : (0 : Int32) = Int32.ofInt 0) (by unfold zR; omega) (⟨by decide, by decide⟩ : zR 0)).mp q)), trivial⟩⟩ rfl ?_
    by_cases b12 : (m 79 11) = (-1)
    · refine zW.step (st1 := (42, [(some (.ref 79)), (some (.int (Int32.ofInt x1)))], [], zk c m)) (st2 := (42, [(some (.ref 79)), (some (.int (Int32.ofInt x1)))], [], zk c m)) ⟨[zo, zo, zo, zo], _, rfl, ⟨trivial, (Nat.lt_of_lt_of_le (Nat.le_of_ble_eq_true rfl) hN), trivial, zbf (fun q => q ((zi_eq rfl rfl (by unfold zR; omega) (⟨by decide, by decide⟩ : zR (-1))).mpr b12)), trivial⟩⟩ rfl ?_
      have J1a := (J1 (by omega)).1
      have J1b := (J1 (by omega)).2
      have gcl := zcl_g (zbT mC) (mC 79 6) (m 79 10) (zWm m) (by omega) (by omega) (by omega)
      clear J1 J2 J3
      refine zW.step (st1 := (43, [(some (.ref 79)), (some (.int (Int32.ofInt x1)))], [.ref 79], zk c m)) (st2 := (43, [(some (.ref 79)), (some (.int (Int32.ofInt x1)))], [.ref 79], zk c m)) ⟨[zo], _, rfl, ⟨trivial, trivial⟩⟩ rfl ?_
      obtain ⟨m14, hs14, hIm14, ad_14, a9_14, e9_14, p_14, w_14, bb_14, t5_14, kV_14, kK_14, kD_14⟩ := S_X12_readClause_F zn (d + 0) hN hC (m 79 10) m hIm (zK_cg tK (by omega)) (by omega) (by omega) (by omega) (by omega)
      refine zW.step (st1 := (46, [(some (.ref 79)), (some (.int (Int32.ofInt x1)))], [], zk c m14)) ⟨[zc (none) (zk c m14)], _, rfl, ⟨⟨⟨(Nat.lt_of_lt_of_le (Nat.le_of_ble_eq_true rfl) hN), (Nat.le_of_ble_eq_true rfl)⟩, hs14, (Nat.le_of_ble_eq_true rfl), Nat.le_refl _, Nat.le_refl _, Nat.le_refl _, Nat.le_refl _⟩, trivial⟩⟩ rfl ?_
      have f15 : (0 : Int) ≤ m14 79 9 ∧ m14 79 9 ≤ 240 := hIm14.1 79 9
      have f16 : m14 79 9 = m 79 9 := kD_14 79 9 (by omega)
      have f17 : (0 : Int) ≤ m14 79 10 ∧ m14 79 10 ≤ 241 := hIm14.1 79 10
      have f18 : (-2147483648 : Int) ≤ m14 79 11 ∧ m14 79 11 ≤ 2147483647 := hIm14.1 79 11
      have f19 : (0 : Int) ≤ m14 79 12 ∧ m14 79 12 ≤ 6 := hIm14.1 79 12
      have f20 : (0 : Int) ≤ m14 79 28 ∧ m14 79 28 ≤ 5 := hIm14.1 79 28
      have f21 : (0 : Int) ≤ m14 79 29 ∧ m14 79 29 ≤ 6 := hIm14.1 79 29
      have f22 : (0 : Int) ≤ m14 79 30 ∧ m14 79 30 ≤ 6 := hIm14.1 79 30
      have f23 : (80 : Int) ≤ m14 79 5 ∧ m14 79 5 ≤ 81 := hIm14.1 79 5
      have f24 : m14 79 5 = m 79 5 := kD_14 79 5 (by omega)
      have f25 : (0 : Int) ≤ m14 79 8 ∧ m14 79 8 ≤ 720 := hIm14.1 79 8
      have f26 : m14 79 8 = m 79 8 := kD_14 79 8 (by omega)
      have tk27 : zV9 m0 m14 := zV9_tr tV kV_14
      have tk28 : zK m14 (m14 79 29) := kK_14
      by_cases b29 : (m14 79 11) = (-1)
      · refine zW.step (st1 := (54, [(some (.ref 79)), (some (.int (Int32.ofInt x1)))], [], zk c m14)) (st2 := (54, [(some (.ref 79)), (some (.int (Int32.ofInt x1)))], [], zk c m14)) ⟨[zo, zo, zo, zo], _, rfl, ⟨trivial, (Nat.lt_of_lt_of_le (Nat.le_of_ble_eq_true rfl) hN), trivial, zbf (fun q => q ((zi_eq rfl rfl (by unfold zR; omega) (⟨by decide, by decide⟩ : zR (-1))).mpr b29)), trivial⟩⟩ rfl ?_
        refine zW.step (st1 := (55, [(some (.ref 79)), (some (.int (Int32.ofInt x1)))], [.ref 79], zk c m14)) (st2 := (55, [(some (.ref 79)), (some (.int (Int32.ofInt x1)))], [.ref 79], zk c m14)) ⟨[zo], _, rfl, ⟨trivial, trivial⟩⟩ rfl ?_
        obtain ⟨r30, m30, hs30, hIm30, z_30, f_30, p_30, b_30, l_30, t5_30, f9_30, d9_30, kY_30, kD_30⟩ := S_X12_look_H zn (d + 6) hN hC ((zcl (zbT mC) (mC 79 6) (m 79 10) (zWm m)).2.1) m14 hIm14 (by omega) (by omega) (by omega)
        refine zW.step (st1 := (58, [(some (.ref 79)), (some (.int (Int32.ofInt x1)))], [.int (Int32.ofInt r30)], zk c m30)) ⟨[zc (some (.int (Int32.ofInt r30))) (zk c m30)], _, rfl, ⟨⟨⟨(Nat.lt_of_lt_of_le (Nat.le_of_ble_eq_true rfl) hN), (Nat.le_of_ble_eq_true rfl)⟩, hs30, (Nat.le_of_ble_eq_true rfl), Nat.le_refl _, Nat.le_refl _, Nat.le_refl _, Nat.le_refl _⟩, trivial⟩⟩ rfl ?_
        have f31 : (0 : Int) ≤ m30 79 9 ∧ m30 79 9 ≤ 240 := hIm30.1 79 9
        have f32 : m30 79 9 = m14 79 9 := kD_30 79 9 (by omega)
        have f33 : (0 : Int) ≤ m30 79 10 ∧ m30 79 10 ≤ 241 := hIm30.1 79 10
        have f34 : (-2147483648 : Int) ≤ m30 79 11 ∧ m30 79 11 ≤ 2147483647 := hIm30.1 79 11
        have f35 : (0 : Int) ≤ m30 79 12 ∧ m30 79 12 ≤ 6 := hIm30.1 79 12
        have f36 : (0 : Int) ≤ m30 79 28 ∧ m30 79 28 ≤ 5 := hIm30.1 79 28
        have f37 : m30 79 28 = m14 79 28 := kD_30 79 28 (by omega)
        have f38 : m30 79 28 = m14 79 28 := kY_30 79 28 (by unfold zYs; decide)
        have f39 : (0 : Int) ≤ m30 79 29 ∧ m30 79 29 ≤ 6 := hIm30.1 79 29
        have f40 : m30 79 29 = m14 79 29 := kD_30 79 29 (by omega)
        have f41 : m30 79 29 = m14 79 29 := kY_30 79 29 (by unfold zYs; decide)
        have f42 : (0 : Int) ≤ m30 79 30 ∧ m30 79 30 ≤ 6 := hIm30.1 79 30
        have f43 : m30 79 30 = m14 79 30 := kD_30 79 30 (by omega)
        have f44 : m30 79 30 = m14 79 30 := kY_30 79 30 (by unfold zYs; decide)
        have f45 : (80 : Int) ≤ m30 79 5 ∧ m30 79 5 ≤ 81 := hIm30.1 79 5
        have f46 : m30 79 5 = m14 79 5 := kD_30 79 5 (by omega)
        have f47 : (0 : Int) ≤ m30 79 8 ∧ m30 79 8 ≤ 720 := hIm30.1 79 8
        have f48 : m30 79 8 = m14 79 8 := kD_30 79 8 (by omega)
        have tk49 : zV9 m0 m30 := zV9_tr tk27 (zY_V kY_30)
        have tk50 : zK m30 (m14 79 29) := zK_Y tk28 kY_30
        have qW : (zcl (zbT mC) (mC 79 6) (m 79 10) (zWm m)).2.2 = zWm m30 := (w_14 (by omega)).symm.trans (zWm_D kD_30).symm
        by_cases b52 : r30 = 59
        · refine zW.step (st1 := (63, [(some (.ref 79)), (some (.int (Int32.ofInt x1)))], [], zk c m30)) (st2 := (63, [(some (.ref 79)), (some (.int (Int32.ofInt x1)))], [], zk c m30)) ⟨[zo, zo], _, rfl, ⟨trivial, zbf (fun q => q ((zi_eq rfl (by decide : (Int8.ofInt 59).toInt32 = Int32.ofInt 59) (by unfold zR; omega) (⟨by decide, by decide⟩ : zR 59)).mpr b52)), trivial⟩⟩ rfl ?_
          have b53 : ¬ ((1 : Int) = 0) := by omega
          refine zW.step (st1 := (73, [(some (.ref 79)), (some (.int (Int32.ofInt 1)))], [], zk c m30)) (st2 := (73, [(some (.ref 79)), (some (.int (Int32.ofInt 1)))], [], zk c m30)) ⟨[zo, zo, zo, zo, zo], _, rfl, ⟨trivial, trivial, trivial, trivial, zbf (fun q => b53 ((zi_eq rfl (rfl : (0 : Int32) = Int32.ofInt 0) (⟨by decide, by decide⟩ : zR 1) (⟨by decide, by decide⟩ : zR 0)).mp q)), trivial⟩⟩ rfl ?_
          obtain ⟨m54, hm54⟩ : ∃ q, q = zm_up m30 79 10 ((m30 79 10) + 1) := ⟨_, rfl⟩
          have hIm54 := zJ_upE hIm30 hm54 (zOj_79 (by decide)) (show (0 : Int) ≤ ((m30 79 10) + 1) ∧ ((m30 79 10) + 1) ≤ 241 by omega)
          have em54 : m54 79 10 = ((m30 79 10) + 1) := by rw [hm54]; exact zm_eq
          have f55 : m54 79 9 = m30 79 9 := by rw [hm54]; exact zm_ne (Or.inr (by decide))
          have f56 : m54 79 11 = m30 79 11 := by rw [hm54]; exact zm_ne (Or.inr (by decide))
          have f57 : m54 79 12 = m30 79 12 := by rw [hm54]; exact zm_ne (Or.inr (by decide))
          have f58 : m54 79 28 = m30 79 28 := by rw [hm54]; exact zm_ne (Or.inr (by decide))
          have f59 : m54 79 29 = m30 79 29 := by rw [hm54]; exact zm_ne (Or.inr (by decide))
          have f60 : m54 79 30 = m30 79 30 := by rw [hm54]; exact zm_ne (Or.inr (by decide))
          have f61 : m54 79 5 = m30 79 5 := by rw [hm54]; exact zm_ne (Or.inr (by decide))
          have f62 : m54 79 8 = m30 79 8 := by rw [hm54]; exact zm_ne (Or.inr (by decide))
          have tk63 : zV9 m0 m54 := by rw [hm54]; exact zV9_up tk49 (by decide)
          have tk64 : zK m54 (m14 79 29) := by rw [hm54]; exact zK_up tk50 (by decide)
          clear tk49 tk50
          refine zW.step (st1 := (83, [(some (.ref 79)), (some (.int (Int32.ofInt 1)))], [], z_hup (zk c m30) 79 (.inr (12, (.int (Int32.ofInt (m30 79 0)) :: .ref 80 :: .ref 81 :: .ref 82 :: .ref 83 :: zm_rf (m30 79 5) :: .int (Int32.ofInt (m30 79 6)) :: .int (Int32.ofInt (m30 79 7)) :: .int (Int32.ofInt (m30 79 8)) :: .int (Int32.ofInt (m30 79 9)) :: .int ((Int32.ofInt (m30 79 10)) + (Int32.ofInt 1)) :: .int (Int32.ofInt (m30 79 11)) :: .int (Int32.ofInt (m30 79 12)) :: .int (Int32.ofInt (m30 79 13)) :: .int (Int32.ofInt (m30 79 14)) :: .ref (z_RO + 5) :: .ref (z_RO + 3) :: .int (Int32.ofInt (m30 79 17)) :: .ref 84 :: .ref 85 :: .ref 86 :: .ref 87 :: .ref 88 :: .ref 89 :: .ref 90 :: .ref 91 :: .int (Int32.ofInt (m30 79 26)) :: .int (Int32.ofInt (m30 79 27)) :: .int (Int32.ofInt (m30 79 28)) :: .int (Int32.ofInt (m30 79 29)) :: .int (Int32.ofInt (m30 79 30)) :: .ref 92 :: .ref 93 :: .int (Int32.ofInt (m30 79 33)) :: .int (Int32.ofInt (m30 79 34)) :: .ref 94 :: .ref 95 :: .int (Int32.ofInt (m30 79 37)) :: .int (Int32.ofInt (m30 79 38)) :: .int (Int32.ofInt (m30 79 39)) :: .int (Int32.ofInt (m30 79 40)) :: .int (Int32.ofInt (m30 79 41)) :: .int (Int32.ofInt (m30 79 42)) :: .ref 96 :: .ref 97 :: .ref 98 :: .ref 99 :: .ref 100 :: .int (Int32.ofInt (m30 79 48)) :: .int (Int32.ofInt (m30 79 49)) :: .long (Int64.ofInt (m30 79 50)) :: .ref 101 :: .ref 102 :: .int (Int32.ofInt (m30 79 53)) :: .ref 103 :: .ref 104 :: .ref 105 :: .int (Int32.ofInt (m30 79 57)) :: []))))) (st2 := (83, [(some (.ref 79)), (some (.int (Int32.ofInt 1)))], [], zk c m54)) ⟨[zo, zo, zo, zo, zo, zo], _, rfl, ⟨trivial, trivial, (Nat.lt_of_lt_of_le (Nat.le_of_ble_eq_true rfl) hN), trivial, trivial, ⟨(Nat.lt_of_lt_of_le (Nat.le_of_ble_eq_true rfl) hN), rfl, rfl⟩, trivial⟩⟩ (z_steq rfl rfl ((zk_up c m30 79 10 ((m30 79 10) + 1) _ ((congrArg (fun q => (.inr (12, (.int (Int32.ofInt (m30 79 0)) :: .ref 80 :: .ref 81 :: .ref 82 :: .ref 83 :: zm_rf (m30 79 5) :: .int (Int32.ofInt (m30 79 6)) :: .int (Int32.ofInt (m30 79 7)) :: .int (Int32.ofInt (m30 79 8)) :: .int (Int32.ofInt (m30 79 9)) :: .int q :: .int (Int32.ofInt (m30 79 11)) :: .int (Int32.ofInt (m30 79 12)) :: .int (Int32.ofInt (m30 79 13)) :: .int (Int32.ofInt (m30 79 14)) :: .ref (z_RO + 5) :: .ref (z_RO + 3) :: .int (Int32.ofInt (m30 79 17)) :: .ref 84 :: .ref 85 :: .ref 86 :: .ref 87 :: .ref 88 :: .ref 89 :: .ref 90 :: .ref 91 :: .int (Int32.ofInt (m30 79 26)) :: .int (Int32.ofInt (m30 79 27)) :: .int (Int32.ofInt (m30 79 28)) :: .int (Int32.ofInt (m30 79 29)) :: .int (Int32.ofInt (m30 79 30)) :: .ref 92 :: .ref 93 :: .int (Int32.ofInt (m30 79 33)) :: .int (Int32.ofInt (m30 79 34)) :: .ref 94 :: .ref 95 :: .int (Int32.ofInt (m30 79 37)) :: .int (Int32.ofInt (m30 79 38)) :: .int (Int32.ofInt (m30 79 39)) :: .int (Int32.ofInt (m30 79 40)) :: .int (Int32.ofInt (m30 79 41)) :: .int (Int32.ofInt (m30 79 42)) :: .ref 96 :: .ref 97 :: .ref 98 :: .ref 99 :: .ref 100 :: .int (Int32.ofInt (m30 79 48)) :: .int (Int32.ofInt (m30 79 49)) :: .long (Int64.ofInt (m30 79 50)) :: .ref 101 :: .ref 102 :: .int (Int32.ofInt (m30 79 53)) :: .ref 103 :: .ref 104 :: .ref 105 :: .int (Int32.ofInt (m30 79 57)) :: [])) : z_E)) (zi_add rfl rfl)).trans rfl)).trans (by rw [hm54]))) ?_
          have qS := zcs_p2 (by omega) J1b (by omega) (by omega) (by omega) (by omega) (show m54 79 10 = znx (zbT mC) (mC 79 6) (zcl (zbT mC) (mC 79 6) (m 79 10) (zWm m)).2.1 + 1 by omega) ((by rw [hm54]; exact (zWm_10 _ _ _ (by decide)) : zWm m54 = zWm m30).trans qW.symm)
          refine zW.step (st1 := (30, [(some (.ref 79)), (some (.int (Int32.ofInt 1)))], [], zk c m54)) (st2 := (30, [(some (.ref 79)), (some (.int (Int32.ofInt 1)))], [], zk c m54)) ⟨[zo], _, rfl, ⟨trivial, trivial⟩⟩ rfl ?_
          exact ih _ (by omega) 1 m54 hIm54 (by omega) (by omega) (by omega) (by intro _; exact ⟨by omega, qS⟩) (by intro h; exact absurd h (by first | decide | omega)) (by intro h; exact absurd h (by first | decide | omega)) tk63 (zK_cg tk64 (by omega)) rfl
        · refine zW.step (st1 := (67, [(some (.ref 79)), (some (.int (Int32.ofInt x1)))], [], zk c m30)) (st2 := (67, [(some (.ref 79)), (some (.int (Int32.ofInt x1)))], [], zk c m30)) ⟨[zo, zt], _, rfl, ⟨trivial, zbt (fun q => b52 ((zi_eq rfl (by decide : (Int8.ofInt 59).toInt32 = Int32.ofInt 59) (by unfold zR; omega) (⟨by decide, by decide⟩ : zR 59)).mp q)), trivial⟩⟩ rfl ?_
          have qL := zcs_l1 J1b (by omega) (by omega) (by omega)
          have b67 : (0 : Int) = 0 := by omega
          refine zW.step (st1 := (30, [(some (.ref 79)), (some (.int (Int32.ofInt 0)))], [], zk c m30)) (st2 := (30, [(some (.ref 79)), (some (.int (Int32.ofInt 0)))], [], zk c m30)) ⟨[zo, zo, zo, zt], _, rfl, ⟨trivial, trivial, trivial, zbt ((zi_eq rfl (rfl : (0 : Int32) = Int32.ofInt 0) (⟨by decide, by decide⟩ : zR 0) (⟨by decide, by decide⟩ : zR 0)).mpr b67), trivial⟩⟩ rfl ?_
          exact ih _ (by omega) 0 m30 hIm30 (by omega) (by omega) (by omega) (by intro h; exact absurd h (by first | decide | omega)) (by intro _ _; exact ⟨qL.1, by omega, qL.2.2.trans qW, by rw [show m30 79 10 = znx (zbT mC) (mC 79 6) (zcl (zbT mC) (mC 79 6) (m 79 10) (zWm m)).2.1 by omega]; exact znx_i (by omega) (by omega)⟩) (by intro _ h; exfalso; omega) tk49 (zK_cg tk50 (by omega)) rfl
      · refine zW.step (st1 := (67, [(some (.ref 79)), (some (.int (Int32.ofInt x1)))], [], zk c m14)) (st2 := (67, [(some (.ref 79)), (some (.int (Int32.ofInt x1)))], [], zk c m14)) ⟨[zo, zo, zo, zt], _, rfl, ⟨trivial, (Nat.lt_of_lt_of_le (Nat.le_of_ble_eq_true rfl) hN), trivial, zbt (fun q => b29 ((zi_eq rfl rfl (by unfold zR; omega) (⟨by decide, by decide⟩ : zR (-1))).mp q)), trivial⟩⟩ rfl ?_
        have q68 := trivial
        have b69 : (0 : Int) = 0 := by omega
        refine zW.step (st1 := (30, [(some (.ref 79)), (some (.int (Int32.ofInt 0)))], [], zk c m14)) (st2 := (30, [(some (.ref 79)), (some (.int (Int32.ofInt 0)))], [], zk c m14)) ⟨[zo, zo, zo, zt], _, rfl, ⟨trivial, trivial, trivial, zbt ((zi_eq rfl (rfl : (0 : Int32) = Int32.ofInt 0) (⟨by decide, by decide⟩ : zR 0) (⟨by decide, by decide⟩ : zR 0)).mpr b69), trivial⟩⟩ rfl ?_
        exact ih _ (by omega) 0 m14 hIm14 (by omega) (by omega) (by omega) (by intro h; exact absurd h (by first | decide | omega)) (by intro _ h; exfalso; omega) (by intro _ _; have q9 := zcs_l0 J1b (by omega) (by omega); omega) tk27 (zK_cg tk28 (by omega)) rfl
    · refine zW.step (st1 := (86, [(some (.ref 79)), (some (.int (Int32.ofInt x1)))], [], zk c m)) (st2 := (86, [(some (.ref 79)), (some (.int (Int32.ofInt x1)))], [], zk c m)) ⟨[zo, zo, zo, zt], _, rfl, ⟨trivial, (Nat.lt_of_lt_of_le (Nat.le_of_ble_eq_true rfl) hN), trivial, zbt (fun q => b12 ((zi_eq rfl rfl (by unfold zR; omega) (⟨by decide, by decide⟩ : zR (-1))).mp q)), trivial⟩⟩ rfl ?_
      exact K x1 m hIm (by omega) (by omega) (by omega) (by exact J1) (by exact J2) (by exact J3) tV (zK_cg tK (by omega)) (by omega)

set_option maxRecDepth 100000 in
set_option maxHeartbeats 4000000 in
theorem S_X12_readHouse_F (zn : Bool) (d : Nat) {c : Nat × Nat} {mC : zM} {t9 : Int} {e9 : Nat} (hN : 107 ≤ c.1) (hC : c.1 < z_RO) (m : zM) (hIm : zJ mC t9 e9 m) : zCv zn (d + 8) 267 [.ref 79] c m (fun (m1 : zM) => zJ mC t9 e9 m1 ∧ (m1 79 11 = -1 → 1 ≤ m1 79 28 ∧ 1 ≤ m1 79 29 ∧ 1 ≤ m1 79 30) ∧ (zhf (zbT mC) (mC 79 6) (m1 79 11)) ∧ (m1 79 11 = -1 → zWm m1 = (zhs (zbT mC) (mC 79 6)).2.2) ∧ zV9 m m1 ∧ zK m1 (m1 79 29)) := by
  refine zCv.of zu_X12_readHouse hC (Nat.le_of_ble_eq_true rfl) ?_
  show zW zn (d + 7) 267 c (0, [(some (.ref 79)), none], [], zk c m) (fun v h1 => ∃ (m1 : zM), v = none ∧ h1 = zk c m1 ∧ zJ mC t9 e9 m1 ∧ (m1 79 11 = -1 → 1 ≤ m1 79 28 ∧ 1 ≤ m1 79 29 ∧ 1 ≤ m1 79 30) ∧ (zhf (zbT mC) (mC 79 6) (m1 79 11)) ∧ (m1 79 11 = -1 → zWm m1 = (zhs (zbT mC) (mC 79 6)).2.2) ∧ zV9 m m1 ∧ zK m1 (m1 79 29))
  have f70 : (0 : Int) ≤ m 79 9 ∧ m 79 9 ≤ 240 := hIm.1 79 9
  have f71 : (0 : Int) ≤ m 79 10 ∧ m 79 10 ≤ 241 := hIm.1 79 10
  have f72 : (-2147483648 : Int) ≤ m 79 11 ∧ m 79 11 ≤ 2147483647 := hIm.1 79 11
  have f73 : (0 : Int) ≤ m 79 12 ∧ m 79 12 ≤ 6 := hIm.1 79 12
  have f74 : (0 : Int) ≤ m 79 28 ∧ m 79 28 ≤ 5 := hIm.1 79 28
  have f75 : (0 : Int) ≤ m 79 29 ∧ m 79 29 ≤ 6 := hIm.1 79 29
  have f76 : (0 : Int) ≤ m 79 30 ∧ m 79 30 ≤ 6 := hIm.1 79 30
  have f77 : (80 : Int) ≤ m 79 5 ∧ m 79 5 ≤ 81 := hIm.1 79 5
  have f78 : (0 : Int) ≤ m 79 8 ∧ m 79 8 ≤ 720 := hIm.1 79 8
  have q79 := zn_m hIm
  have f80 : (0 : Int) ≤ m 79 6 ∧ m 79 6 ≤ 240 := hIm.1 79 6
  refine zW.step (st1 := (10, [(some (.ref 79)), none], [.int (Int32.ofInt (m 79 6)), .int (Int32.ofInt 0), .ref 80, .ref 79], zk c m)) (st2 := (10, [(some (.ref 79)), none], [.int (Int32.ofInt (m 79 6)), .int (Int32.ofInt 0), .ref 80, .ref 79], zk c m)) ⟨[zo, zo, zo, zo, zo, zo], _, rfl, ⟨trivial, trivial, (Nat.lt_of_lt_of_le (Nat.le_of_ble_eq_true rfl) hN), trivial, trivial, (Nat.lt_of_lt_of_le (Nat.le_of_ble_eq_true rfl) hN), trivial⟩⟩ rfl ?_
  obtain ⟨m81, hs81, hIm81, at_81, fa_81, d9_81, t5_81, kY_81⟩ := S_X12_starts_80H zn (d + 6) hN hC 0 (m 79 6) m hIm (by omega) (by omega) (by omega) (by omega)
  refine zW.step (st1 := (13, [(some (.ref 79)), none], [], zk c m81)) ⟨[zc (none) (zk c m81)], _, rfl, ⟨⟨⟨(Nat.lt_of_lt_of_le (Nat.le_of_ble_eq_true rfl) hN), (Nat.le_of_ble_eq_true rfl)⟩, hs81, (Nat.le_of_ble_eq_true rfl), Nat.le_refl _, Nat.le_refl _, Nat.le_refl _, Nat.le_refl _⟩, trivial⟩⟩ rfl ?_
  have f82 : (0 : Int) ≤ m81 79 9 ∧ m81 79 9 ≤ 240 := hIm81.1 79 9
  have f83 : (0 : Int) ≤ m81 79 10 ∧ m81 79 10 ≤ 241 := hIm81.1 79 10
  have f84 : (-2147483648 : Int) ≤ m81 79 11 ∧ m81 79 11 ≤ 2147483647 := hIm81.1 79 11
  have f85 : (0 : Int) ≤ m81 79 12 ∧ m81 79 12 ≤ 6 := hIm81.1 79 12
  have f86 : (0 : Int) ≤ m81 79 28 ∧ m81 79 28 ≤ 5 := hIm81.1 79 28
  have f87 : m81 79 28 = m 79 28 := kY_81 79 28 (by unfold zYs; decide)
  have f88 : (0 : Int) ≤ m81 79 29 ∧ m81 79 29 ≤ 6 := hIm81.1 79 29
  have f89 : m81 79 29 = m 79 29 := kY_81 79 29 (by unfold zYs; decide)
  have f90 : (0 : Int) ≤ m81 79 30 ∧ m81 79 30 ≤ 6 := hIm81.1 79 30
  have f91 : m81 79 30 = m 79 30 := kY_81 79 30 (by unfold zYs; decide)
  have f92 : (80 : Int) ≤ m81 79 5 ∧ m81 79 5 ≤ 81 := hIm81.1 79 5
  have f93 : (0 : Int) ≤ m81 79 8 ∧ m81 79 8 ≤ 720 := hIm81.1 79 8
  have tk94 : zV9 m m81 := zV9_tr zV9_rf (zY_V kY_81)
  obtain ⟨m95, hm95⟩ : ∃ q, q = zm_up m81 79 28 0 := ⟨_, rfl⟩
  have hIm95 := zJ_upE hIm81 hm95 (zOj_79 (by decide)) (show (0 : Int) ≤ 0 ∧ 0 ≤ 5 by omega)
  have em95 : m95 79 28 = 0 := by rw [hm95]; exact zm_eq
  have f96 : m95 79 9 = m81 79 9 := by rw [hm95]; exact zm_ne (Or.inr (by decide))
  have f97 : m95 79 10 = m81 79 10 := by rw [hm95]; exact zm_ne (Or.inr (by decide))
  have f98 : m95 79 11 = m81 79 11 := by rw [hm95]; exact zm_ne (Or.inr (by decide))
  have f99 : m95 79 12 = m81 79 12 := by rw [hm95]; exact zm_ne (Or.inr (by decide))
  have f100 : m95 79 29 = m81 79 29 := by rw [hm95]; exact zm_ne (Or.inr (by decide))
  have f101 : m95 79 30 = m81 79 30 := by rw [hm95]; exact zm_ne (Or.inr (by decide))
  have f102 : m95 79 5 = m81 79 5 := by rw [hm95]; exact zm_ne (Or.inr (by decide))
  have f103 : m95 79 8 = m81 79 8 := by rw [hm95]; exact zm_ne (Or.inr (by decide))
  have tk104 : zV9 m m95 := by rw [hm95]; exact zV9_up tk94 (by decide)
  clear tk94
  refine zW.step (st1 := (18, [(some (.ref 79)), none], [], z_hup (zk c m81) 79 (.inr (12, (.int (Int32.ofInt (m81 79 0)) :: .ref 80 :: .ref 81 :: .ref 82 :: .ref 83 :: zm_rf (m81 79 5) :: .int (Int32.ofInt (m81 79 6)) :: .int (Int32.ofInt (m81 79 7)) :: .int (Int32.ofInt (m81 79 8)) :: .int (Int32.ofInt (m81 79 9)) :: .int (Int32.ofInt (m81 79 10)) :: .int (Int32.ofInt (m81 79 11)) :: .int (Int32.ofInt (m81 79 12)) :: .int (Int32.ofInt (m81 79 13)) :: .int (Int32.ofInt (m81 79 14)) :: .ref (z_RO + 5) :: .ref (z_RO + 3) :: .int (Int32.ofInt (m81 79 17)) :: .ref 84 :: .ref 85 :: .ref 86 :: .ref 87 :: .ref 88 :: .ref 89 :: .ref 90 :: .ref 91 :: .int (Int32.ofInt (m81 79 26)) :: .int (Int32.ofInt (m81 79 27)) :: .int (Int32.ofInt 0) :: .int (Int32.ofInt (m81 79 29)) :: .int (Int32.ofInt (m81 79 30)) :: .ref 92 :: .ref 93 :: .int (Int32.ofInt (m81 79 33)) :: .int (Int32.ofInt (m81 79 34)) :: .ref 94 :: .ref 95 :: .int (Int32.ofInt (m81 79 37)) :: .int (Int32.ofInt (m81 79 38)) :: .int (Int32.ofInt (m81 79 39)) :: .int (Int32.ofInt (m81 79 40)) :: .int (Int32.ofInt (m81 79 41)) :: .int (Int32.ofInt (m81 79 42)) :: .ref 96 :: .ref 97 :: .ref 98 :: .ref 99 :: .ref 100 :: .int (Int32.ofInt (m81 79 48)) :: .int (Int32.ofInt (m81 79 49)) :: .long (Int64.ofInt (m81 79 50)) :: .ref 101 :: .ref 102 :: .int (Int32.ofInt (m81 79 53)) :: .ref 103 :: .ref 104 :: .ref 105 :: .int (Int32.ofInt (m81 79 57)) :: []))))) (st2 := (18, [(some (.ref 79)), none], [], zk c m95)) ⟨[zo, zo, zo], _, rfl, ⟨trivial, trivial, ⟨(Nat.lt_of_lt_of_le (Nat.le_of_ble_eq_true rfl) hN), rfl, rfl⟩, trivial⟩⟩ (z_steq rfl rfl ((zk_up c m81 79 28 0 _ rfl).trans (by rw [hm95]))) ?_
  obtain ⟨m105, hm105⟩ : ∃ q, q = zm_up m95 79 29 0 := ⟨_, rfl⟩
  have hIm105 := zJ_upE hIm95 hm105 (zOj_79 (by decide)) (show (0 : Int) ≤ 0 ∧ 0 ≤ 6 by omega)
  have em105 : m105 79 29 = 0 := by rw [hm105]; exact zm_eq
  have f106 : m105 79 28 = m95 79 28 := by rw [hm105]; exact zm_ne (Or.inr (by decide))
  have f107 : m105 79 9 = m95 79 9 := by rw [hm105]; exact zm_ne (Or.inr (by decide))
  have f108 : m105 79 10 = m95 79 10 := by rw [hm105]; exact zm_ne (Or.inr (by decide))
  have f109 : m105 79 11 = m95 79 11 := by rw [hm105]; exact zm_ne (Or.inr (by decide))
  have f110 : m105 79 12 = m95 79 12 := by rw [hm105]; exact zm_ne (Or.inr (by decide))
  have f111 : m105 79 30 = m95 79 30 := by rw [hm105]; exact zm_ne (Or.inr (by decide))
  have f112 : m105 79 5 = m95 79 5 := by rw [hm105]; exact zm_ne (Or.inr (by decide))
  have f113 : m105 79 8 = m95 79 8 := by rw [hm105]; exact zm_ne (Or.inr (by decide))
  have tk114 : zV9 m m105 := by rw [hm105]; exact zV9_up tk104 (by decide)
  clear tk104
  refine zW.step (st1 := (23, [(some (.ref 79)), none], [], z_hup (zk c m95) 79 (.inr (12, (.int (Int32.ofInt (m95 79 0)) :: .ref 80 :: .ref 81 :: .ref 82 :: .ref 83 :: zm_rf (m95 79 5) :: .int (Int32.ofInt (m95 79 6)) :: .int (Int32.ofInt (m95 79 7)) :: .int (Int32.ofInt (m95 79 8)) :: .int (Int32.ofInt (m95 79 9)) :: .int (Int32.ofInt (m95 79 10)) :: .int (Int32.ofInt (m95 79 11)) :: .int (Int32.ofInt (m95 79 12)) :: .int (Int32.ofInt (m95 79 13)) :: .int (Int32.ofInt (m95 79 14)) :: .ref (z_RO + 5) :: .ref (z_RO + 3) :: .int (Int32.ofInt (m95 79 17)) :: .ref 84 :: .ref 85 :: .ref 86 :: .ref 87 :: .ref 88 :: .ref 89 :: .ref 90 :: .ref 91 :: .int (Int32.ofInt (m95 79 26)) :: .int (Int32.ofInt (m95 79 27)) :: .int (Int32.ofInt (m95 79 28)) :: .int (Int32.ofInt 0) :: .int (Int32.ofInt (m95 79 30)) :: .ref 92 :: .ref 93 :: .int (Int32.ofInt (m95 79 33)) :: .int (Int32.ofInt (m95 79 34)) :: .ref 94 :: .ref 95 :: .int (Int32.ofInt (m95 79 37)) :: .int (Int32.ofInt (m95 79 38)) :: .int (Int32.ofInt (m95 79 39)) :: .int (Int32.ofInt (m95 79 40)) :: .int (Int32.ofInt (m95 79 41)) :: .int (Int32.ofInt (m95 79 42)) :: .ref 96 :: .ref 97 :: .ref 98 :: .ref 99 :: .ref 100 :: .int (Int32.ofInt (m95 79 48)) :: .int (Int32.ofInt (m95 79 49)) :: .long (Int64.ofInt (m95 79 50)) :: .ref 101 :: .ref 102 :: .int (Int32.ofInt (m95 79 53)) :: .ref 103 :: .ref 104 :: .ref 105 :: .int (Int32.ofInt (m95 79 57)) :: []))))) (st2 := (23, [(some (.ref 79)), none], [], zk c m105)) ⟨[zo, zo, zo], _, rfl, ⟨trivial, trivial, ⟨(Nat.lt_of_lt_of_le (Nat.le_of_ble_eq_true rfl) hN), rfl, rfl⟩, trivial⟩⟩ (z_steq rfl rfl ((zk_up c m95 79 29 0 _ rfl).trans (by rw [hm105]))) ?_
  obtain ⟨m115, hm115⟩ : ∃ q, q = zm_up m105 79 30 0 := ⟨_, rfl⟩
  have hIm115 := zJ_upE hIm105 hm115 (zOj_79 (by decide)) (show (0 : Int) ≤ 0 ∧ 0 ≤ 6 by omega)
  have em115 : m115 79 30 = 0 := by rw [hm115]; exact zm_eq
  have f116 : m115 79 29 = m105 79 29 := by rw [hm115]; exact zm_ne (Or.inr (by decide))
  have f117 : m115 79 28 = m105 79 28 := by rw [hm115]; exact zm_ne (Or.inr (by decide))
  have f118 : m115 79 9 = m105 79 9 := by rw [hm115]; exact zm_ne (Or.inr (by decide))
  have f119 : m115 79 10 = m105 79 10 := by rw [hm115]; exact zm_ne (Or.inr (by decide))
  have f120 : m115 79 11 = m105 79 11 := by rw [hm115]; exact zm_ne (Or.inr (by decide))
  have f121 : m115 79 12 = m105 79 12 := by rw [hm115]; exact zm_ne (Or.inr (by decide))
  have f122 : m115 79 5 = m105 79 5 := by rw [hm115]; exact zm_ne (Or.inr (by decide))
  have f123 : m115 79 8 = m105 79 8 := by rw [hm115]; exact zm_ne (Or.inr (by decide))
  have tk124 : zV9 m m115 := by rw [hm115]; exact zV9_up tk114 (by decide)
  clear tk114
  refine zW.step (st1 := (28, [(some (.ref 79)), none], [], z_hup (zk c m105) 79 (.inr (12, (.int (Int32.ofInt (m105 79 0)) :: .ref 80 :: .ref 81 :: .ref 82 :: .ref 83 :: zm_rf (m105 79 5) :: .int (Int32.ofInt (m105 79 6)) :: .int (Int32.ofInt (m105 79 7)) :: .int (Int32.ofInt (m105 79 8)) :: .int (Int32.ofInt (m105 79 9)) :: .int (Int32.ofInt (m105 79 10)) :: .int (Int32.ofInt (m105 79 11)) :: .int (Int32.ofInt (m105 79 12)) :: .int (Int32.ofInt (m105 79 13)) :: .int (Int32.ofInt (m105 79 14)) :: .ref (z_RO + 5) :: .ref (z_RO + 3) :: .int (Int32.ofInt (m105 79 17)) :: .ref 84 :: .ref 85 :: .ref 86 :: .ref 87 :: .ref 88 :: .ref 89 :: .ref 90 :: .ref 91 :: .int (Int32.ofInt (m105 79 26)) :: .int (Int32.ofInt (m105 79 27)) :: .int (Int32.ofInt (m105 79 28)) :: .int (Int32.ofInt (m105 79 29)) :: .int (Int32.ofInt 0) :: .ref 92 :: .ref 93 :: .int (Int32.ofInt (m105 79 33)) :: .int (Int32.ofInt (m105 79 34)) :: .ref 94 :: .ref 95 :: .int (Int32.ofInt (m105 79 37)) :: .int (Int32.ofInt (m105 79 38)) :: .int (Int32.ofInt (m105 79 39)) :: .int (Int32.ofInt (m105 79 40)) :: .int (Int32.ofInt (m105 79 41)) :: .int (Int32.ofInt (m105 79 42)) :: .ref 96 :: .ref 97 :: .ref 98 :: .ref 99 :: .ref 100 :: .int (Int32.ofInt (m105 79 48)) :: .int (Int32.ofInt (m105 79 49)) :: .long (Int64.ofInt (m105 79 50)) :: .ref 101 :: .ref 102 :: .int (Int32.ofInt (m105 79 53)) :: .ref 103 :: .ref 104 :: .ref 105 :: .int (Int32.ofInt (m105 79 57)) :: []))))) (st2 := (28, [(some (.ref 79)), none], [], zk c m115)) ⟨[zo, zo, zo], _, rfl, ⟨trivial, trivial, ⟨(Nat.lt_of_lt_of_le (Nat.le_of_ble_eq_true rfl) hN), rfl, rfl⟩, trivial⟩⟩ (z_steq rfl rfl ((zk_up c m105 79 30 0 _ rfl).trans (by rw [hm115]))) ?_
  refine zW.step (st1 := (30, [(some (.ref 79)), (some (.int (Int32.ofInt 1)))], [], zk c m115)) (st2 := (30, [(some (.ref 79)), (some (.int (Int32.ofInt 1)))], [], zk c m115)) ⟨[zo, zo], _, rfl, ⟨trivial, trivial, trivial⟩⟩ rfl ?_
  refine L_X12_readHouse_F_30 zn _ hN hC m _ (fun x1_125 m_125 hIm_125 i1_125 t5_125 jb_125 J1_125 J2_125 J3_125 tV_125 tK_125 xx_125 => ?_) _ 1 m115 hIm115 (by omega) (by omega) (by omega) (by intro _; exact ⟨by omega, by rw [show m115 79 10 = 0 by omega, zWm_0 (by omega) (by omega) (by omega)]; rfl⟩) (by intro h; exact absurd h (by decide)) (by intro h; exact absurd h (by decide)) tk124 (zK_0 (by omega)) rfl
  have f126 : (0 : Int) ≤ m_125 79 9 ∧ m_125 79 9 ≤ 240 := hIm_125.1 79 9
  have f127 : (0 : Int) ≤ m_125 79 10 ∧ m_125 79 10 ≤ 241 := hIm_125.1 79 10
  have f128 : (-2147483648 : Int) ≤ m_125 79 11 ∧ m_125 79 11 ≤ 2147483647 := hIm_125.1 79 11
  have f129 : (0 : Int) ≤ m_125 79 12 ∧ m_125 79 12 ≤ 6 := hIm_125.1 79 12
  have f130 : (0 : Int) ≤ m_125 79 28 ∧ m_125 79 28 ≤ 5 := hIm_125.1 79 28
  have f131 : (0 : Int) ≤ m_125 79 29 ∧ m_125 79 29 ≤ 6 := hIm_125.1 79 29
  have f132 : (0 : Int) ≤ m_125 79 30 ∧ m_125 79 30 ≤ 6 := hIm_125.1 79 30
  have f133 : (80 : Int) ≤ m_125 79 5 ∧ m_125 79 5 ≤ 81 := hIm_125.1 79 5
  have f134 : (0 : Int) ≤ m_125 79 8 ∧ m_125 79 8 ≤ 720 := hIm_125.1 79 8
  by_cases b135 : (m_125 79 11) = (-1)
  · refine zW.step (st1 := (94, [(some (.ref 79)), (some (.int (Int32.ofInt x1_125)))], [], zk c m_125)) (st2 := (94, [(some (.ref 79)), (some (.int (Int32.ofInt x1_125)))], [], zk c m_125)) ⟨[zo, zo, zo, zo], _, rfl, ⟨trivial, (Nat.lt_of_lt_of_le (Nat.le_of_ble_eq_true rfl) hN), trivial, zbf (fun q => q ((zi_eq rfl rfl (by unfold zR; omega) (⟨by decide, by decide⟩ : zR (-1))).mpr b135)), trivial⟩⟩ rfl ?_
    have K2 := J2_125 (by omega) (by omega)
    have K2a := K2.1
    have K2b := K2.2.1
    have K2z := K2.2.2.2
    have K2p := congrArg (zpk (zbT mC) (mC 79 6)) K2.2.2.2
    have K2q := congrArg (zpk (zbT mC) (mC 79 6)) K2.2.1
    refine zW.step (st1 := (95, [(some (.ref 79)), (some (.int (Int32.ofInt x1_125)))], [.ref 79], zk c m_125)) (st2 := (95, [(some (.ref 79)), (some (.int (Int32.ofInt x1_125)))], [.ref 79], zk c m_125)) ⟨[zo], _, rfl, ⟨trivial, trivial⟩⟩ rfl ?_
    obtain ⟨r137, m137, hs137, hIm137, z_137, f_137, p_137, b_137, l_137, t5_137, f9_137, d9_137, kY_137, kD_137⟩ := S_X12_look_H zn (d + 6) hN hC (m_125 79 10) m_125 hIm_125 (by omega) (by omega) (by omega)
    refine zW.step (st1 := (98, [(some (.ref 79)), (some (.int (Int32.ofInt x1_125)))], [.int (Int32.ofInt r137)], zk c m137)) ⟨[zc (some (.int (Int32.ofInt r137))) (zk c m137)], _, rfl, ⟨⟨⟨(Nat.lt_of_lt_of_le (Nat.le_of_ble_eq_true rfl) hN), (Nat.le_of_ble_eq_true rfl)⟩, hs137, (Nat.le_of_ble_eq_true rfl), Nat.le_refl _, Nat.le_refl _, Nat.le_refl _, Nat.le_refl _⟩, trivial⟩⟩ rfl ?_
    have f138 : (0 : Int) ≤ m137 79 9 ∧ m137 79 9 ≤ 240 := hIm137.1 79 9
    have f139 : m137 79 9 = m_125 79 9 := kD_137 79 9 (by omega)
    have f140 : (0 : Int) ≤ m137 79 10 ∧ m137 79 10 ≤ 241 := hIm137.1 79 10
    have f141 : (-2147483648 : Int) ≤ m137 79 11 ∧ m137 79 11 ≤ 2147483647 := hIm137.1 79 11
    have f142 : (0 : Int) ≤ m137 79 12 ∧ m137 79 12 ≤ 6 := hIm137.1 79 12
    have f143 : (0 : Int) ≤ m137 79 28 ∧ m137 79 28 ≤ 5 := hIm137.1 79 28
    have f144 : m137 79 28 = m_125 79 28 := kD_137 79 28 (by omega)
    have f145 : m137 79 28 = m_125 79 28 := kY_137 79 28 (by unfold zYs; decide)
    have f146 : (0 : Int) ≤ m137 79 29 ∧ m137 79 29 ≤ 6 := hIm137.1 79 29
    have f147 : m137 79 29 = m_125 79 29 := kD_137 79 29 (by omega)
    have f148 : m137 79 29 = m_125 79 29 := kY_137 79 29 (by unfold zYs; decide)
    have f149 : (0 : Int) ≤ m137 79 30 ∧ m137 79 30 ≤ 6 := hIm137.1 79 30
    have f150 : m137 79 30 = m_125 79 30 := kD_137 79 30 (by omega)
    have f151 : m137 79 30 = m_125 79 30 := kY_137 79 30 (by unfold zYs; decide)
    have f152 : (80 : Int) ≤ m137 79 5 ∧ m137 79 5 ≤ 81 := hIm137.1 79 5
    have f153 : m137 79 5 = m_125 79 5 := kD_137 79 5 (by omega)
    have f154 : (0 : Int) ≤ m137 79 8 ∧ m137 79 8 ≤ 720 := hIm137.1 79 8
    have f155 : m137 79 8 = m_125 79 8 := kD_137 79 8 (by omega)
    have tk156 : zV9 m m137 := zV9_tr tV_125 (zY_V kY_137)
    have tk157 : zK m137 (m_125 79 29) := zK_Y tK_125 kY_137
    by_cases b158 : r137 = (-1)
    · refine zW.step (st1 := (102, [(some (.ref 79)), (some (.int (Int32.ofInt x1_125)))], [], zk c m137)) (st2 := (102, [(some (.ref 79)), (some (.int (Int32.ofInt x1_125)))], [], zk c m137)) ⟨[zo, zo], _, rfl, ⟨trivial, zbf (fun q => q ((zi_eq rfl rfl (by unfold zR; omega) (⟨by decide, by decide⟩ : zR (-1))).mpr b158)), trivial⟩⟩ rfl ?_
      refine zW.step (st1 := (103, [(some (.ref 79)), (some (.int (Int32.ofInt x1_125)))], [.ref 79], zk c m137)) (st2 := (103, [(some (.ref 79)), (some (.int (Int32.ofInt x1_125)))], [.ref 79], zk c m137)) ⟨[zo], _, rfl, ⟨trivial, trivial⟩⟩ rfl ?_
      obtain ⟨r159, hs159, z_159, q_159, t_159, f_159⟩ := S_X12_isWhole_F zn (d + 6) hN hC m137 hIm137
      refine zW.step (st1 := (106, [(some (.ref 79)), (some (.int (Int32.ofInt x1_125)))], [.int (Int32.ofInt r159)], zk c m137)) ⟨[zc (some (.int (Int32.ofInt r159))) (zk c m137)], _, rfl, ⟨⟨⟨(Nat.lt_of_lt_of_le (Nat.le_of_ble_eq_true rfl) hN), (Nat.le_of_ble_eq_true rfl)⟩, hs159, (Nat.le_of_ble_eq_true rfl), Nat.le_refl _, Nat.le_refl _, Nat.le_refl _, Nat.le_refl _⟩, trivial⟩⟩ rfl ?_
      have h7 : ∀ p, m137 91 p ≤ 8 := fun p => (hIm137.1 91 p).2
      have hCw := zwh_M (m := m137) h7
      have qW2 : zWm m137 = (zhs (zbT mC) (mC 79 6)).2.2 := (zWm_D kD_137).trans K2.2.2.1.symm
      have qn := zpk_n hIm137 (a := m137 79 10) (by omega) (by have e9 : m137 79 10 = znx (zbT mC) (mC 79 6) (m_125 79 10) := (by omega); rw [e9]; omega)
      by_cases b161 : r159 = 0
      · refine zW.step (st1 := (109, [(some (.ref 79)), (some (.int (Int32.ofInt x1_125)))], [], zk c m137)) (st2 := (109, [(some (.ref 79)), (some (.int (Int32.ofInt x1_125)))], [], zk c m137)) ⟨[zo], _, rfl, ⟨zbf (fun q => q ((zi_eq rfl (rfl : (0 : Int32) = Int32.ofInt 0) (by unfold zR; omega) (⟨by decide, by decide⟩ : zR 0)).mpr b161)), trivial⟩⟩ rfl ?_
        refine zW.step (st1 := (110, [(some (.ref 79)), (some (.int (Int32.ofInt x1_125)))], [.ref 79], zk c m137)) (st2 := (110, [(some (.ref 79)), (some (.int (Int32.ofInt x1_125)))], [.ref 79], zk c m137)) ⟨[zo], _, rfl, ⟨trivial, trivial⟩⟩ rfl ?_
        obtain ⟨r162, m162, hs162, hIm162, q_162, f_162, p_162, t5_162, d9_162, kY_162, kD_162⟩ := S_X12_fails_H zn (d + 6) hN hC (znx (zbT mC) (mC 79 6) (m_125 79 10)) m137 hIm137 (by omega) (by omega)
        subst q_162
        refine zW.step (st1 := (113, [(some (.ref 79)), (some (.int (Int32.ofInt x1_125)))], [.int (Int32.ofInt 0)], zk c m162)) ⟨[zc (some (.int (Int32.ofInt 0))) (zk c m162)], _, rfl, ⟨⟨⟨(Nat.lt_of_lt_of_le (Nat.le_of_ble_eq_true rfl) hN), (Nat.le_of_ble_eq_true rfl)⟩, hs162, (Nat.le_of_ble_eq_true rfl), Nat.le_refl _, Nat.le_refl _, Nat.le_refl _, Nat.le_refl _⟩, trivial⟩⟩ rfl ?_
        have f163 : (0 : Int) ≤ m162 79 9 ∧ m162 79 9 ≤ 240 := hIm162.1 79 9
        have f164 : m162 79 9 = m137 79 9 := kD_162 79 9 (by omega)
        have f165 : (0 : Int) ≤ m162 79 10 ∧ m162 79 10 ≤ 241 := hIm162.1 79 10
        have f166 : (-2147483648 : Int) ≤ m162 79 11 ∧ m162 79 11 ≤ 2147483647 := hIm162.1 79 11
        have f167 : (0 : Int) ≤ m162 79 12 ∧ m162 79 12 ≤ 6 := hIm162.1 79 12
        have f168 : (0 : Int) ≤ m162 79 28 ∧ m162 79 28 ≤ 5 := hIm162.1 79 28
        have f169 : m162 79 28 = m137 79 28 := kD_162 79 28 (by omega)
        have f170 : m162 79 28 = m137 79 28 := kY_162 79 28 (by unfold zYs; decide)
        have f171 : (0 : Int) ≤ m162 79 29 ∧ m162 79 29 ≤ 6 := hIm162.1 79 29
        have f172 : m162 79 29 = m137 79 29 := kD_162 79 29 (by omega)
        have f173 : m162 79 29 = m137 79 29 := kY_162 79 29 (by unfold zYs; decide)
        have f174 : (0 : Int) ≤ m162 79 30 ∧ m162 79 30 ≤ 6 := hIm162.1 79 30
        have f175 : m162 79 30 = m137 79 30 := kD_162 79 30 (by omega)
        have f176 : m162 79 30 = m137 79 30 := kY_162 79 30 (by unfold zYs; decide)
        have f177 : (80 : Int) ≤ m162 79 5 ∧ m162 79 5 ≤ 81 := hIm162.1 79 5
        have f178 : m162 79 5 = m137 79 5 := kD_162 79 5 (by omega)
        have f179 : (0 : Int) ≤ m162 79 8 ∧ m162 79 8 ≤ 720 := hIm162.1 79 8
        have f180 : m162 79 8 = m137 79 8 := kD_162 79 8 (by omega)
        have tk181 : zV9 m m162 := zV9_tr tk156 (zY_V kY_162)
        have tk182 : zK m162 (m_125 79 29) := zK_Y tk157 kY_162
        refine zW.step (st1 := (114, [(some (.ref 79)), (some (.int (Int32.ofInt x1_125)))], [], zk c m162)) (st2 := (114, [(some (.ref 79)), (some (.int (Int32.ofInt x1_125)))], [], zk c m162)) ⟨[zo], _, rfl, ⟨trivial, trivial⟩⟩ rfl ?_
        exact zW.fin (zfin_v rfl rfl) ⟨m162, rfl, rfl, hIm162, (by omega), (by first | (exact Or.inr (Or.inr (Or.inl ⟨by omega, by omega, fun h => f_159 (by omega) (hCw.mp (by rw [qW2]; exact h)), by omega⟩))) | (exact Or.inr (Or.inl ⟨by omega, by omega, by omega⟩))), (by intro h; exfalso; omega), tk181, (zK_cg tk182 (by omega))⟩
      · refine zW.step (st1 := (114, [(some (.ref 79)), (some (.int (Int32.ofInt x1_125)))], [], zk c m137)) (st2 := (114, [(some (.ref 79)), (some (.int (Int32.ofInt x1_125)))], [], zk c m137)) ⟨[zt], _, rfl, ⟨zbt (fun q => b161 ((zi_eq rfl (rfl : (0 : Int32) = Int32.ofInt 0) (by unfold zR; omega) (⟨by decide, by decide⟩ : zR 0)).mp q)), trivial⟩⟩ rfl ?_
        exact zW.fin (zfin_v rfl rfl) ⟨m137, rfl, rfl, hIm137, (by omega), (by exact Or.inr (Or.inr (Or.inr ⟨by omega, by omega, by rw [← qW2]; exact hCw.mpr (t_159 (by omega)), by omega⟩))), (by intro _; exact qW2), tk156, (zK_cg tk157 (by omega))⟩
    · refine zW.step (st1 := (109, [(some (.ref 79)), (some (.int (Int32.ofInt x1_125)))], [], zk c m137)) (st2 := (109, [(some (.ref 79)), (some (.int (Int32.ofInt x1_125)))], [], zk c m137)) ⟨[zo, zt], _, rfl, ⟨trivial, zbt (fun q => b158 ((zi_eq rfl rfl (by unfold zR; omega) (⟨by decide, by decide⟩ : zR (-1))).mp q)), trivial⟩⟩ rfl ?_
      refine zW.step (st1 := (110, [(some (.ref 79)), (some (.int (Int32.ofInt x1_125)))], [.ref 79], zk c m137)) (st2 := (110, [(some (.ref 79)), (some (.int (Int32.ofInt x1_125)))], [.ref 79], zk c m137)) ⟨[zo], _, rfl, ⟨trivial, trivial⟩⟩ rfl ?_
      obtain ⟨r183, m183, hs183, hIm183, q_183, f_183, p_183, t5_183, d9_183, kY_183, kD_183⟩ := S_X12_fails_H zn (d + 6) hN hC (znx (zbT mC) (mC 79 6) (m_125 79 10)) m137 hIm137 (by omega) (by omega)
      subst q_183
      refine zW.step (st1 := (113, [(some (.ref 79)), (some (.int (Int32.ofInt x1_125)))], [.int (Int32.ofInt 0)], zk c m183)) ⟨[zc (some (.int (Int32.ofInt 0))) (zk c m183)], _, rfl, ⟨⟨⟨(Nat.lt_of_lt_of_le (Nat.le_of_ble_eq_true rfl) hN), (Nat.le_of_ble_eq_true rfl)⟩, hs183, (Nat.le_of_ble_eq_true rfl), Nat.le_refl _, Nat.le_refl _, Nat.le_refl _, Nat.le_refl _⟩, trivial⟩⟩ rfl ?_
      have f184 : (0 : Int) ≤ m183 79 9 ∧ m183 79 9 ≤ 240 := hIm183.1 79 9
      have f185 : m183 79 9 = m137 79 9 := kD_183 79 9 (by omega)
      have f186 : (0 : Int) ≤ m183 79 10 ∧ m183 79 10 ≤ 241 := hIm183.1 79 10
      have f187 : (-2147483648 : Int) ≤ m183 79 11 ∧ m183 79 11 ≤ 2147483647 := hIm183.1 79 11
      have f188 : (0 : Int) ≤ m183 79 12 ∧ m183 79 12 ≤ 6 := hIm183.1 79 12
      have f189 : (0 : Int) ≤ m183 79 28 ∧ m183 79 28 ≤ 5 := hIm183.1 79 28
      have f190 : m183 79 28 = m137 79 28 := kD_183 79 28 (by omega)
      have f191 : m183 79 28 = m137 79 28 := kY_183 79 28 (by unfold zYs; decide)
      have f192 : (0 : Int) ≤ m183 79 29 ∧ m183 79 29 ≤ 6 := hIm183.1 79 29
      have f193 : m183 79 29 = m137 79 29 := kD_183 79 29 (by omega)
      have f194 : m183 79 29 = m137 79 29 := kY_183 79 29 (by unfold zYs; decide)
      have f195 : (0 : Int) ≤ m183 79 30 ∧ m183 79 30 ≤ 6 := hIm183.1 79 30
      have f196 : m183 79 30 = m137 79 30 := kD_183 79 30 (by omega)
      have f197 : m183 79 30 = m137 79 30 := kY_183 79 30 (by unfold zYs; decide)
      have f198 : (80 : Int) ≤ m183 79 5 ∧ m183 79 5 ≤ 81 := hIm183.1 79 5
      have f199 : m183 79 5 = m137 79 5 := kD_183 79 5 (by omega)
      have f200 : (0 : Int) ≤ m183 79 8 ∧ m183 79 8 ≤ 720 := hIm183.1 79 8
      have f201 : m183 79 8 = m137 79 8 := kD_183 79 8 (by omega)
      have tk202 : zV9 m m183 := zV9_tr tk156 (zY_V kY_183)
      have tk203 : zK m183 (m_125 79 29) := zK_Y tk157 kY_183
      refine zW.step (st1 := (114, [(some (.ref 79)), (some (.int (Int32.ofInt x1_125)))], [], zk c m183)) (st2 := (114, [(some (.ref 79)), (some (.int (Int32.ofInt x1_125)))], [], zk c m183)) ⟨[zo], _, rfl, ⟨trivial, trivial⟩⟩ rfl ?_
      exact zW.fin (zfin_v rfl rfl) ⟨m183, rfl, rfl, hIm183, (by omega), (by first | (exact Or.inr (Or.inr (Or.inl ⟨by omega, by omega, fun h => f_159 (by omega) (hCw.mp (by rw [qW2]; exact h)), by omega⟩))) | (exact Or.inr (Or.inl ⟨by omega, by omega, by omega⟩))), (by intro h; exfalso; omega), tk202, (zK_cg tk203 (by omega))⟩
  · refine zW.step (st1 := (114, [(some (.ref 79)), (some (.int (Int32.ofInt x1_125)))], [], zk c m_125)) (st2 := (114, [(some (.ref 79)), (some (.int (Int32.ofInt x1_125)))], [], zk c m_125)) ⟨[zo, zo, zo, zt], _, rfl, ⟨trivial, (Nat.lt_of_lt_of_le (Nat.le_of_ble_eq_true rfl) hN), trivial, zbt (fun q => b135 ((zi_eq rfl rfl (by unfold zR; omega) (⟨by decide, by decide⟩ : zR (-1))).mp q)), trivial⟩⟩ rfl ?_
    exact zW.fin (zfin_v rfl rfl) ⟨m_125, rfl, rfl, hIm_125, (by omega), (by have q9 := J3_125 (by rcases (show x1_125 = 0 ∨ x1_125 = 1 by omega) with h | h; exact h; (have h2 := (J1_125 h).1; omega)) (by omega); exact Or.inl ⟨q9.1, by omega⟩), (by intro h; exfalso; omega), tV_125, (zK_cg tK_125 (by omega))⟩

