/-! texts, by program (wip/tools/gw5): X12_fault_0F -/
set_option maxRecDepth 100000 in
set_option maxHeartbeats 4000000 in
theorem S_X12_fault_0F (zn : Bool) (d : Nat) {c : Nat × Nat} {mC : zM} {t9 : Int} {e9 : Nat} (hN : 107 ≤ c.1) (hC : c.1 < z_RO) (sort : Int) (m : zM) (hIm : zJ mC t9 e9 m) (r_sort : -2147483648 ≤ sort ∧ sort ≤ 2147483647) (hs0 : sort = 0) : zCi zn (d + 33) 211 [.ref 79, .int (Int32.ofInt sort)] c m (fun (r : Int) (m1 : zM) => zJ mC t9 e9 m1 ∧ (-2147483648 ≤ r ∧ r ≤ 2147483647) ∧ (sort = 0 → r = -1 → 1 ≤ m1 79 28 ∧ 1 ≤ m1 79 29 ∧ 1 ≤ m1 79 30) ∧ (sort = 0 → zK m1 (m1 79 29)) ∧ (zhf (zbT mC) (mC 79 6) r) ∧ (r = -1 → zWm m1 = (zhs (zbT mC) (mC 79 6)).2.2) ∧ zV9 m m1) := by
  refine zCi.of zu_X12_fault hC (Nat.le_of_ble_eq_true rfl) ?_
  show zW zn (d + 32) 211 c (0, [(some (.ref 79)), (some (.int (Int32.ofInt sort)))], [], zk c m) (fun v h1 => ∃ (r : Int) (m1 : zM), v = some (.int (Int32.ofInt r)) ∧ h1 = zk c m1 ∧ zJ mC t9 e9 m1 ∧ (-2147483648 ≤ r ∧ r ≤ 2147483647) ∧ (sort = 0 → r = -1 → 1 ≤ m1 79 28 ∧ 1 ≤ m1 79 29 ∧ 1 ≤ m1 79 30) ∧ (sort = 0 → zK m1 (m1 79 29)) ∧ (zhf (zbT mC) (mC 79 6) r) ∧ (r = -1 → zWm m1 = (zhs (zbT mC) (mC 79 6)).2.2) ∧ zV9 m m1)
  have f1 : (0 : Int) ≤ m 79 9 ∧ m 79 9 ≤ 240 := hIm.1 79 9
  have f2 : (0 : Int) ≤ m 79 10 ∧ m 79 10 ≤ 241 := hIm.1 79 10
  have f3 : (-2147483648 : Int) ≤ m 79 11 ∧ m 79 11 ≤ 2147483647 := hIm.1 79 11
  have f4 : (0 : Int) ≤ m 79 12 ∧ m 79 12 ≤ 6 := hIm.1 79 12
  have f5 : (0 : Int) ≤ m 79 28 ∧ m 79 28 ≤ 5 := hIm.1 79 28
  have f6 : (0 : Int) ≤ m 79 29 ∧ m 79 29 ≤ 6 := hIm.1 79 29
  have f7 : (0 : Int) ≤ m 79 30 ∧ m 79 30 ≤ 6 := hIm.1 79 30
  obtain ⟨m8, hm8⟩ : ∃ q, q = zm_up m 79 0 0 := ⟨_, rfl⟩
  have hIm8 := zJ_upE hIm hm8 (zOj_79 (by decide)) (show (0 : Int) ≤ 0 ∧ 0 ≤ 1 by omega)
  have em8 : m8 79 0 = 0 := by rw [hm8]; exact zm_eq
  have f9 : m8 79 9 = m 79 9 := by rw [hm8]; exact zm_ne (Or.inr (by decide))
  have f10 : m8 79 10 = m 79 10 := by rw [hm8]; exact zm_ne (Or.inr (by decide))
  have f11 : m8 79 11 = m 79 11 := by rw [hm8]; exact zm_ne (Or.inr (by decide))
  have f12 : m8 79 12 = m 79 12 := by rw [hm8]; exact zm_ne (Or.inr (by decide))
  have f13 : m8 79 28 = m 79 28 := by rw [hm8]; exact zm_ne (Or.inr (by decide))
  have f14 : m8 79 29 = m 79 29 := by rw [hm8]; exact zm_ne (Or.inr (by decide))
  have f15 : m8 79 30 = m 79 30 := by rw [hm8]; exact zm_ne (Or.inr (by decide))
  have tk16 : zV9 m m8 := by rw [hm8]; exact zV9_up zV9_rf (by decide)
  refine zW.step (st1 := (5, [(some (.ref 79)), (some (.int (Int32.ofInt sort)))], [], z_hup (zk c m) 79 (.inr (12, (.int (Int32.ofInt 0) :: .ref 80 :: .ref 81 :: .ref 82 :: .ref 83 :: zm_rf (m 79 5) :: .int (Int32.ofInt (m 79 6)) :: .int (Int32.ofInt (m 79 7)) :: .int (Int32.ofInt (m 79 8)) :: .int (Int32.ofInt (m 79 9)) :: .int (Int32.ofInt (m 79 10)) :: .int (Int32.ofInt (m 79 11)) :: .int (Int32.ofInt (m 79 12)) :: .int (Int32.ofInt (m 79 13)) :: .int (Int32.ofInt (m 79 14)) :: .ref (z_RO + 5) :: .ref (z_RO + 3) :: .int (Int32.ofInt (m 79 17)) :: .ref 84 :: .ref 85 :: .ref 86 :: .ref 87 :: .ref 88 :: .ref 89 :: .ref 90 :: .ref 91 :: .int (Int32.ofInt (m 79 26)) :: .int (Int32.ofInt (m 79 27)) :: .int (Int32.ofInt (m 79 28)) :: .int (Int32.ofInt (m 79 29)) :: .int (Int32.ofInt (m 79 30)) :: .ref 92 :: .ref 93 :: .int (Int32.ofInt (m 79 33)) :: .int (Int32.ofInt (m 79 34)) :: .ref 94 :: .ref 95 :: .int (Int32.ofInt (m 79 37)) :: .int (Int32.ofInt (m 79 38)) :: .int (Int32.ofInt (m 79 39)) :: .int (Int32.ofInt (m 79 40)) :: .int (Int32.ofInt (m 79 41)) :: .int (Int32.ofInt (m 79 42)) :: .ref 96 :: .ref 97 :: .ref 98 :: .ref 99 :: .ref 100 :: .int (Int32.ofInt (m 79 48)) :: .int (Int32.ofInt (m 79 49)) :: .long (Int64.ofInt (m 79 50)) :: .ref 101 :: .ref 102 :: .int (Int32.ofInt (m 79 53)) :: .ref 103 :: .ref 104 :: .ref 105 :: .int (Int32.ofInt (m 79 57)) :: []))))) (st2 := (5, [(some (.ref 79)), (some (.int (Int32.ofInt sort)))], [], zk c m8)) ⟨[zo, zo, zo], _, rfl, ⟨trivial, trivial, ⟨(Nat.lt_of_lt_of_le (Nat.le_of_ble_eq_true rfl) hN), rfl, rfl⟩, trivial⟩⟩ (z_steq rfl rfl ((zk_up c m 79 0 0 _ rfl).trans (by rw [hm8]))) ?_
  refine zW.step (st1 := (9, [(some (.ref 79)), (some (.int (Int32.ofInt sort)))], [.long (Int64.ofNat 1), .long (Int64.ofNat 0), .long ((Int32.ofInt sort).toInt64)], zk c m8)) (st2 := (9, [(some (.ref 79)), (some (.int (Int32.ofInt sort)))], [.long (Int64.ofInt 1), .long (Int64.ofInt 0), .long (Int64.ofInt sort)], zk c m8)) ⟨[zo, zo, zo, zo], _, rfl, ⟨trivial, trivial, trivial, trivial, trivial⟩⟩ (z_steq rfl (z_c1 (z_vl (by decide : Int64.ofNat 1 = Int64.ofInt 1)) (z_c1 (z_vl (by decide : Int64.ofNat 0 = Int64.ofInt 0)) (z_c1 (z_vl (zi_i2l rfl (by unfold zR; omega))) rfl))) rfl) ?_
  obtain ⟨r17, hs17, z_17, q_17⟩ := S_X12_isIn zn (d + 31) hN hC sort 0 1 m8 hIm8 (by omega) (by omega) (by omega)
  refine zW.step (st1 := (12, [(some (.ref 79)), (some (.int (Int32.ofInt sort)))], [.int (Int32.ofInt r17)], zk c m8)) ⟨[zc (some (.int (Int32.ofInt r17))) (zk c m8)], _, rfl, ⟨⟨(Nat.le_of_ble_eq_true rfl), hs17, (Nat.le_of_ble_eq_true rfl), Nat.le_refl _, Nat.le_refl _, Nat.le_refl _, Nat.le_refl _⟩, trivial⟩⟩ rfl ?_
  by_cases b18 : r17 = 0
  · refine zW.step (st1 := (15, [(some (.ref 79)), (some (.int (Int32.ofInt sort)))], [], zk c m8)) (st2 := (15, [(some (.ref 79)), (some (.int (Int32.ofInt sort)))], [], zk c m8)) ⟨[zo], _, rfl, ⟨zbf (fun q => q ((zi_eq rfl (rfl : (0 : Int32) = Int32.ofInt 0) (by unfold zR; omega) (⟨by decide, by decide⟩ : zR 0)).mpr b18)), trivial⟩⟩ rfl ?_
    have f19 : (0 : Int) ≤ m8 79 9 ∧ m8 79 9 ≤ 240 := hIm8.1 79 9
    have f20 : (0 : Int) ≤ m8 79 10 ∧ m8 79 10 ≤ 241 := hIm8.1 79 10
    have f21 : (-2147483648 : Int) ≤ m8 79 11 ∧ m8 79 11 ≤ 2147483647 := hIm8.1 79 11
    have f22 : (0 : Int) ≤ m8 79 12 ∧ m8 79 12 ≤ 6 := hIm8.1 79 12
    have f23 : (0 : Int) ≤ m8 79 28 ∧ m8 79 28 ≤ 5 := hIm8.1 79 28
    have f24 : (0 : Int) ≤ m8 79 29 ∧ m8 79 29 ≤ 6 := hIm8.1 79 29
    have f25 : (0 : Int) ≤ m8 79 30 ∧ m8 79 30 ≤ 6 := hIm8.1 79 30
    refine zW.step (st1 := (17, [(some (.ref 79)), (some (.int (Int32.ofInt sort)))], [.int ((Int8.ofInt (-2)).toInt32)], zk c m8)) (st2 := (17, [(some (.ref 79)), (some (.int (Int32.ofInt sort)))], [.int (Int32.ofInt (-2))], zk c m8)) ⟨[zo], _, rfl, ⟨trivial, trivial⟩⟩ (z_steq rfl (z_c1 (z_vi (by decide : (Int8.ofInt (-2)).toInt32 = Int32.ofInt (-2))) rfl) rfl) ?_
    exact zW.fin (zfin_i rfl rfl rfl) ⟨(-2), m8, rfl, rfl, hIm8, (by omega), (by omega), (by intro q; omega), (by omega), (by omega), tk16⟩
  · refine zW.step (st1 := (18, [(some (.ref 79)), (some (.int (Int32.ofInt sort)))], [], zk c m8)) (st2 := (18, [(some (.ref 79)), (some (.int (Int32.ofInt sort)))], [], zk c m8)) ⟨[zt], _, rfl, ⟨zbt (fun q => b18 ((zi_eq rfl (rfl : (0 : Int32) = Int32.ofInt 0) (by unfold zR; omega) (⟨by decide, by decide⟩ : zR 0)).mp q)), trivial⟩⟩ rfl ?_
    have f26 : (0 : Int) ≤ m8 79 9 ∧ m8 79 9 ≤ 240 := hIm8.1 79 9
    have f27 : (0 : Int) ≤ m8 79 10 ∧ m8 79 10 ≤ 241 := hIm8.1 79 10
    have f28 : (-2147483648 : Int) ≤ m8 79 11 ∧ m8 79 11 ≤ 2147483647 := hIm8.1 79 11
    have f29 : (0 : Int) ≤ m8 79 12 ∧ m8 79 12 ≤ 6 := hIm8.1 79 12
    have f30 : (0 : Int) ≤ m8 79 28 ∧ m8 79 28 ≤ 5 := hIm8.1 79 28
    have f31 : (0 : Int) ≤ m8 79 29 ∧ m8 79 29 ≤ 6 := hIm8.1 79 29
    have f32 : (0 : Int) ≤ m8 79 30 ∧ m8 79 30 ≤ 6 := hIm8.1 79 30
    by_cases b33 : sort = 0
    · refine zW.step (st1 := (22, [(some (.ref 79)), (some (.int (Int32.ofInt sort)))], [], zk c m8)) (st2 := (22, [(some (.ref 79)), (some (.int (Int32.ofInt sort)))], [], zk c m8)) ⟨[zo, zo], _, rfl, ⟨trivial, zbf (fun q => q ((zi_eq rfl (rfl : (0 : Int32) = Int32.ofInt 0) (by unfold zR; omega) (⟨by decide, by decide⟩ : zR 0)).mpr b33)), trivial⟩⟩ rfl ?_
      refine zW.step (st1 := (23, [(some (.ref 79)), (some (.int (Int32.ofInt sort)))], [.ref 79], zk c m8)) (st2 := (23, [(some (.ref 79)), (some (.int (Int32.ofInt sort)))], [.ref 79], zk c m8)) ⟨[zo], _, rfl, ⟨trivial, trivial⟩⟩ rfl ?_
      obtain ⟨m34, hs34, hIm34, hs_34, f_34, s_34, kV_34, kK_34⟩ := S_X12_readHouse_F zn (d + 24) hN hC m8 hIm8
      refine zW.step (st1 := (26, [(some (.ref 79)), (some (.int (Int32.ofInt sort)))], [], zk c m34)) ⟨[zc (none) (zk c m34)], _, rfl, ⟨⟨⟨(Nat.lt_of_lt_of_le (Nat.le_of_ble_eq_true rfl) hN), (Nat.le_of_ble_eq_true rfl)⟩, hs34, (Nat.le_of_ble_eq_true rfl), Nat.le_refl _, Nat.le_refl _, Nat.le_refl _, Nat.le_refl _⟩, trivial⟩⟩ rfl ?_
      have f35 : (0 : Int) ≤ m34 79 9 ∧ m34 79 9 ≤ 240 := hIm34.1 79 9
      have f36 : (0 : Int) ≤ m34 79 10 ∧ m34 79 10 ≤ 241 := hIm34.1 79 10
      have f37 : (-2147483648 : Int) ≤ m34 79 11 ∧ m34 79 11 ≤ 2147483647 := hIm34.1 79 11
      have f38 : (0 : Int) ≤ m34 79 12 ∧ m34 79 12 ≤ 6 := hIm34.1 79 12
      have f39 : (0 : Int) ≤ m34 79 28 ∧ m34 79 28 ≤ 5 := hIm34.1 79 28
      have f40 : (0 : Int) ≤ m34 79 29 ∧ m34 79 29 ≤ 6 := hIm34.1 79 29
      have f41 : (0 : Int) ≤ m34 79 30 ∧ m34 79 30 ≤ 6 := hIm34.1 79 30
      have tk42 : zV9 m m34 := zV9_tr tk16 kV_34
      refine zW.step (st1 := (46, [(some (.ref 79)), (some (.int (Int32.ofInt sort)))], [.int (Int32.ofInt (m34 79 11))], zk c m34)) (st2 := (46, [(some (.ref 79)), (some (.int (Int32.ofInt sort)))], [.int (Int32.ofInt (m34 79 11))], zk c m34)) ⟨[zo, zo, zo], _, rfl, ⟨trivial, trivial, (Nat.lt_of_lt_of_le (Nat.le_of_ble_eq_true rfl) hN), trivial⟩⟩ rfl ?_
      exact zW.fin (zfin_i rfl rfl rfl) ⟨m34 79 11, m34, rfl, rfl, hIm34, (by omega), (by omega), (by intro q; omega), (by omega), (by omega), tk42⟩
    · refine zW.step (st1 := (29, [(some (.ref 79)), (some (.int (Int32.ofInt sort)))], [], zk c m8)) (st2 := (29, [(some (.ref 79)), (some (.int (Int32.ofInt sort)))], [], zk c m8)) ⟨[zo, zt], _, rfl, ⟨trivial, zbt (fun q => b33 ((zi_eq rfl (rfl : (0 : Int32) = Int32.ofInt 0) (by unfold zR; omega) (⟨by decide, by decide⟩ : zR 0)).mp q)), trivial⟩⟩ rfl ?_
      have f43 : (0 : Int) ≤ m8 79 6 ∧ m8 79 6 ≤ 240 := hIm8.1 79 6
      refine zW.step (st1 := (39, [(some (.ref 79)), (some (.int (Int32.ofInt sort)))], [.int (Int32.ofInt (m8 79 6)), .int (Int32.ofInt 0), .ref 80, .ref 79], zk c m8)) (st2 := (39, [(some (.ref 79)), (some (.int (Int32.ofInt sort)))], [.int (Int32.ofInt (m8 79 6)), .int (Int32.ofInt 0), .ref 80, .ref 79], zk c m8)) ⟨[zo, zo, zo, zo, zo, zo], _, rfl, ⟨trivial, trivial, (Nat.lt_of_lt_of_le (Nat.le_of_ble_eq_true rfl) hN), trivial, trivial, (Nat.lt_of_lt_of_le (Nat.le_of_ble_eq_true rfl) hN), trivial⟩⟩ rfl ?_
      obtain ⟨m44, hs44, hIm44, kY_44⟩ := S_X12_goThrough_80 zn (d + 0) hN hC 0 (m8 79 6) m8 hIm8 (by omega) (by omega) (by omega) (by omega)
      refine zW.step (st1 := (42, [(some (.ref 79)), (some (.int (Int32.ofInt sort)))], [], zk c m44)) ⟨[zc (none) (zk c m44)], _, rfl, ⟨⟨⟨(Nat.lt_of_lt_of_le (Nat.le_of_ble_eq_true rfl) hN), (Nat.le_of_ble_eq_true rfl)⟩, hs44, (Nat.le_of_ble_eq_true rfl), Nat.le_refl _, Nat.le_refl _, Nat.le_refl _, Nat.le_refl _⟩, trivial⟩⟩ rfl ?_
      have f45 : (0 : Int) ≤ m44 79 9 ∧ m44 79 9 ≤ 240 := hIm44.1 79 9
      have f46 : (0 : Int) ≤ m44 79 10 ∧ m44 79 10 ≤ 241 := hIm44.1 79 10
      have f47 : (-2147483648 : Int) ≤ m44 79 11 ∧ m44 79 11 ≤ 2147483647 := hIm44.1 79 11
      have f48 : (0 : Int) ≤ m44 79 12 ∧ m44 79 12 ≤ 6 := hIm44.1 79 12
      have f49 : (0 : Int) ≤ m44 79 28 ∧ m44 79 28 ≤ 5 := hIm44.1 79 28
      have f50 : m44 79 28 = m8 79 28 := kY_44 79 28 (by unfold zYs; decide)
      have f51 : (0 : Int) ≤ m44 79 29 ∧ m44 79 29 ≤ 6 := hIm44.1 79 29
      have f52 : m44 79 29 = m8 79 29 := kY_44 79 29 (by unfold zYs; decide)
      have f53 : (0 : Int) ≤ m44 79 30 ∧ m44 79 30 ≤ 6 := hIm44.1 79 30
      have f54 : m44 79 30 = m8 79 30 := kY_44 79 30 (by unfold zYs; decide)
      have tk55 : zV9 m m44 := zV9_tr tk16 (zY_V kY_44)
      refine zW.step (st1 := (46, [(some (.ref 79)), (some (.int (Int32.ofInt sort)))], [.int (Int32.ofInt (m44 79 11))], zk c m44)) (st2 := (46, [(some (.ref 79)), (some (.int (Int32.ofInt sort)))], [.int (Int32.ofInt (m44 79 11))], zk c m44)) ⟨[zo, zo], _, rfl, ⟨trivial, (Nat.lt_of_lt_of_le (Nat.le_of_ble_eq_true rfl) hN), trivial⟩⟩ rfl ?_
      exact zW.fin (zfin_i rfl rfl rfl) ⟨m44 79 11, m44, rfl, rfl, hIm44, (by omega), (by omega), (by intro q; omega), (by omega), (by omega), tk55⟩

