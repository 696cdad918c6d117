/-! texts, by program (wip/tools/gw5): X12_fault_1F -/
set_option maxRecDepth 100000 in
set_option maxHeartbeats 4000000 in
theorem S_X12_fault_1F (zn : Bool) (d : Nat) {c : Nat × Nat} {mC : zM} {t9 : Int} {e9 : Nat} (hN : 107 ≤ c.1) (hC : c.1 < z_RO) (sort : Int) (m : zM) (hIm : zJ mC t9 e9 m) (r_sort : -2147483648 ≤ sort ∧ sort ≤ 2147483647) (hs1 : sort = 1) : zCi zn (d + 33) 211 [.ref 79, .int (Int32.ofInt sort)] c m (fun (r : Int) (m1 : zM) => zJ mC t9 e9 m1 ∧ (-2147483648 ≤ r ∧ r ≤ 2147483647) ∧ (r = zt_fault (zbT mC) (mC 79 6)) ∧ zY m m1) := by
  refine zCi.of zu_X12_fault hC (Nat.le_of_ble_eq_true rfl) ?_
  show zW zn (d + 32) 211 c (0, [(some (.ref 79)), (some (.int (Int32.ofInt sort)))], [], zk c m) (fun v h1 => ∃ (r : Int) (m1 : zM), v = some (.int (Int32.ofInt r)) ∧ h1 = zk c m1 ∧ zJ mC t9 e9 m1 ∧ (-2147483648 ≤ r ∧ r ≤ 2147483647) ∧ (r = zt_fault (zbT mC) (mC 79 6)) ∧ zY m m1)
  have f1 : (80 : Int) ≤ m 79 5 ∧ m 79 5 ≤ 81 := hIm.1 79 5
  have f2 : (0 : Int) ≤ m 79 8 ∧ m 79 8 ≤ 720 := hIm.1 79 8
  have f3 : (0 : Int) ≤ m 79 9 ∧ m 79 9 ≤ 240 := hIm.1 79 9
  have f4 : (0 : Int) ≤ m 79 10 ∧ m 79 10 ≤ 241 := hIm.1 79 10
  have f5 : (-2147483648 : Int) ≤ m 79 11 ∧ m 79 11 ≤ 2147483647 := hIm.1 79 11
  have f6 : (0 : Int) ≤ m 79 12 ∧ m 79 12 ≤ 6 := hIm.1 79 12
  obtain ⟨m7, hm7⟩ : ∃ q, q = zm_up m 79 0 0 := ⟨_, rfl⟩
  have hIm7 := zJ_upE hIm hm7 (zOj_79 (by decide)) (show (0 : Int) ≤ 0 ∧ 0 ≤ 1 by omega)
  have em7 : m7 79 0 = 0 := by rw [hm7]; exact zm_eq
  have f8 : m7 79 5 = m 79 5 := by rw [hm7]; exact zm_ne (Or.inr (by decide))
  have f9 : m7 79 8 = m 79 8 := by rw [hm7]; exact zm_ne (Or.inr (by decide))
  have f10 : m7 79 9 = m 79 9 := by rw [hm7]; exact zm_ne (Or.inr (by decide))
  have f11 : m7 79 10 = m 79 10 := by rw [hm7]; exact zm_ne (Or.inr (by decide))
  have f12 : m7 79 11 = m 79 11 := by rw [hm7]; exact zm_ne (Or.inr (by decide))
  have f13 : m7 79 12 = m 79 12 := by rw [hm7]; exact zm_ne (Or.inr (by decide))
  have tk14 : zY m m7 := by rw [hm7]; exact zY_up zY_rf (zYs_79 (by decide))
  refine zW.step (st1 := (5, [(some (.ref 79)), (some (.int (Int32.ofInt sort)))], [], z_hup (zk c m) 79 (.inr (12, (.int (Int32.ofInt 0) :: .ref 80 :: .ref 81 :: .ref 82 :: .ref 83 :: zm_rf (m 79 5) :: .int (Int32.ofInt (m 79 6)) :: .int (Int32.ofInt (m 79 7)) :: .int (Int32.ofInt (m 79 8)) :: .int (Int32.ofInt (m 79 9)) :: .int (Int32.ofInt (m 79 10)) :: .int (Int32.ofInt (m 79 11)) :: .int (Int32.ofInt (m 79 12)) :: .int (Int32.ofInt (m 79 13)) :: .int (Int32.ofInt (m 79 14)) :: .ref (z_RO + 5) :: .ref (z_RO + 3) :: .int (Int32.ofInt (m 79 17)) :: .ref 84 :: .ref 85 :: .ref 86 :: .ref 87 :: .ref 88 :: .ref 89 :: .ref 90 :: .ref 91 :: .int (Int32.ofInt (m 79 26)) :: .int (Int32.ofInt (m 79 27)) :: .int (Int32.ofInt (m 79 28)) :: .int (Int32.ofInt (m 79 29)) :: .int (Int32.ofInt (m 79 30)) :: .ref 92 :: .ref 93 :: .int (Int32.ofInt (m 79 33)) :: .int (Int32.ofInt (m 79 34)) :: .ref 94 :: .ref 95 :: .int (Int32.ofInt (m 79 37)) :: .int (Int32.ofInt (m 79 38)) :: .int (Int32.ofInt (m 79 39)) :: .int (Int32.ofInt (m 79 40)) :: .int (Int32.ofInt (m 79 41)) :: .int (Int32.ofInt (m 79 42)) :: .ref 96 :: .ref 97 :: .ref 98 :: .ref 99 :: .ref 100 :: .int (Int32.ofInt (m 79 48)) :: .int (Int32.ofInt (m 79 49)) :: .long (Int64.ofInt (m 79 50)) :: .ref 101 :: .ref 102 :: .int (Int32.ofInt (m 79 53)) :: .ref 103 :: .ref 104 :: .ref 105 :: .int (Int32.ofInt (m 79 57)) :: []))))) (st2 := (5, [(some (.ref 79)), (some (.int (Int32.ofInt sort)))], [], zk c m7)) ⟨[zo, zo, zo], _, rfl, ⟨trivial, trivial, ⟨(Nat.lt_of_lt_of_le (Nat.le_of_ble_eq_true rfl) hN), rfl, rfl⟩, trivial⟩⟩ (z_steq rfl rfl ((zk_up c m 79 0 0 _ rfl).trans (by rw [hm7]))) ?_
  refine zW.step (st1 := (9, [(some (.ref 79)), (some (.int (Int32.ofInt sort)))], [.long (Int64.ofNat 1), .long (Int64.ofNat 0), .long ((Int32.ofInt sort).toInt64)], zk c m7)) (st2 := (9, [(some (.ref 79)), (some (.int (Int32.ofInt sort)))], [.long (Int64.ofInt 1), .long (Int64.ofInt 0), .long (Int64.ofInt sort)], zk c m7)) ⟨[zo, zo, zo, zo], _, rfl, ⟨trivial, trivial, trivial, trivial, trivial⟩⟩ (z_steq rfl (z_c1 (z_vl (by decide : Int64.ofNat 1 = Int64.ofInt 1)) (z_c1 (z_vl (by decide : Int64.ofNat 0 = Int64.ofInt 0)) (z_c1 (z_vl (zi_i2l rfl (by unfold zR; omega))) rfl))) rfl) ?_
  obtain ⟨r15, hs15, z_15, q_15⟩ := S_X12_isIn zn (d + 31) hN hC sort 0 1 m7 hIm7 (by omega) (by omega) (by omega)
  refine zW.step (st1 := (12, [(some (.ref 79)), (some (.int (Int32.ofInt sort)))], [.int (Int32.ofInt r15)], zk c m7)) ⟨[zc (some (.int (Int32.ofInt r15))) (zk c m7)], _, rfl, ⟨⟨(Nat.le_of_ble_eq_true rfl), hs15, (Nat.le_of_ble_eq_true rfl), Nat.le_refl _, Nat.le_refl _, Nat.le_refl _, Nat.le_refl _⟩, trivial⟩⟩ rfl ?_
  by_cases b16 : r15 = 0
  · refine zW.step (st1 := (15, [(some (.ref 79)), (some (.int (Int32.ofInt sort)))], [], zk c m7)) (st2 := (15, [(some (.ref 79)), (some (.int (Int32.ofInt sort)))], [], zk c m7)) ⟨[zo], _, rfl, ⟨zbf (fun q => q ((zi_eq rfl (rfl : (0 : Int32) = Int32.ofInt 0) (by unfold zR; omega) (⟨by decide, by decide⟩ : zR 0)).mpr b16)), trivial⟩⟩ rfl ?_
    have f17 : (80 : Int) ≤ m7 79 5 ∧ m7 79 5 ≤ 81 := hIm7.1 79 5
    have f18 : (0 : Int) ≤ m7 79 8 ∧ m7 79 8 ≤ 720 := hIm7.1 79 8
    have f19 : (0 : Int) ≤ m7 79 9 ∧ m7 79 9 ≤ 240 := hIm7.1 79 9
    have f20 : (0 : Int) ≤ m7 79 10 ∧ m7 79 10 ≤ 241 := hIm7.1 79 10
    have f21 : (-2147483648 : Int) ≤ m7 79 11 ∧ m7 79 11 ≤ 2147483647 := hIm7.1 79 11
    have f22 : (0 : Int) ≤ m7 79 12 ∧ m7 79 12 ≤ 6 := hIm7.1 79 12
    exfalso; omega
  · refine zW.step (st1 := (18, [(some (.ref 79)), (some (.int (Int32.ofInt sort)))], [], zk c m7)) (st2 := (18, [(some (.ref 79)), (some (.int (Int32.ofInt sort)))], [], zk c m7)) ⟨[zt], _, rfl, ⟨zbt (fun q => b16 ((zi_eq rfl (rfl : (0 : Int32) = Int32.ofInt 0) (by unfold zR; omega) (⟨by decide, by decide⟩ : zR 0)).mp q)), trivial⟩⟩ rfl ?_
    have f23 : (80 : Int) ≤ m7 79 5 ∧ m7 79 5 ≤ 81 := hIm7.1 79 5
    have f24 : (0 : Int) ≤ m7 79 8 ∧ m7 79 8 ≤ 720 := hIm7.1 79 8
    have f25 : (0 : Int) ≤ m7 79 9 ∧ m7 79 9 ≤ 240 := hIm7.1 79 9
    have f26 : (0 : Int) ≤ m7 79 10 ∧ m7 79 10 ≤ 241 := hIm7.1 79 10
    have f27 : (-2147483648 : Int) ≤ m7 79 11 ∧ m7 79 11 ≤ 2147483647 := hIm7.1 79 11
    have f28 : (0 : Int) ≤ m7 79 12 ∧ m7 79 12 ≤ 6 := hIm7.1 79 12
    by_cases b29 : sort = 0
    · refine zW.step (st1 := (22, [(some (.ref 79)), (some (.int (Int32.ofInt sort)))], [], zk c m7)) (st2 := (22, [(some (.ref 79)), (some (.int (Int32.ofInt sort)))], [], zk c m7)) ⟨[zo, zo], _, rfl, ⟨trivial, zbf (fun q => q ((zi_eq rfl (rfl : (0 : Int32) = Int32.ofInt 0) (by unfold zR; omega) (⟨by decide, by decide⟩ : zR 0)).mpr b29)), trivial⟩⟩ rfl ?_
      exfalso; omega
    · refine zW.step (st1 := (29, [(some (.ref 79)), (some (.int (Int32.ofInt sort)))], [], zk c m7)) (st2 := (29, [(some (.ref 79)), (some (.int (Int32.ofInt sort)))], [], zk c m7)) ⟨[zo, zt], _, rfl, ⟨trivial, zbt (fun q => b29 ((zi_eq rfl (rfl : (0 : Int32) = Int32.ofInt 0) (by unfold zR; omega) (⟨by decide, by decide⟩ : zR 0)).mp q)), trivial⟩⟩ rfl ?_
      have f30 : (0 : Int) ≤ m7 79 6 ∧ m7 79 6 ≤ 240 := hIm7.1 79 6
      have q31 := zn_m hIm7
      refine zW.step (st1 := (39, [(some (.ref 79)), (some (.int (Int32.ofInt sort)))], [.int (Int32.ofInt (m7 79 6)), .int (Int32.ofInt 0), .ref 80, .ref 79], zk c m7)) (st2 := (39, [(some (.ref 79)), (some (.int (Int32.ofInt sort)))], [.int (Int32.ofInt (m7 79 6)), .int (Int32.ofInt 0), .ref 80, .ref 79], zk c m7)) ⟨[zo, zo, zo, zo, zo, zo], _, rfl, ⟨trivial, trivial, (Nat.lt_of_lt_of_le (Nat.le_of_ble_eq_true rfl) hN), trivial, trivial, (Nat.lt_of_lt_of_le (Nat.le_of_ble_eq_true rfl) hN), trivial⟩⟩ rfl ?_
      obtain ⟨m32, hs32, hIm32, f_32, kY_32⟩ := S_X12_goThrough_80F zn (d + 0) hN hC 0 (m7 79 6) m7 hIm7 (by omega) (by omega) (by omega) (by omega)
      refine zW.step (st1 := (42, [(some (.ref 79)), (some (.int (Int32.ofInt sort)))], [], zk c m32)) ⟨[zc (none) (zk c m32)], _, rfl, ⟨⟨⟨(Nat.lt_of_lt_of_le (Nat.le_of_ble_eq_true rfl) hN), (Nat.le_of_ble_eq_true rfl)⟩, hs32, (Nat.le_of_ble_eq_true rfl), Nat.le_refl _, Nat.le_refl _, Nat.le_refl _, Nat.le_refl _⟩, trivial⟩⟩ rfl ?_
      have f33 : (80 : Int) ≤ m32 79 5 ∧ m32 79 5 ≤ 81 := hIm32.1 79 5
      have f34 : (0 : Int) ≤ m32 79 8 ∧ m32 79 8 ≤ 720 := hIm32.1 79 8
      have f35 : (0 : Int) ≤ m32 79 9 ∧ m32 79 9 ≤ 240 := hIm32.1 79 9
      have f36 : (0 : Int) ≤ m32 79 10 ∧ m32 79 10 ≤ 241 := hIm32.1 79 10
      have f37 : (-2147483648 : Int) ≤ m32 79 11 ∧ m32 79 11 ≤ 2147483647 := hIm32.1 79 11
      have f38 : (0 : Int) ≤ m32 79 12 ∧ m32 79 12 ≤ 6 := hIm32.1 79 12
      have tk39 : zY m m32 := zY_tr tk14 kY_32
      refine zW.step (st1 := (46, [(some (.ref 79)), (some (.int (Int32.ofInt sort)))], [.int (Int32.ofInt (m32 79 11))], zk c m32)) (st2 := (46, [(some (.ref 79)), (some (.int (Int32.ofInt sort)))], [.int (Int32.ofInt (m32 79 11))], zk c m32)) ⟨[zo, zo], _, rfl, ⟨trivial, (Nat.lt_of_lt_of_le (Nat.le_of_ble_eq_true rfl) hN), trivial⟩⟩ rfl ?_
      exact zW.fin (zfin_i rfl rfl rfl) ⟨m32 79 11, m32, rfl, rfl, hIm32, (by omega), (by omega), tk39⟩

