/-! what methods do over memory, by program (wip/tools/gw): X12_readWay -/
set_option maxRecDepth 100000 in
set_option maxHeartbeats 4000000 in
theorem L_X12_readWay_7 (zn : Bool) (d : Nat) {c : Nat × Nat} {mC : zM} {t9 : Int} {e9 : Nat} (hN : 107 ≤ c.1) (hC : c.1 < z_RO) (p : Int) (r_p : -2147483648 ≤ p ∧ p ≤ 2147483647) (hp : 0 ≤ p ∧ p ≤ 5) (m0 : zM) (Q : Option Value → z_H → Prop) (KR : ∀ v h1, (fun v h1 => ∃ (m1 : zM), v = none ∧ h1 = zk c m1 ∧ zJ mC t9 e9 m1 ∧ (m0 79 10 ≤ m1 79 10) ∧ (m1 79 9 = m0 79 9) ∧ zY m0 m1) v h1 → Q v h1) (K : ∀ (x2 : Int) (m : zM), zJ mC t9 e9 m → 0 ≤ x2 ∧ x2 ≤ 8 → m 79 9 = m0 79 9 → m0 79 10 ≤ m 79 10 → zY m0 m → zW zn (d + 1) 270 c (87, [(some (.ref 79)), (some (.int (Int32.ofInt p))), (some (.int (Int32.ofInt x2)))], [], zk c m) Q) :
    ∀ (w : Nat) (x2 : Int) (m : zM), zJ mC t9 e9 m → 0 ≤ x2 ∧ x2 ≤ 8 → m 79 9 = m0 79 9 → m0 79 10 ≤ m 79 10 → zY m0 m → w = (8 - x2).toNat → zW zn (d + 1) 270 c (7, [(some (.ref 79)), (some (.int (Int32.ofInt p))), (some (.int (Int32.ofInt x2)))], [], zk c m) Q := by
  intro w
  induction w using Nat.strongRecOn with | _ w ih => ?_
  intro x2 m hIm i1 j4 j3 tY hw
  have f1 : (0 : Int) ≤ m 79 9 ∧ m 79 9 ≤ 240 := hIm.1 79 9
  have f2 : (0 : Int) ≤ m 79 10 ∧ m 79 10 ≤ 241 := hIm.1 79 10
  have f3 : (-2147483648 : Int) ≤ m 79 11 ∧ m 79 11 ≤ 2147483647 := hIm.1 79 11
  have f4 : (0 : Int) ≤ m 79 12 ∧ m 79 12 ≤ 6 := hIm.1 79 12
  by_cases b5 : x2 = 0
  · refine zW.step (st1 := (18, [(some (.ref 79)), (some (.int (Int32.ofInt p))), (some (.int (Int32.ofInt x2)))], [], zk c m)) (st2 := (18, [(some (.ref 79)), (some (.int (Int32.ofInt p))), (some (.int (Int32.ofInt x2)))], [], zk c m)) ⟨[zo, zt], _, rfl, ⟨trivial, zbt ((zi_eq rfl (rfl : (0 : Int32) = Int32.ofInt 0) (by unfold zR; omega) (⟨by decide, by decide⟩ : zR 0)).mpr b5), trivial⟩⟩ rfl ?_
    refine zW.step (st1 := (19, [(some (.ref 79)), (some (.int (Int32.ofInt p))), (some (.int (Int32.ofInt x2)))], [.ref 79], zk c m)) (st2 := (19, [(some (.ref 79)), (some (.int (Int32.ofInt p))), (some (.int (Int32.ofInt x2)))], [.ref 79], zk c m)) ⟨[zo], _, rfl, ⟨trivial, trivial⟩⟩ rfl ?_
    obtain ⟨r6, hs6, z_6, q_6⟩ := S_X12_isDigit zn (d + 0) hN hC m hIm
    refine zW.step (st1 := (22, [(some (.ref 79)), (some (.int (Int32.ofInt p))), (some (.int (Int32.ofInt x2)))], [.int (Int32.ofInt r6)], zk c m)) ⟨[zc (some (.int (Int32.ofInt r6))) (zk c m)], _, rfl, ⟨⟨⟨(Nat.lt_of_lt_of_le (Nat.le_of_ble_eq_true rfl) hN), (Nat.le_of_ble_eq_true rfl)⟩, hs6, (Nat.le_of_ble_eq_true rfl), Nat.le_refl _, Nat.le_refl _, Nat.le_refl _, Nat.le_refl _⟩, trivial⟩⟩ rfl ?_
    by_cases b7 : r6 = 0
    · refine zW.step (st1 := (42, [(some (.ref 79)), (some (.int (Int32.ofInt p))), (some (.int (Int32.ofInt x2)))], [], zk c m)) (st2 := (42, [(some (.ref 79)), (some (.int (Int32.ofInt p))), (some (.int (Int32.ofInt x2)))], [], zk c m)) ⟨[zt], _, rfl, ⟨zbt ((zi_eq rfl (rfl : (0 : Int32) = Int32.ofInt 0) (by unfold zR; omega) (⟨by decide, by decide⟩ : zR 0)).mpr b7), trivial⟩⟩ rfl ?_
      refine zW.step (st1 := (43, [(some (.ref 79)), (some (.int (Int32.ofInt p))), (some (.int (Int32.ofInt x2)))], [.ref 79], zk c m)) (st2 := (43, [(some (.ref 79)), (some (.int (Int32.ofInt p))), (some (.int (Int32.ofInt x2)))], [.ref 79], zk c m)) ⟨[zo], _, rfl, ⟨trivial, trivial⟩⟩ rfl ?_
      obtain ⟨r8, m8, hs8, hIm8, q_8, n_8, a9_8, e9_8, d9_8, kY_8⟩ := S_X12_fails zn (d + 0) hN hC m hIm
      subst q_8
      refine zW.step (st1 := (46, [(some (.ref 79)), (some (.int (Int32.ofInt p))), (some (.int (Int32.ofInt x2)))], [.int (Int32.ofInt 0)], zk c m8)) ⟨[zc (some (.int (Int32.ofInt 0))) (zk c m8)], _, rfl, ⟨⟨⟨(Nat.lt_of_lt_of_le (Nat.le_of_ble_eq_true rfl) hN), (Nat.le_of_ble_eq_true rfl)⟩, hs8, (Nat.le_of_ble_eq_true rfl), Nat.le_refl _, Nat.le_refl _, Nat.le_refl _, Nat.le_refl _⟩, trivial⟩⟩ rfl ?_
      have f9 : (0 : Int) ≤ m8 79 9 ∧ m8 79 9 ≤ 240 := hIm8.1 79 9
      have f10 : (0 : Int) ≤ m8 79 10 ∧ m8 79 10 ≤ 241 := hIm8.1 79 10
      have f11 : (-2147483648 : Int) ≤ m8 79 11 ∧ m8 79 11 ≤ 2147483647 := hIm8.1 79 11
      have f12 : (0 : Int) ≤ m8 79 12 ∧ m8 79 12 ≤ 6 := hIm8.1 79 12
      have tk13 : zY m0 m8 := zY_tr tY kY_8
      refine zW.step (st1 := (47, [(some (.ref 79)), (some (.int (Int32.ofInt p))), (some (.int (Int32.ofInt x2)))], [], zk c m8)) (st2 := (47, [(some (.ref 79)), (some (.int (Int32.ofInt p))), (some (.int (Int32.ofInt x2)))], [], zk c m8)) ⟨[zo], _, rfl, ⟨trivial, trivial⟩⟩ rfl ?_
      exact zW.fin (zfin_v rfl rfl) (KR _ _ ⟨m8, rfl, rfl, hIm8, (by omega), (by omega), tk13⟩)
    · refine zW.step (st1 := (25, [(some (.ref 79)), (some (.int (Int32.ofInt p))), (some (.int (Int32.ofInt x2)))], [], zk c m)) (st2 := (25, [(some (.ref 79)), (some (.int (Int32.ofInt p))), (some (.int (Int32.ofInt x2)))], [], zk c m)) ⟨[zo], _, rfl, ⟨zbf (fun q => b7 ((zi_eq rfl (rfl : (0 : Int32) = Int32.ofInt 0) (by unfold zR; omega) (⟨by decide, by decide⟩ : zR 0)).mp q)), trivial⟩⟩ rfl ?_
      by_cases b14 : x2 = 8
      · refine zW.step (st1 := (42, [(some (.ref 79)), (some (.int (Int32.ofInt p))), (some (.int (Int32.ofInt x2)))], [], zk c m)) (st2 := (42, [(some (.ref 79)), (some (.int (Int32.ofInt p))), (some (.int (Int32.ofInt x2)))], [], zk c m)) ⟨[zo, zo, zt], _, rfl, ⟨trivial, trivial, zbt ((zi_eq rfl (by decide : (Int8.ofInt 8).toInt32 = Int32.ofInt 8) (by unfold zR; omega) (⟨by decide, by decide⟩ : zR 8)).mpr b14), trivial⟩⟩ rfl ?_
        refine zW.step (st1 := (43, [(some (.ref 79)), (some (.int (Int32.ofInt p))), (some (.int (Int32.ofInt x2)))], [.ref 79], zk c m)) (st2 := (43, [(some (.ref 79)), (some (.int (Int32.ofInt p))), (some (.int (Int32.ofInt x2)))], [.ref 79], zk c m)) ⟨[zo], _, rfl, ⟨trivial, trivial⟩⟩ rfl ?_
        obtain ⟨r15, m15, hs15, hIm15, q_15, n_15, a9_15, e9_15, d9_15, kY_15⟩ := S_X12_fails zn (d + 0) hN hC m hIm
        subst q_15
        refine zW.step (st1 := (46, [(some (.ref 79)), (some (.int (Int32.ofInt p))), (some (.int (Int32.ofInt x2)))], [.int (Int32.ofInt 0)], zk c m15)) ⟨[zc (some (.int (Int32.ofInt 0))) (zk c m15)], _, rfl, ⟨⟨⟨(Nat.lt_of_lt_of_le (Nat.le_of_ble_eq_true rfl) hN), (Nat.le_of_ble_eq_true rfl)⟩, hs15, (Nat.le_of_ble_eq_true rfl), Nat.le_refl _, Nat.le_refl _, Nat.le_refl _, Nat.le_refl _⟩, trivial⟩⟩ rfl ?_
        have f16 : (0 : Int) ≤ m15 79 9 ∧ m15 79 9 ≤ 240 := hIm15.1 79 9
        have f17 : (0 : Int) ≤ m15 79 10 ∧ m15 79 10 ≤ 241 := hIm15.1 79 10
        have f18 : (-2147483648 : Int) ≤ m15 79 11 ∧ m15 79 11 ≤ 2147483647 := hIm15.1 79 11
        have f19 : (0 : Int) ≤ m15 79 12 ∧ m15 79 12 ≤ 6 := hIm15.1 79 12
        have tk20 : zY m0 m15 := zY_tr tY kY_15
        refine zW.step (st1 := (47, [(some (.ref 79)), (some (.int (Int32.ofInt p))), (some (.int (Int32.ofInt x2)))], [], zk c m15)) (st2 := (47, [(some (.ref 79)), (some (.int (Int32.ofInt p))), (some (.int (Int32.ofInt x2)))], [], zk c m15)) ⟨[zo], _, rfl, ⟨trivial, trivial⟩⟩ rfl ?_
        exact zW.fin (zfin_v rfl rfl) (KR _ _ ⟨m15, rfl, rfl, hIm15, (by omega), (by omega), tk20⟩)
      · refine zW.step (st1 := (31, [(some (.ref 79)), (some (.int (Int32.ofInt p))), (some (.int (Int32.ofInt x2)))], [], zk c m)) (st2 := (31, [(some (.ref 79)), (some (.int (Int32.ofInt p))), (some (.int (Int32.ofInt x2)))], [], zk c m)) ⟨[zo, zo, zo], _, rfl, ⟨trivial, trivial, zbf (fun q => b14 ((zi_eq rfl (by decide : (Int8.ofInt 8).toInt32 = Int32.ofInt 8) (by unfold zR; omega) (⟨by decide, by decide⟩ : zR 8)).mp q)), trivial⟩⟩ rfl ?_
        refine zW.step (st1 := (32, [(some (.ref 79)), (some (.int (Int32.ofInt p))), (some (.int (Int32.ofInt x2)))], [.ref 79], zk c m)) (st2 := (32, [(some (.ref 79)), (some (.int (Int32.ofInt p))), (some (.int (Int32.ofInt x2)))], [.ref 79], zk c m)) ⟨[zo], _, rfl, ⟨trivial, trivial⟩⟩ rfl ?_
        obtain ⟨r21, hs21, z_21, q_21, v_21⟩ := S_X12_here zn (d + 0) hN hC m hIm
        refine zW.step (st1 := (35, [(some (.ref 79)), (some (.int (Int32.ofInt p))), (some (.int (Int32.ofInt x2)))], [.int (Int32.ofInt r21)], zk c m)) ⟨[zc (some (.int (Int32.ofInt r21))) (zk c m)], _, rfl, ⟨⟨⟨(Nat.lt_of_lt_of_le (Nat.le_of_ble_eq_true rfl) hN), (Nat.le_of_ble_eq_true rfl)⟩, hs21, (Nat.le_of_ble_eq_true rfl), Nat.le_refl _, Nat.le_refl _, Nat.le_refl _, Nat.le_refl _⟩, trivial⟩⟩ rfl ?_
        have f22 := zwR (r21 - 48)
        have f23 := zwI (r21 - 48)
        by_cases b24 : (zw (r21 - 48)) < 5
        · refine zW.step (st1 := (48, [(some (.ref 79)), (some (.int (Int32.ofInt p))), (some (.int (Int32.ofInt x2)))], [], zk c m)) (st2 := (48, [(some (.ref 79)), (some (.int (Int32.ofInt p))), (some (.int (Int32.ofInt x2)))], [], zk c m)) ⟨[zo, zo, zo, zt], _, rfl, ⟨trivial, trivial, trivial, zbt ((zi_lt (Eq.trans (zi_sub rfl (by decide : (Int8.ofInt 48).toInt32 = Int32.ofInt 48)) (zw_eq _)) rfl (by unfold zR; omega) (⟨by decide, by decide⟩ : zR 5)).mpr b24), trivial⟩⟩ rfl ?_
          refine zW.step (st1 := (59, [(some (.ref 79)), (some (.int (Int32.ofInt p))), (some (.int (Int32.ofInt x2)))], [.ref 79, .int ((((Int8.ofInt 8).toInt32) * (Int32.ofInt p)) + (Int32.ofInt x2)), .ref 89], zk c m)) (st2 := (59, [(some (.ref 79)), (some (.int (Int32.ofInt p))), (some (.int (Int32.ofInt x2)))], [.ref 79, .int (Int32.ofInt ((8 * p) + x2)), .ref 89], zk c m)) ⟨[zo, zo, zo, zo, zo, zo, zo, zo], _, rfl, ⟨trivial, (Nat.lt_of_lt_of_le (Nat.le_of_ble_eq_true rfl) hN), trivial, trivial, trivial, trivial, trivial, trivial, trivial⟩⟩ (z_steq rfl (z_c1 rfl (z_c1 (z_vi (zi_add (zi_mul (by decide : (Int8.ofInt 8).toInt32 = Int32.ofInt 8) rfl) rfl)) rfl)) rfl) ?_
          obtain ⟨r25, hs25, z_25, q_25, v_25⟩ := S_X12_here zn (d + 0) hN hC m hIm
          refine zW.step (st1 := (62, [(some (.ref 79)), (some (.int (Int32.ofInt p))), (some (.int (Int32.ofInt x2)))], [.int (Int32.ofInt r25), .int (Int32.ofInt ((8 * p) + x2)), .ref 89], zk c m)) ⟨[zc (some (.int (Int32.ofInt r25))) (zk c m)], _, rfl, ⟨⟨⟨(Nat.lt_of_lt_of_le (Nat.le_of_ble_eq_true rfl) hN), (Nat.le_of_ble_eq_true rfl)⟩, hs25, (Nat.le_of_ble_eq_true rfl), Nat.le_refl _, Nat.le_refl _, Nat.le_refl _, Nat.le_refl _⟩, trivial⟩⟩ rfl ?_
          obtain ⟨m26, hm26⟩ : ∃ q, q = zm_up m 89 (((8 * p) + x2).toNat) (r25 - 48) := ⟨_, rfl⟩
          have hIm26 := zJ_upE hIm hm26 (zOj_p (by decide)) (show (0 : Int) ≤ (r25 - 48) ∧ (r25 - 48) ≤ 4 by omega)
          have em26 : m26 89 (((8 * p) + x2).toNat) = (r25 - 48) := by rw [hm26]; exact zm_eq
          have f27 : m26 79 9 = m 79 9 := by rw [hm26]; exact zm_ne (Or.inl (by decide))
          have f28 : m26 79 10 = m 79 10 := by rw [hm26]; exact zm_ne (Or.inl (by decide))
          have f29 : m26 79 11 = m 79 11 := by rw [hm26]; exact zm_ne (Or.inl (by decide))
          have f30 : m26 79 12 = m 79 12 := by rw [hm26]; exact zm_ne (Or.inl (by decide))
          have tk31 : zY m0 m26 := by rw [hm26]; exact zY_up tY (zYs_p (by decide))
          refine zW.step (st1 := (66, [(some (.ref 79)), (some (.int (Int32.ofInt p))), (some (.int (Int32.ofInt x2)))], [], z_hup (zk c m) 89 (.inl (0, 48, .inl (upd (fun j => Int32.ofInt (m 89 j)) (Int32.ofInt ((8 * p) + x2)).toNatClampNeg ((Int32.ofInt r25) - ((Int8.ofInt 48).toInt32))))))) (st2 := (66, [(some (.ref 79)), (some (.int (Int32.ofInt p))), (some (.int (Int32.ofInt x2)))], [], zk c m26)) ⟨[zo, zo, (false, 0, none, zh0, some (.inl (0, 48, .inl (fun j => Int32.ofInt (m 89 j)))))], _, rfl, ⟨trivial, trivial, ⟨zk_ra c m zA_89 (Nat.lt_of_lt_of_le (Nat.le_of_ble_eq_true rfl) hN), zi_in rfl (by omega) (by omega) (by omega)⟩, trivial⟩⟩ (z_steq rfl rfl ((zk_ias c m zA_89 rfl (by unfold zR; omega) (zi_sub rfl (by decide : (Int8.ofInt 48).toInt32 = Int32.ofInt 48))).trans (by rw [hm26]))) ?_
          have f32 : (0 : Int) ≤ m26 79 10 ∧ m26 79 10 ≤ 241 := hIm26.1 79 10
          obtain ⟨m33, hm33⟩ : ∃ q, q = zm_up m26 79 10 ((m26 79 10) + 1) := ⟨_, rfl⟩
          have hIm33 := zJ_upE hIm26 hm33 (zOj_79 (by decide)) (show (0 : Int) ≤ ((m26 79 10) + 1) ∧ ((m26 79 10) + 1) ≤ 241 by omega)
          have em33 : m33 79 10 = ((m26 79 10) + 1) := by rw [hm33]; exact zm_eq
          have f34 : m33 79 9 = m26 79 9 := by rw [hm33]; exact zm_ne (Or.inr (by decide))
          have f35 : m33 79 11 = m26 79 11 := by rw [hm33]; exact zm_ne (Or.inr (by decide))
          have f36 : m33 79 12 = m26 79 12 := by rw [hm33]; exact zm_ne (Or.inr (by decide))
          have tk37 : zY m0 m33 := by rw [hm33]; exact zY_up tk31 (zYs_79 (by decide))
          clear tk31
          refine zW.step (st1 := (79, [(some (.ref 79)), (some (.int (Int32.ofInt p))), (some (.int ((Int32.ofInt x2) + Int32.ofInt 1)))], [], z_hup (zk c m26) 79 (.inr (12, (.int (Int32.ofInt (m26 79 0)) :: .ref 80 :: .ref 81 :: .ref 82 :: .ref 83 :: zm_rf (m26 79 5) :: .int (Int32.ofInt (m26 79 6)) :: .int (Int32.ofInt (m26 79 7)) :: .int (Int32.ofInt (m26 79 8)) :: .int (Int32.ofInt (m26 79 9)) :: .int ((Int32.ofInt (m26 79 10)) + (Int32.ofInt 1)) :: .int (Int32.ofInt (m26 79 11)) :: .int (Int32.ofInt (m26 79 12)) :: .int (Int32.ofInt (m26 79 13)) :: .int (Int32.ofInt (m26 79 14)) :: .ref (z_RO + 5) :: .ref (z_RO + 3) :: .int (Int32.ofInt (m26 79 17)) :: .ref 84 :: .ref 85 :: .ref 86 :: .ref 87 :: .ref 88 :: .ref 89 :: .ref 90 :: .ref 91 :: .int (Int32.ofInt (m26 79 26)) :: .int (Int32.ofInt (m26 79 27)) :: .int (Int32.ofInt (m26 79 28)) :: .int (Int32.ofInt (m26 79 29)) :: .int (Int32.ofInt (m26 79 30)) :: .ref 92 :: .ref 93 :: .int (Int32.ofInt (m26 79 33)) :: .int (Int32.ofInt (m26 79 34)) :: .ref 94 :: .ref 95 :: .int (Int32.ofInt (m26 79 37)) :: .int (Int32.ofInt (m26 79 38)) :: .int (Int32.ofInt (m26 79 39)) :: .int (Int32.ofInt (m26 79 40)) :: .int (Int32.ofInt (m26 79 41)) :: .int (Int32.ofInt (m26 79 42)) :: .ref 96 :: .ref 97 :: .ref 98 :: .ref 99 :: .ref 100 :: .int (Int32.ofInt (m26 79 48)) :: .int (Int32.ofInt (m26 79 49)) :: .long (Int64.ofInt (m26 79 50)) :: .ref 101 :: .ref 102 :: .int (Int32.ofInt (m26 79 53)) :: .ref 103 :: .ref 104 :: .ref 105 :: .int (Int32.ofInt (m26 79 57)) :: []))))) (st2 := (79, [(some (.ref 79)), (some (.int (Int32.ofInt p))), (some (.int (Int32.ofInt (x2 + 1))))], [], zk c m33)) ⟨[zo, zo, zo, zo, zo, zo, zo], _, rfl, ⟨trivial, trivial, trivial, (Nat.lt_of_lt_of_le (Nat.le_of_ble_eq_true rfl) hN), trivial, trivial, ⟨(Nat.lt_of_lt_of_le (Nat.le_of_ble_eq_true rfl) hN), rfl, rfl⟩, trivial⟩⟩ (z_steq (z_c1 rfl (z_c1 rfl (z_c1 (z_si (zi_add rfl rfl)) rfl))) rfl ((zk_up c m26 79 10 ((m26 79 10) + 1) _ ((congrArg (fun q => (.inr (12, (.int (Int32.ofInt (m26 79 0)) :: .ref 80 :: .ref 81 :: .ref 82 :: .ref 83 :: zm_rf (m26 79 5) :: .int (Int32.ofInt (m26 79 6)) :: .int (Int32.ofInt (m26 79 7)) :: .int (Int32.ofInt (m26 79 8)) :: .int (Int32.ofInt (m26 79 9)) :: .int q :: .int (Int32.ofInt (m26 79 11)) :: .int (Int32.ofInt (m26 79 12)) :: .int (Int32.ofInt (m26 79 13)) :: .int (Int32.ofInt (m26 79 14)) :: .ref (z_RO + 5) :: .ref (z_RO + 3) :: .int (Int32.ofInt (m26 79 17)) :: .ref 84 :: .ref 85 :: .ref 86 :: .ref 87 :: .ref 88 :: .ref 89 :: .ref 90 :: .ref 91 :: .int (Int32.ofInt (m26 79 26)) :: .int (Int32.ofInt (m26 79 27)) :: .int (Int32.ofInt (m26 79 28)) :: .int (Int32.ofInt (m26 79 29)) :: .int (Int32.ofInt (m26 79 30)) :: .ref 92 :: .ref 93 :: .int (Int32.ofInt (m26 79 33)) :: .int (Int32.ofInt (m26 79 34)) :: .ref 94 :: .ref 95 :: .int (Int32.ofInt (m26 79 37)) :: .int (Int32.ofInt (m26 79 38)) :: .int (Int32.ofInt (m26 79 39)) :: .int (Int32.ofInt (m26 79 40)) :: .int (Int32.ofInt (m26 79 41)) :: .int (Int32.ofInt (m26 79 42)) :: .ref 96 :: .ref 97 :: .ref 98 :: .ref 99 :: .ref 100 :: .int (Int32.ofInt (m26 79 48)) :: .int (Int32.ofInt (m26 79 49)) :: .long (Int64.ofInt (m26 79 50)) :: .ref 101 :: .ref 102 :: .int (Int32.ofInt (m26 79 53)) :: .ref 103 :: .ref 104 :: .ref 105 :: .int (Int32.ofInt (m26 79 57)) :: [])) : z_E)) (zi_add rfl rfl)).trans rfl)).trans (by rw [hm33]))) ?_
          clear em26
          refine zW.step (st1 := (80, [(some (.ref 79)), (some (.int (Int32.ofInt p))), (some (.int (Int32.ofInt (x2 + 1))))], [.ref 79], zk c m33)) (st2 := (80, [(some (.ref 79)), (some (.int (Int32.ofInt p))), (some (.int (Int32.ofInt (x2 + 1))))], [.ref 79], zk c m33)) ⟨[zo], _, rfl, ⟨trivial, trivial⟩⟩ rfl ?_
          obtain ⟨r38, m38, hs38, hIm38, z_38, q_38, a9_38, q2_38, e9_38, f9_38, d9_38, kY_38⟩ := S_X12_look zn (d + 0) hN hC m33 hIm33
          refine zW.step (st1 := (83, [(some (.ref 79)), (some (.int (Int32.ofInt p))), (some (.int (Int32.ofInt (x2 + 1))))], [.int (Int32.ofInt r38)], zk c m38)) ⟨[zc (some (.int (Int32.ofInt r38))) (zk c m38)], _, rfl, ⟨⟨⟨(Nat.lt_of_lt_of_le (Nat.le_of_ble_eq_true rfl) hN), (Nat.le_of_ble_eq_true rfl)⟩, hs38, (Nat.le_of_ble_eq_true rfl), Nat.le_refl _, Nat.le_refl _, Nat.le_refl _, Nat.le_refl _⟩, trivial⟩⟩ rfl ?_
          have f39 : (0 : Int) ≤ m38 79 9 ∧ m38 79 9 ≤ 240 := hIm38.1 79 9
          have f40 : (0 : Int) ≤ m38 79 10 ∧ m38 79 10 ≤ 241 := hIm38.1 79 10
          have f41 : (-2147483648 : Int) ≤ m38 79 11 ∧ m38 79 11 ≤ 2147483647 := hIm38.1 79 11
          have f42 : (0 : Int) ≤ m38 79 12 ∧ m38 79 12 ≤ 6 := hIm38.1 79 12
          have tk43 : zY m0 m38 := zY_tr tk37 kY_38
          refine zW.step (st1 := (7, [(some (.ref 79)), (some (.int (Int32.ofInt p))), (some (.int (Int32.ofInt (x2 + 1))))], [], zk c m38)) (st2 := (7, [(some (.ref 79)), (some (.int (Int32.ofInt p))), (some (.int (Int32.ofInt (x2 + 1))))], [], zk c m38)) ⟨[zo, zo], _, rfl, ⟨trivial, trivial, trivial⟩⟩ rfl ?_
          exact ih _ (by omega) (x2 + 1) m38 hIm38 (by omega) (by omega) (by omega) tk43 rfl
        · refine zW.step (st1 := (42, [(some (.ref 79)), (some (.int (Int32.ofInt p))), (some (.int (Int32.ofInt x2)))], [], zk c m)) (st2 := (42, [(some (.ref 79)), (some (.int (Int32.ofInt p))), (some (.int (Int32.ofInt x2)))], [], zk c m)) ⟨[zo, zo, zo, zo], _, rfl, ⟨trivial, trivial, trivial, zbf (fun q => b24 ((zi_lt (Eq.trans (zi_sub rfl (by decide : (Int8.ofInt 48).toInt32 = Int32.ofInt 48)) (zw_eq _)) rfl (by unfold zR; omega) (⟨by decide, by decide⟩ : zR 5)).mp q)), trivial⟩⟩ rfl ?_
          refine zW.step (st1 := (43, [(some (.ref 79)), (some (.int (Int32.ofInt p))), (some (.int (Int32.ofInt x2)))], [.ref 79], zk c m)) (st2 := (43, [(some (.ref 79)), (some (.int (Int32.ofInt p))), (some (.int (Int32.ofInt x2)))], [.ref 79], zk c m)) ⟨[zo], _, rfl, ⟨trivial, trivial⟩⟩ rfl ?_
          obtain ⟨r44, m44, hs44, hIm44, q_44, n_44, a9_44, e9_44, d9_44, kY_44⟩ := S_X12_fails zn (d + 0) hN hC m hIm
          subst q_44
          refine zW.step (st1 := (46, [(some (.ref 79)), (some (.int (Int32.ofInt p))), (some (.int (Int32.ofInt x2)))], [.int (Int32.ofInt 0)], zk c m44)) ⟨[zc (some (.int (Int32.ofInt 0))) (zk c m44)], _, rfl, ⟨⟨⟨(Nat.lt_of_lt_of_le (Nat.le_of_ble_eq_true rfl) hN), (Nat.le_of_ble_eq_true rfl)⟩, hs44, (Nat.le_of_ble_eq_true rfl), Nat.le_refl _, Nat.le_refl _, Nat.le_refl _, Nat.le_refl _⟩, trivial⟩⟩ rfl ?_
          have f45 : (0 : Int) ≤ m44 79 9 ∧ m44 79 9 ≤ 240 := hIm44.1 79 9
          have f46 : (0 : Int) ≤ m44 79 10 ∧ m44 79 10 ≤ 241 := hIm44.1 79 10
          have f47 : (-2147483648 : Int) ≤ m44 79 11 ∧ m44 79 11 ≤ 2147483647 := hIm44.1 79 11
          have f48 : (0 : Int) ≤ m44 79 12 ∧ m44 79 12 ≤ 6 := hIm44.1 79 12
          have tk49 : zY m0 m44 := zY_tr tY kY_44
          refine zW.step (st1 := (47, [(some (.ref 79)), (some (.int (Int32.ofInt p))), (some (.int (Int32.ofInt x2)))], [], zk c m44)) (st2 := (47, [(some (.ref 79)), (some (.int (Int32.ofInt p))), (some (.int (Int32.ofInt x2)))], [], zk c m44)) ⟨[zo], _, rfl, ⟨trivial, trivial⟩⟩ rfl ?_
          exact zW.fin (zfin_v rfl rfl) (KR _ _ ⟨m44, rfl, rfl, hIm44, (by omega), (by omega), tk49⟩)
  · refine zW.step (st1 := (11, [(some (.ref 79)), (some (.int (Int32.ofInt p))), (some (.int (Int32.ofInt x2)))], [], zk c m)) (st2 := (11, [(some (.ref 79)), (some (.int (Int32.ofInt p))), (some (.int (Int32.ofInt x2)))], [], zk c m)) ⟨[zo, zo], _, rfl, ⟨trivial, zbf (fun q => b5 ((zi_eq rfl (rfl : (0 : Int32) = Int32.ofInt 0) (by unfold zR; omega) (⟨by decide, by decide⟩ : zR 0)).mp q)), trivial⟩⟩ rfl ?_
    refine zW.step (st1 := (12, [(some (.ref 79)), (some (.int (Int32.ofInt p))), (some (.int (Int32.ofInt x2)))], [.ref 79], zk c m)) (st2 := (12, [(some (.ref 79)), (some (.int (Int32.ofInt p))), (some (.int (Int32.ofInt x2)))], [.ref 79], zk c m)) ⟨[zo], _, rfl, ⟨trivial, trivial⟩⟩ rfl ?_
    obtain ⟨r50, hs50, z_50, q_50⟩ := S_X12_isDigit zn (d + 0) hN hC m hIm
    refine zW.step (st1 := (15, [(some (.ref 79)), (some (.int (Int32.ofInt p))), (some (.int (Int32.ofInt x2)))], [.int (Int32.ofInt r50)], zk c m)) ⟨[zc (some (.int (Int32.ofInt r50))) (zk c m)], _, rfl, ⟨⟨⟨(Nat.lt_of_lt_of_le (Nat.le_of_ble_eq_true rfl) hN), (Nat.le_of_ble_eq_true rfl)⟩, hs50, (Nat.le_of_ble_eq_true rfl), Nat.le_refl _, Nat.le_refl _, Nat.le_refl _, Nat.le_refl _⟩, trivial⟩⟩ rfl ?_
    by_cases b51 : r50 = 0
    · refine zW.step (st1 := (87, [(some (.ref 79)), (some (.int (Int32.ofInt p))), (some (.int (Int32.ofInt x2)))], [], zk c m)) (st2 := (87, [(some (.ref 79)), (some (.int (Int32.ofInt p))), (some (.int (Int32.ofInt x2)))], [], zk c m)) ⟨[zt], _, rfl, ⟨zbt ((zi_eq rfl (rfl : (0 : Int32) = Int32.ofInt 0) (by unfold zR; omega) (⟨by decide, by decide⟩ : zR 0)).mpr b51), trivial⟩⟩ rfl ?_
      exact K x2 m hIm (by omega) (by omega) (by omega) tY
    · refine zW.step (st1 := (18, [(some (.ref 79)), (some (.int (Int32.ofInt p))), (some (.int (Int32.ofInt x2)))], [], zk c m)) (st2 := (18, [(some (.ref 79)), (some (.int (Int32.ofInt p))), (some (.int (Int32.ofInt x2)))], [], zk c m)) ⟨[zo], _, rfl, ⟨zbf (fun q => b51 ((zi_eq rfl (rfl : (0 : Int32) = Int32.ofInt 0) (by unfold zR; omega) (⟨by decide, by decide⟩ : zR 0)).mp q)), trivial⟩⟩ rfl ?_
      refine zW.step (st1 := (19, [(some (.ref 79)), (some (.int (Int32.ofInt p))), (some (.int (Int32.ofInt x2)))], [.ref 79], zk c m)) (st2 := (19, [(some (.ref 79)), (some (.int (Int32.ofInt p))), (some (.int (Int32.ofInt x2)))], [.ref 79], zk c m)) ⟨[zo], _, rfl, ⟨trivial, trivial⟩⟩ rfl ?_
      obtain ⟨r52, hs52, z_52, q_52⟩ := S_X12_isDigit zn (d + 0) hN hC m hIm
      refine zW.step (st1 := (22, [(some (.ref 79)), (some (.int (Int32.ofInt p))), (some (.int (Int32.ofInt x2)))], [.int (Int32.ofInt r52)], zk c m)) ⟨[zc (some (.int (Int32.ofInt r52))) (zk c m)], _, rfl, ⟨⟨⟨(Nat.lt_of_lt_of_le (Nat.le_of_ble_eq_true rfl) hN), (Nat.le_of_ble_eq_true rfl)⟩, hs52, (Nat.le_of_ble_eq_true rfl), Nat.le_refl _, Nat.le_refl _, Nat.le_refl _, Nat.le_refl _⟩, trivial⟩⟩ rfl ?_
      by_cases b53 : r52 = 0
      · refine zW.step (st1 := (42, [(some (.ref 79)), (some (.int (Int32.ofInt p))), (some (.int (Int32.ofInt x2)))], [], zk c m)) (st2 := (42, [(some (.ref 79)), (some (.int (Int32.ofInt p))), (some (.int (Int32.ofInt x2)))], [], zk c m)) ⟨[zt], _, rfl, ⟨zbt ((zi_eq rfl (rfl : (0 : Int32) = Int32.ofInt 0) (by unfold zR; omega) (⟨by decide, by decide⟩ : zR 0)).mpr b53), trivial⟩⟩ rfl ?_
        refine zW.step (st1 := (43, [(some (.ref 79)), (some (.int (Int32.ofInt p))), (some (.int (Int32.ofInt x2)))], [.ref 79], zk c m)) (st2 := (43, [(some (.ref 79)), (some (.int (Int32.ofInt p))), (some (.int (Int32.ofInt x2)))], [.ref 79], zk c m)) ⟨[zo], _, rfl, ⟨trivial, trivial⟩⟩ rfl ?_
        obtain ⟨r54, m54, hs54, hIm54, q_54, n_54, a9_54, e9_54, d9_54, kY_54⟩ := S_X12_fails zn (d + 0) hN hC m hIm
        subst q_54
        refine zW.step (st1 := (46, [(some (.ref 79)), (some (.int (Int32.ofInt p))), (some (.int (Int32.ofInt x2)))], [.int (Int32.ofInt 0)], zk c m54)) ⟨[zc (some (.int (Int32.ofInt 0))) (zk c m54)], _, rfl, ⟨⟨⟨(Nat.lt_of_lt_of_le (Nat.le_of_ble_eq_true rfl) hN), (Nat.le_of_ble_eq_true rfl)⟩, hs54, (Nat.le_of_ble_eq_true rfl), Nat.le_refl _, Nat.le_refl _, Nat.le_refl _, Nat.le_refl _⟩, trivial⟩⟩ rfl ?_
        have f55 : (0 : Int) ≤ m54 79 9 ∧ m54 79 9 ≤ 240 := hIm54.1 79 9
        have f56 : (0 : Int) ≤ m54 79 10 ∧ m54 79 10 ≤ 241 := hIm54.1 79 10
        have f57 : (-2147483648 : Int) ≤ m54 79 11 ∧ m54 79 11 ≤ 2147483647 := hIm54.1 79 11
        have f58 : (0 : Int) ≤ m54 79 12 ∧ m54 79 12 ≤ 6 := hIm54.1 79 12
        have tk59 : zY m0 m54 := zY_tr tY kY_54
        refine zW.step (st1 := (47, [(some (.ref 79)), (some (.int (Int32.ofInt p))), (some (.int (Int32.ofInt x2)))], [], zk c m54)) (st2 := (47, [(some (.ref 79)), (some (.int (Int32.ofInt p))), (some (.int (Int32.ofInt x2)))], [], zk c m54)) ⟨[zo], _, rfl, ⟨trivial, trivial⟩⟩ rfl ?_
        exact zW.fin (zfin_v rfl rfl) (KR _ _ ⟨m54, rfl, rfl, hIm54, (by omega), (by omega), tk59⟩)
      · refine zW.step (st1 := (25, [(some (.ref 79)), (some (.int (Int32.ofInt p))), (some (.int (Int32.ofInt x2)))], [], zk c m)) (st2 := (25, [(some (.ref 79)), (some (.int (Int32.ofInt p))), (some (.int (Int32.ofInt x2)))], [], zk c m)) ⟨[zo], _, rfl, ⟨zbf (fun q => b53 ((zi_eq rfl (rfl : (0 : Int32) = Int32.ofInt 0) (by unfold zR; omega) (⟨by decide, by decide⟩ : zR 0)).mp q)), trivial⟩⟩ rfl ?_
        by_cases b60 : x2 = 8
        · refine zW.step (st1 := (42, [(some (.ref 79)), (some (.int (Int32.ofInt p))), (some (.int (Int32.ofInt x2)))], [], zk c m)) (st2 := (42, [(some (.ref 79)), (some (.int (Int32.ofInt p))), (some (.int (Int32.ofInt x2)))], [], zk c m)) ⟨[zo, zo, zt], _, rfl, ⟨trivial, trivial, zbt ((zi_eq rfl (by decide : (Int8.ofInt 8).toInt32 = Int32.ofInt 8) (by unfold zR; omega) (⟨by decide, by decide⟩ : zR 8)).mpr b60), trivial⟩⟩ rfl ?_
          refine zW.step (st1 := (43, [(some (.ref 79)), (some (.int (Int32.ofInt p))), (some (.int (Int32.ofInt x2)))], [.ref 79], zk c m)) (st2 := (43, [(some (.ref 79)), (some (.int (Int32.ofInt p))), (some (.int (Int32.ofInt x2)))], [.ref 79], zk c m)) ⟨[zo], _, rfl, ⟨trivial, trivial⟩⟩ rfl ?_
          obtain ⟨r61, m61, hs61, hIm61, q_61, n_61, a9_61, e9_61, d9_61, kY_61⟩ := S_X12_fails zn (d + 0) hN hC m hIm
          subst q_61
          refine zW.step (st1 := (46, [(some (.ref 79)), (some (.int (Int32.ofInt p))), (some (.int (Int32.ofInt x2)))], [.int (Int32.ofInt 0)], zk c m61)) ⟨[zc (some (.int (Int32.ofInt 0))) (zk c m61)], _, rfl, ⟨⟨⟨(Nat.lt_of_lt_of_le (Nat.le_of_ble_eq_true rfl) hN), (Nat.le_of_ble_eq_true rfl)⟩, hs61, (Nat.le_of_ble_eq_true rfl), Nat.le_refl _, Nat.le_refl _, Nat.le_refl _, Nat.le_refl _⟩, trivial⟩⟩ rfl ?_
          have f62 : (0 : Int) ≤ m61 79 9 ∧ m61 79 9 ≤ 240 := hIm61.1 79 9
          have f63 : (0 : Int) ≤ m61 79 10 ∧ m61 79 10 ≤ 241 := hIm61.1 79 10
          have f64 : (-2147483648 : Int) ≤ m61 79 11 ∧ m61 79 11 ≤ 2147483647 := hIm61.1 79 11
          have f65 : (0 : Int) ≤ m61 79 12 ∧ m61 79 12 ≤ 6 := hIm61.1 79 12
          have tk66 : zY m0 m61 := zY_tr tY kY_61
          refine zW.step (st1 := (47, [(some (.ref 79)), (some (.int (Int32.ofInt p))), (some (.int (Int32.ofInt x2)))], [], zk c m61)) (st2 := (47, [(some (.ref 79)), (some (.int (Int32.ofInt p))), (some (.int (Int32.ofInt x2)))], [], zk c m61)) ⟨[zo], _, rfl, ⟨trivial, trivial⟩⟩ rfl ?_
          exact zW.fin (zfin_v rfl rfl) (KR _ _ ⟨m61, rfl, rfl, hIm61, (by omega), (by omega), tk66⟩)
        · refine zW.step (st1 := (31, [(some (.ref 79)), (some (.int (Int32.ofInt p))), (some (.int (Int32.ofInt x2)))], [], zk c m)) (st2 := (31, [(some (.ref 79)), (some (.int (Int32.ofInt p))), (some (.int (Int32.ofInt x2)))], [], zk c m)) ⟨[zo, zo, zo], _, rfl, ⟨trivial, trivial, zbf (fun q => b60 ((zi_eq rfl (by decide : (Int8.ofInt 8).toInt32 = Int32.ofInt 8) (by unfold zR; omega) (⟨by decide, by decide⟩ : zR 8)).mp q)), trivial⟩⟩ rfl ?_
          refine zW.step (st1 := (32, [(some (.ref 79)), (some (.int (Int32.ofInt p))), (some (.int (Int32.ofInt x2)))], [.ref 79], zk c m)) (st2 := (32, [(some (.ref 79)), (some (.int (Int32.ofInt p))), (some (.int (Int32.ofInt x2)))], [.ref 79], zk c m)) ⟨[zo], _, rfl, ⟨trivial, trivial⟩⟩ rfl ?_
          obtain ⟨r67, hs67, z_67, q_67, v_67⟩ := S_X12_here zn (d + 0) hN hC m hIm
          refine zW.step (st1 := (35, [(some (.ref 79)), (some (.int (Int32.ofInt p))), (some (.int (Int32.ofInt x2)))], [.int (Int32.ofInt r67)], zk c m)) ⟨[zc (some (.int (Int32.ofInt r67))) (zk c m)], _, rfl, ⟨⟨⟨(Nat.lt_of_lt_of_le (Nat.le_of_ble_eq_true rfl) hN), (Nat.le_of_ble_eq_true rfl)⟩, hs67, (Nat.le_of_ble_eq_true rfl), Nat.le_refl _, Nat.le_refl _, Nat.le_refl _, Nat.le_refl _⟩, trivial⟩⟩ rfl ?_
          have f68 := zwR (r67 - 48)
          have f69 := zwI (r67 - 48)
          by_cases b70 : (zw (r67 - 48)) < 5
          · refine zW.step (st1 := (48, [(some (.ref 79)), (some (.int (Int32.ofInt p))), (some (.int (Int32.ofInt x2)))], [], zk c m)) (st2 := (48, [(some (.ref 79)), (some (.int (Int32.ofInt p))), (some (.int (Int32.ofInt x2)))], [], zk c m)) ⟨[zo, zo, zo, zt], _, rfl, ⟨trivial, trivial, trivial, zbt ((zi_lt (Eq.trans (zi_sub rfl (by decide : (Int8.ofInt 48).toInt32 = Int32.ofInt 48)) (zw_eq _)) rfl (by unfold zR; omega) (⟨by decide, by decide⟩ : zR 5)).mpr b70), trivial⟩⟩ rfl ?_
            refine zW.step (st1 := (59, [(some (.ref 79)), (some (.int (Int32.ofInt p))), (some (.int (Int32.ofInt x2)))], [.ref 79, .int ((((Int8.ofInt 8).toInt32) * (Int32.ofInt p)) + (Int32.ofInt x2)), .ref 89], zk c m)) (st2 := (59, [(some (.ref 79)), (some (.int (Int32.ofInt p))), (some (.int (Int32.ofInt x2)))], [.ref 79, .int (Int32.ofInt ((8 * p) + x2)), .ref 89], zk c m)) ⟨[zo, zo, zo, zo, zo, zo, zo, zo], _, rfl, ⟨trivial, (Nat.lt_of_lt_of_le (Nat.le_of_ble_eq_true rfl) hN), trivial, trivial, trivial, trivial, trivial, trivial, trivial⟩⟩ (z_steq rfl (z_c1 rfl (z_c1 (z_vi (zi_add (zi_mul (by decide : (Int8.ofInt 8).toInt32 = Int32.ofInt 8) rfl) rfl)) rfl)) rfl) ?_
            obtain ⟨r71, hs71, z_71, q_71, v_71⟩ := S_X12_here zn (d + 0) hN hC m hIm
            refine zW.step (st1 := (62, [(some (.ref 79)), (some (.int (Int32.ofInt p))), (some (.int (Int32.ofInt x2)))], [.int (Int32.ofInt r71), .int (Int32.ofInt ((8 * p) + x2)), .ref 89], zk c m)) ⟨[zc (some (.int (Int32.ofInt r71))) (zk c m)], _, rfl, ⟨⟨⟨(Nat.lt_of_lt_of_le (Nat.le_of_ble_eq_true rfl) hN), (Nat.le_of_ble_eq_true rfl)⟩, hs71, (Nat.le_of_ble_eq_true rfl), Nat.le_refl _, Nat.le_refl _, Nat.le_refl _, Nat.le_refl _⟩, trivial⟩⟩ rfl ?_
            obtain ⟨m72, hm72⟩ : ∃ q, q = zm_up m 89 (((8 * p) + x2).toNat) (r71 - 48) := ⟨_, rfl⟩
            have hIm72 := zJ_upE hIm hm72 (zOj_p (by decide)) (show (0 : Int) ≤ (r71 - 48) ∧ (r71 - 48) ≤ 4 by omega)
            have em72 : m72 89 (((8 * p) + x2).toNat) = (r71 - 48) := by rw [hm72]; exact zm_eq
            have f73 : m72 79 9 = m 79 9 := by rw [hm72]; exact zm_ne (Or.inl (by decide))
            have f74 : m72 79 10 = m 79 10 := by rw [hm72]; exact zm_ne (Or.inl (by decide))
            have f75 : m72 79 11 = m 79 11 := by rw [hm72]; exact zm_ne (Or.inl (by decide))
            have f76 : m72 79 12 = m 79 12 := by rw [hm72]; exact zm_ne (Or.inl (by decide))
            have tk77 : zY m0 m72 := by rw [hm72]; exact zY_up tY (zYs_p (by decide))
            refine zW.step (st1 := (66, [(some (.ref 79)), (some (.int (Int32.ofInt p))), (some (.int (Int32.ofInt x2)))], [], z_hup (zk c m) 89 (.inl (0, 48, .inl (upd (fun j => Int32.ofInt (m 89 j)) (Int32.ofInt ((8 * p) + x2)).toNatClampNeg ((Int32.ofInt r71) - ((Int8.ofInt 48).toInt32))))))) (st2 := (66, [(some (.ref 79)), (some (.int (Int32.ofInt p))), (some (.int (Int32.ofInt x2)))], [], zk c m72)) ⟨[zo, zo, (false, 0, none, zh0, some (.inl (0, 48, .inl (fun j => Int32.ofInt (m 89 j)))))], _, rfl, ⟨trivial, trivial, ⟨zk_ra c m zA_89 (Nat.lt_of_lt_of_le (Nat.le_of_ble_eq_true rfl) hN), zi_in rfl (by omega) (by omega) (by omega)⟩, trivial⟩⟩ (z_steq rfl rfl ((zk_ias c m zA_89 rfl (by unfold zR; omega) (zi_sub rfl (by decide : (Int8.ofInt 48).toInt32 = Int32.ofInt 48))).trans (by rw [hm72]))) ?_
            have f78 : (0 : Int) ≤ m72 79 10 ∧ m72 79 10 ≤ 241 := hIm72.1 79 10
            obtain ⟨m79, hm79⟩ : ∃ q, q = zm_up m72 79 10 ((m72 79 10) + 1) := ⟨_, rfl⟩
            have hIm79 := zJ_upE hIm72 hm79 (zOj_79 (by decide)) (show (0 : Int) ≤ ((m72 79 10) + 1) ∧ ((m72 79 10) + 1) ≤ 241 by omega)
            have em79 : m79 79 10 = ((m72 79 10) + 1) := by rw [hm79]; exact zm_eq
            have f80 : m79 79 9 = m72 79 9 := by rw [hm79]; exact zm_ne (Or.inr (by decide))
            have f81 : m79 79 11 = m72 79 11 := by rw [hm79]; exact zm_ne (Or.inr (by decide))
            have f82 : m79 79 12 = m72 79 12 := by rw [hm79]; exact zm_ne (Or.inr (by decide))
            have tk83 : zY m0 m79 := by rw [hm79]; exact zY_up tk77 (zYs_79 (by decide))
            clear tk77
            refine zW.step (st1 := (79, [(some (.ref 79)), (some (.int (Int32.ofInt p))), (some (.int ((Int32.ofInt x2) + Int32.ofInt 1)))], [], z_hup (zk c m72) 79 (.inr (12, (.int (Int32.ofInt (m72 79 0)) :: .ref 80 :: .ref 81 :: .ref 82 :: .ref 83 :: zm_rf (m72 79 5) :: .int (Int32.ofInt (m72 79 6)) :: .int (Int32.ofInt (m72 79 7)) :: .int (Int32.ofInt (m72 79 8)) :: .int (Int32.ofInt (m72 79 9)) :: .int ((Int32.ofInt (m72 79 10)) + (Int32.ofInt 1)) :: .int (Int32.ofInt (m72 79 11)) :: .int (Int32.ofInt (m72 79 12)) :: .int (Int32.ofInt (m72 79 13)) :: .int (Int32.ofInt (m72 79 14)) :: .ref (z_RO + 5) :: .ref (z_RO + 3) :: .int (Int32.ofInt (m72 79 17)) :: .ref 84 :: .ref 85 :: .ref 86 :: .ref 87 :: .ref 88 :: .ref 89 :: .ref 90 :: .ref 91 :: .int (Int32.ofInt (m72 79 26)) :: .int (Int32.ofInt (m72 79 27)) :: .int (Int32.ofInt (m72 79 28)) :: .int (Int32.ofInt (m72 79 29)) :: .int (Int32.ofInt (m72 79 30)) :: .ref 92 :: .ref 93 :: .int (Int32.ofInt (m72 79 33)) :: .int (Int32.ofInt (m72 79 34)) :: .ref 94 :: .ref 95 :: .int (Int32.ofInt (m72 79 37)) :: .int (Int32.ofInt (m72 79 38)) :: .int (Int32.ofInt (m72 79 39)) :: .int (Int32.ofInt (m72 79 40)) :: .int (Int32.ofInt (m72 79 41)) :: .int (Int32.ofInt (m72 79 42)) :: .ref 96 :: .ref 97 :: .ref 98 :: .ref 99 :: .ref 100 :: .int (Int32.ofInt (m72 79 48)) :: .int (Int32.ofInt (m72 79 49)) :: .long (Int64.ofInt (m72 79 50)) :: .ref 101 :: .ref 102 :: .int (Int32.ofInt (m72 79 53)) :: .ref 103 :: .ref 104 :: .ref 105 :: .int (Int32.ofInt (m72 79 57)) :: []))))) (st2 := (79, [(some (.ref 79)), (some (.int (Int32.ofInt p))), (some (.int (Int32.ofInt (x2 + 1))))], [], zk c m79)) ⟨[zo, zo, zo, zo, zo, zo, zo], _, rfl, ⟨trivial, trivial, trivial, (Nat.lt_of_lt_of_le (Nat.le_of_ble_eq_true rfl) hN), trivial, trivial, ⟨(Nat.lt_of_lt_of_le (Nat.le_of_ble_eq_true rfl) hN), rfl, rfl⟩, trivial⟩⟩ (z_steq (z_c1 rfl (z_c1 rfl (z_c1 (z_si (zi_add rfl rfl)) rfl))) rfl ((zk_up c m72 79 10 ((m72 79 10) + 1) _ ((congrArg (fun q => (.inr (12, (.int (Int32.ofInt (m72 79 0)) :: .ref 80 :: .ref 81 :: .ref 82 :: .ref 83 :: zm_rf (m72 79 5) :: .int (Int32.ofInt (m72 79 6)) :: .int (Int32.ofInt (m72 79 7)) :: .int (Int32.ofInt (m72 79 8)) :: .int (Int32.ofInt (m72 79 9)) :: .int q :: .int (Int32.ofInt (m72 79 11)) :: .int (Int32.ofInt (m72 79 12)) :: .int (Int32.ofInt (m72 79 13)) :: .int (Int32.ofInt (m72 79 14)) :: .ref (z_RO + 5) :: .ref (z_RO + 3) :: .int (Int32.ofInt (m72 79 17)) :: .ref 84 :: .ref 85 :: .ref 86 :: .ref 87 :: .ref 88 :: .ref 89 :: .ref 90 :: .ref 91 :: .int (Int32.ofInt (m72 79 26)) :: .int (Int32.ofInt (m72 79 27)) :: .int (Int32.ofInt (m72 79 28)) :: .int (Int32.ofInt (m72 79 29)) :: .int (Int32.ofInt (m72 79 30)) :: .ref 92 :: .ref 93 :: .int (Int32.ofInt (m72 79 33)) :: .int (Int32.ofInt (m72 79 34)) :: .ref 94 :: .ref 95 :: .int (Int32.ofInt (m72 79 37)) :: .int (Int32.ofInt (m72 79 38)) :: .int (Int32.ofInt (m72 79 39)) :: .int (Int32.ofInt (m72 79 40)) :: .int (Int32.ofInt (m72 79 41)) :: .int (Int32.ofInt (m72 79 42)) :: .ref 96 :: .ref 97 :: .ref 98 :: .ref 99 :: .ref 100 :: .int (Int32.ofInt (m72 79 48)) :: .int (Int32.ofInt (m72 79 49)) :: .long (Int64.ofInt (m72 79 50)) :: .ref 101 :: .ref 102 :: .int (Int32.ofInt (m72 79 53)) :: .ref 103 :: .ref 104 :: .ref 105 :: .int (Int32.ofInt (m72 79 57)) :: [])) : z_E)) (zi_add rfl rfl)).trans rfl)).trans (by rw [hm79]))) ?_
            clear em72
            refine zW.step (st1 := (80, [(some (.ref 79)), (some (.int (Int32.ofInt p))), (some (.int (Int32.ofInt (x2 + 1))))], [.ref 79], zk c m79)) (st2 := (80, [(some (.ref 79)), (some (.int (Int32.ofInt p))), (some (.int (Int32.ofInt (x2 + 1))))], [.ref 79], zk c m79)) ⟨[zo], _, rfl, ⟨trivial, trivial⟩⟩ rfl ?_
            obtain ⟨r84, m84, hs84, hIm84, z_84, q_84, a9_84, q2_84, e9_84, f9_84, d9_84, kY_84⟩ := S_X12_look zn (d + 0) hN hC m79 hIm79
            refine zW.step (st1 := (83, [(some (.ref 79)), (some (.int (Int32.ofInt p))), (some (.int (Int32.ofInt (x2 + 1))))], [.int (Int32.ofInt r84)], zk c m84)) ⟨[zc (some (.int (Int32.ofInt r84))) (zk c m84)], _, rfl, ⟨⟨⟨(Nat.lt_of_lt_of_le (Nat.le_of_ble_eq_true rfl) hN), (Nat.le_of_ble_eq_true rfl)⟩, hs84, (Nat.le_of_ble_eq_true rfl), Nat.le_refl _, Nat.le_refl _, Nat.le_refl _, Nat.le_refl _⟩, trivial⟩⟩ rfl ?_
            have f85 : (0 : Int) ≤ m84 79 9 ∧ m84 79 9 ≤ 240 := hIm84.1 79 9
            have f86 : (0 : Int) ≤ m84 79 10 ∧ m84 79 10 ≤ 241 := hIm84.1 79 10
            have f87 : (-2147483648 : Int) ≤ m84 79 11 ∧ m84 79 11 ≤ 2147483647 := hIm84.1 79 11
            have f88 : (0 : Int) ≤ m84 79 12 ∧ m84 79 12 ≤ 6 := hIm84.1 79 12
            have tk89 : zY m0 m84 := zY_tr tk83 kY_84
            refine zW.step (st1 := (7, [(some (.ref 79)), (some (.int (Int32.ofInt p))), (some (.int (Int32.ofInt (x2 + 1))))], [], zk c m84)) (st2 := (7, [(some (.ref 79)), (some (.int (Int32.ofInt p))), (some (.int (Int32.ofInt (x2 + 1))))], [], zk c m84)) ⟨[zo, zo], _, rfl, ⟨trivial, trivial, trivial⟩⟩ rfl ?_
            exact ih _ (by omega) (x2 + 1) m84 hIm84 (by omega) (by omega) (by omega) tk89 rfl
          · refine zW.step (st1 := (42, [(some (.ref 79)), (some (.int (Int32.ofInt p))), (some (.int (Int32.ofInt x2)))], [], zk c m)) (st2 := (42, [(some (.ref 79)), (some (.int (Int32.ofInt p))), (some (.int (Int32.ofInt x2)))], [], zk c m)) ⟨[zo, zo, zo, zo], _, rfl, ⟨trivial, trivial, trivial, zbf (fun q => b70 ((zi_lt (Eq.trans (zi_sub rfl (by decide : (Int8.ofInt 48).toInt32 = Int32.ofInt 48)) (zw_eq _)) rfl (by unfold zR; omega) (⟨by decide, by decide⟩ : zR 5)).mp q)), trivial⟩⟩ rfl ?_
            refine zW.step (st1 := (43, [(some (.ref 79)), (some (.int (Int32.ofInt p))), (some (.int (Int32.ofInt x2)))], [.ref 79], zk c m)) (st2 := (43, [(some (.ref 79)), (some (.int (Int32.ofInt p))), (some (.int (Int32.ofInt x2)))], [.ref 79], zk c m)) ⟨[zo], _, rfl, ⟨trivial, trivial⟩⟩ rfl ?_
            obtain ⟨r90, m90, hs90, hIm90, q_90, n_90, a9_90, e9_90, d9_90, kY_90⟩ := S_X12_fails zn (d + 0) hN hC m hIm
            subst q_90
            refine zW.step (st1 := (46, [(some (.ref 79)), (some (.int (Int32.ofInt p))), (some (.int (Int32.ofInt x2)))], [.int (Int32.ofInt 0)], zk c m90)) ⟨[zc (some (.int (Int32.ofInt 0))) (zk c m90)], _, rfl, ⟨⟨⟨(Nat.lt_of_lt_of_le (Nat.le_of_ble_eq_true rfl) hN), (Nat.le_of_ble_eq_true rfl)⟩, hs90, (Nat.le_of_ble_eq_true rfl), Nat.le_refl _, Nat.le_refl _, Nat.le_refl _, Nat.le_refl _⟩, trivial⟩⟩ rfl ?_
            have f91 : (0 : Int) ≤ m90 79 9 ∧ m90 79 9 ≤ 240 := hIm90.1 79 9
            have f92 : (0 : Int) ≤ m90 79 10 ∧ m90 79 10 ≤ 241 := hIm90.1 79 10
            have f93 : (-2147483648 : Int) ≤ m90 79 11 ∧ m90 79 11 ≤ 2147483647 := hIm90.1 79 11
            have f94 : (0 : Int) ≤ m90 79 12 ∧ m90 79 12 ≤ 6 := hIm90.1 79 12
            have tk95 : zY m0 m90 := zY_tr tY kY_90
            refine zW.step (st1 := (47, [(some (.ref 79)), (some (.int (Int32.ofInt p))), (some (.int (Int32.ofInt x2)))], [], zk c m90)) (st2 := (47, [(some (.ref 79)), (some (.int (Int32.ofInt p))), (some (.int (Int32.ofInt x2)))], [], zk c m90)) ⟨[zo], _, rfl, ⟨trivial, trivial⟩⟩ rfl ?_
            exact zW.fin (zfin_v rfl rfl) (KR _ _ ⟨m90, rfl, rfl, hIm90, (by omega), (by omega), tk95⟩)

set_option maxRecDepth 100000 in
set_option maxHeartbeats 4000000 in
theorem S_X12_readWay (zn : Bool) (d : Nat) {c : Nat × Nat} {mC : zM} {t9 : Int} {e9 : Nat} (hN : 107 ≤ c.1) (hC : c.1 < z_RO) (p : Int) (m : zM) (hIm : zJ mC t9 e9 m) (r_p : -2147483648 ≤ p ∧ p ≤ 2147483647) (hp : 0 ≤ p ∧ p ≤ 5) : zCv zn (d + 2) 270 [.ref 79, .int (Int32.ofInt p)] c m (fun (m1 : zM) => zJ mC t9 e9 m1 ∧ (m 79 10 ≤ m1 79 10) ∧ (m1 79 9 = m 79 9) ∧ zY m m1) := by
  refine zCv.of zu_X12_readWay hC (Nat.le_of_ble_eq_true rfl) ?_
  show zW zn (d + 1) 270 c (0, [(some (.ref 79)), (some (.int (Int32.ofInt p))), none], [], zk c m) (fun v h1 => ∃ (m1 : zM), v = none ∧ h1 = zk c m1 ∧ zJ mC t9 e9 m1 ∧ (m 79 10 ≤ m1 79 10) ∧ (m1 79 9 = m 79 9) ∧ zY m m1)
  have f96 : (0 : Int) ≤ m 79 9 ∧ m 79 9 ≤ 240 := hIm.1 79 9
  have f97 : (0 : Int) ≤ m 79 10 ∧ m 79 10 ≤ 241 := hIm.1 79 10
  have f98 : (-2147483648 : Int) ≤ m 79 11 ∧ m 79 11 ≤ 2147483647 := hIm.1 79 11
  have f99 : (0 : Int) ≤ m 79 12 ∧ m 79 12 ≤ 6 := hIm.1 79 12
  refine zW.step (st1 := (3, [(some (.ref 79)), (some (.int (Int32.ofInt p))), (some (.int (Int32.ofInt 0)))], [.ref 79], zk c m)) (st2 := (3, [(some (.ref 79)), (some (.int (Int32.ofInt p))), (some (.int (Int32.ofInt 0)))], [.ref 79], zk c m)) ⟨[zo, zo, zo], _, rfl, ⟨trivial, trivial, trivial, trivial⟩⟩ rfl ?_
  obtain ⟨r100, m100, hs100, hIm100, z_100, q_100, a9_100, q2_100, e9_100, f9_100, d9_100, kY_100⟩ := S_X12_look zn (d + 0) hN hC m hIm
  refine zW.step (st1 := (6, [(some (.ref 79)), (some (.int (Int32.ofInt p))), (some (.int (Int32.ofInt 0)))], [.int (Int32.ofInt r100)], zk c m100)) ⟨[zc (some (.int (Int32.ofInt r100))) (zk c m100)], _, rfl, ⟨⟨⟨(Nat.lt_of_lt_of_le (Nat.le_of_ble_eq_true rfl) hN), (Nat.le_of_ble_eq_true rfl)⟩, hs100, (Nat.le_of_ble_eq_true rfl), Nat.le_refl _, Nat.le_refl _, Nat.le_refl _, Nat.le_refl _⟩, trivial⟩⟩ rfl ?_
  have f101 : (0 : Int) ≤ m100 79 9 ∧ m100 79 9 ≤ 240 := hIm100.1 79 9
  have f102 : (0 : Int) ≤ m100 79 10 ∧ m100 79 10 ≤ 241 := hIm100.1 79 10
  have f103 : (-2147483648 : Int) ≤ m100 79 11 ∧ m100 79 11 ≤ 2147483647 := hIm100.1 79 11
  have f104 : (0 : Int) ≤ m100 79 12 ∧ m100 79 12 ≤ 6 := hIm100.1 79 12
  have tk105 : zY m m100 := zY_tr zY_rf kY_100
  refine zW.step (st1 := (7, [(some (.ref 79)), (some (.int (Int32.ofInt p))), (some (.int (Int32.ofInt 0)))], [], zk c m100)) (st2 := (7, [(some (.ref 79)), (some (.int (Int32.ofInt p))), (some (.int (Int32.ofInt 0)))], [], zk c m100)) ⟨[zo], _, rfl, ⟨trivial, trivial⟩⟩ rfl ?_
  refine L_X12_readWay_7 zn _ hN hC p r_p hp m _ (fun v9 h9 hq9 => hq9) (fun x2_106 m_106 hIm_106 i1_106 j4_106 j3_106 tY_106 => ?_) _ 0 m100 hIm100 (by omega) (by omega) (by omega) tk105 rfl
  have f107 : (0 : Int) ≤ m_106 79 9 ∧ m_106 79 9 ≤ 240 := hIm_106.1 79 9
  have f108 : (0 : Int) ≤ m_106 79 10 ∧ m_106 79 10 ≤ 241 := hIm_106.1 79 10
  have f109 : (-2147483648 : Int) ≤ m_106 79 11 ∧ m_106 79 11 ≤ 2147483647 := hIm_106.1 79 11
  have f110 : (0 : Int) ≤ m_106 79 12 ∧ m_106 79 12 ≤ 6 := hIm_106.1 79 12
  obtain ⟨m111, hm111⟩ : ∃ q, q = zm_up m_106 91 p.toNat x2_106 := ⟨_, rfl⟩
  have hIm111 := zJ_upE hIm_106 hm111 (zOj_p (by decide)) (show (0 : Int) ≤ x2_106 ∧ x2_106 ≤ 8 by omega)
  have em111 : m111 91 p.toNat = x2_106 := by rw [hm111]; exact zm_eq
  have f112 : m111 79 9 = m_106 79 9 := by rw [hm111]; exact zm_ne (Or.inl (by decide))
  have f113 : m111 79 10 = m_106 79 10 := by rw [hm111]; exact zm_ne (Or.inl (by decide))
  have f114 : m111 79 11 = m_106 79 11 := by rw [hm111]; exact zm_ne (Or.inl (by decide))
  have f115 : m111 79 12 = m_106 79 12 := by rw [hm111]; exact zm_ne (Or.inl (by decide))
  have tk116 : zY m m111 := by rw [hm111]; exact zY_up tY_106 (zYs_p (by decide))
  refine zW.step (st1 := (94, [(some (.ref 79)), (some (.int (Int32.ofInt p))), (some (.int (Int32.ofInt x2_106)))], [], z_hup (zk c m_106) 91 (.inl (0, 6, .inl (upd (fun j => Int32.ofInt (m_106 91 j)) (Int32.ofInt p).toNatClampNeg (Int32.ofInt x2_106)))))) (st2 := (94, [(some (.ref 79)), (some (.int (Int32.ofInt p))), (some (.int (Int32.ofInt x2_106)))], [], zk c m111)) ⟨[zo, zo, zo, zo, (false, 0, none, zh0, some (.inl (0, 6, .inl (fun j => Int32.ofInt (m_106 91 j)))))], _, rfl, ⟨trivial, (Nat.lt_of_lt_of_le (Nat.le_of_ble_eq_true rfl) hN), trivial, trivial, ⟨zk_ra c m_106 zA_91 (Nat.lt_of_lt_of_le (Nat.le_of_ble_eq_true rfl) hN), zi_in rfl (by omega) (by omega) (by omega)⟩, trivial⟩⟩ (z_steq rfl rfl ((zk_ias c m_106 zA_91 rfl (by unfold zR; omega) rfl).trans (by rw [hm111]))) ?_
  exact zW.fin (zfin_v rfl rfl) ⟨m111, rfl, rfl, hIm111, (by omega), (by omega), tk116⟩

