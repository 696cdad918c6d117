/-! what methods do over memory, by program (wip/tools/gw): X12_readHouse, X12_fault -/
set_option maxRecDepth 100000 in
set_option maxHeartbeats 4000000 in
theorem L_X12_readHouse_30 (zn : Bool) (d : Nat) {c : Nat × Nat} {mC : zM} {t9 : Int} {e9 : Nat} (hN : 107 ≤ c.1) (hC : c.1 < z_RO) (m0 : zM) (Q : Option Value → z_H → Prop) (K : ∀ (x1 : Int) (m : zM), zJ mC t9 e9 m → 0 ≤ x1 ∧ x1 ≤ 1 → zV9 m0 m → zK m (m 79 29) → zW zn (d + 7) 267 c (86, [(some (.ref 79)), (some (.int (Int32.ofInt x1)))], [], zk c m) Q) :
    ∀ (w : Nat) (x1 : Int) (m : zM), zJ mC t9 e9 m → 0 ≤ x1 ∧ x1 ≤ 1 → zV9 m0 m → zK m (m 79 29) → w = (241 - m 79 10 + x1).toNat → zW zn (d + 7) 267 c (30, [(some (.ref 79)), (some (.int (Int32.ofInt x1)))], [], zk c m) Q := by
  intro w
  induction w using Nat.strongRecOn with | _ w ih => ?_
  intro x1 m hIm i1 tV tK hw
  have f1 : (0 : Int) ≤ m 79 9 ∧ m 79 9 ≤ 240 := hIm.1 79 9
  have f2 : (0 : Int) ≤ m 79 10 ∧ m 79 10 ≤ 241 := hIm.1 79 10
  have f3 : (-2147483648 : Int) ≤ m 79 11 ∧ m 79 11 ≤ 2147483647 := hIm.1 79 11
  have f4 : (0 : Int) ≤ m 79 12 ∧ m 79 12 ≤ 6 := hIm.1 79 12
  have f5 : (0 : Int) ≤ m 79 28 ∧ m 79 28 ≤ 5 := hIm.1 79 28
  have f6 : (0 : Int) ≤ m 79 29 ∧ m 79 29 ≤ 6 := hIm.1 79 29
  have f7 : (0 : Int) ≤ m 79 30 ∧ m 79 30 ≤ 6 := hIm.1 79 30
  by_cases b8 : x1 = 0
  · refine zW.step (st1 := (86, [(some (.ref 79)), (some (.int (Int32.ofInt x1)))], [], zk c m)) (st2 := (86, [(some (.ref 79)), (some (.int (Int32.ofInt x1)))], [], zk c m)) ⟨[zo, zt], _, rfl, ⟨trivial, zbt ((zi_eq rfl (rfl : (0 : Int32) = Int32.ofInt 0) (by unfold zR; omega) (⟨by decide, by decide⟩ : zR 0)).mpr b8), trivial⟩⟩ rfl ?_
    exact K x1 m hIm (by omega) tV (zK_cg tK (by omega))
  · refine zW.step (st1 := (34, [(some (.ref 79)), (some (.int (Int32.ofInt x1)))], [], zk c m)) (st2 := (34, [(some (.ref 79)), (some (.int (Int32.ofInt x1)))], [], zk c m)) ⟨[zo, zo], _, rfl, ⟨trivial, zbf (fun q => b8 ((zi_eq rfl (rfl : (0 : Int32) = Int32.ofInt 0) (by unfold zR; omega) (⟨by decide, by decide⟩ : zR 0)).mp q)), trivial⟩⟩ rfl ?_
    by_cases b9 : (m 79 11) = (-1)
    · refine zW.step (st1 := (42, [(some (.ref 79)), (some (.int (Int32.ofInt x1)))], [], zk c m)) (st2 := (42, [(some (.ref 79)), (some (.int (Int32.ofInt x1)))], [], zk c m)) ⟨[zo, zo, zo, zo], _, rfl, ⟨trivial, (Nat.lt_of_lt_of_le (Nat.le_of_ble_eq_true rfl) hN), trivial, zbf (fun q => q ((zi_eq rfl rfl (by unfold zR; omega) (⟨by decide, by decide⟩ : zR (-1))).mpr b9)), trivial⟩⟩ rfl ?_
      refine zW.step (st1 := (43, [(some (.ref 79)), (some (.int (Int32.ofInt x1)))], [.ref 79], zk c m)) (st2 := (43, [(some (.ref 79)), (some (.int (Int32.ofInt x1)))], [.ref 79], zk c m)) ⟨[zo], _, rfl, ⟨trivial, trivial⟩⟩ rfl ?_
      obtain ⟨m10, hs10, hIm10, ad_10, a9_10, e9_10, kV_10, kK_10⟩ := S_X12_readClause zn (d + 0) hN hC m hIm (zK_cg tK (by omega))
      refine zW.step (st1 := (46, [(some (.ref 79)), (some (.int (Int32.ofInt x1)))], [], zk c m10)) ⟨[zc (none) (zk c m10)], _, rfl, ⟨⟨⟨(Nat.lt_of_lt_of_le (Nat.le_of_ble_eq_true rfl) hN), (Nat.le_of_ble_eq_true rfl)⟩, hs10, (Nat.le_of_ble_eq_true rfl), Nat.le_refl _, Nat.le_refl _, Nat.le_refl _, Nat.le_refl _⟩, trivial⟩⟩ rfl ?_
      have f11 : (0 : Int) ≤ m10 79 9 ∧ m10 79 9 ≤ 240 := hIm10.1 79 9
      have f12 : (0 : Int) ≤ m10 79 10 ∧ m10 79 10 ≤ 241 := hIm10.1 79 10
      have f13 : (-2147483648 : Int) ≤ m10 79 11 ∧ m10 79 11 ≤ 2147483647 := hIm10.1 79 11
      have f14 : (0 : Int) ≤ m10 79 12 ∧ m10 79 12 ≤ 6 := hIm10.1 79 12
      have f15 : (0 : Int) ≤ m10 79 28 ∧ m10 79 28 ≤ 5 := hIm10.1 79 28
      have f16 : (0 : Int) ≤ m10 79 29 ∧ m10 79 29 ≤ 6 := hIm10.1 79 29
      have f17 : (0 : Int) ≤ m10 79 30 ∧ m10 79 30 ≤ 6 := hIm10.1 79 30
      have tk18 : zV9 m0 m10 := zV9_tr tV kV_10
      have tk19 : zK m10 (m10 79 29) := kK_10
      by_cases b20 : (m10 79 11) = (-1)
      · refine zW.step (st1 := (54, [(some (.ref 79)), (some (.int (Int32.ofInt x1)))], [], zk c m10)) (st2 := (54, [(some (.ref 79)), (some (.int (Int32.ofInt x1)))], [], zk c m10)) ⟨[zo, zo, zo, zo], _, rfl, ⟨trivial, (Nat.lt_of_lt_of_le (Nat.le_of_ble_eq_true rfl) hN), trivial, zbf (fun q => q ((zi_eq rfl rfl (by unfold zR; omega) (⟨by decide, by decide⟩ : zR (-1))).mpr b20)), trivial⟩⟩ rfl ?_
        refine zW.step (st1 := (55, [(some (.ref 79)), (some (.int (Int32.ofInt x1)))], [.ref 79], zk c m10)) (st2 := (55, [(some (.ref 79)), (some (.int (Int32.ofInt x1)))], [.ref 79], zk c m10)) ⟨[zo], _, rfl, ⟨trivial, trivial⟩⟩ rfl ?_
        obtain ⟨r21, m21, hs21, hIm21, z_21, q_21, a9_21, q2_21, e9_21, f9_21, d9_21, kY_21⟩ := S_X12_look zn (d + 6) hN hC m10 hIm10
        refine zW.step (st1 := (58, [(some (.ref 79)), (some (.int (Int32.ofInt x1)))], [.int (Int32.ofInt r21)], zk c m21)) ⟨[zc (some (.int (Int32.ofInt r21))) (zk c m21)], _, rfl, ⟨⟨⟨(Nat.lt_of_lt_of_le (Nat.le_of_ble_eq_true rfl) hN), (Nat.le_of_ble_eq_true rfl)⟩, hs21, (Nat.le_of_ble_eq_true rfl), Nat.le_refl _, Nat.le_refl _, Nat.le_refl _, Nat.le_refl _⟩, trivial⟩⟩ rfl ?_
        have f22 : (0 : Int) ≤ m21 79 9 ∧ m21 79 9 ≤ 240 := hIm21.1 79 9
        have f23 : (0 : Int) ≤ m21 79 10 ∧ m21 79 10 ≤ 241 := hIm21.1 79 10
        have f24 : (-2147483648 : Int) ≤ m21 79 11 ∧ m21 79 11 ≤ 2147483647 := hIm21.1 79 11
        have f25 : (0 : Int) ≤ m21 79 12 ∧ m21 79 12 ≤ 6 := hIm21.1 79 12
        have f26 : (0 : Int) ≤ m21 79 28 ∧ m21 79 28 ≤ 5 := hIm21.1 79 28
        have f27 : m21 79 28 = m10 79 28 := kY_21 79 28 (by unfold zYs; decide)
        have f28 : (0 : Int) ≤ m21 79 29 ∧ m21 79 29 ≤ 6 := hIm21.1 79 29
        have f29 : m21 79 29 = m10 79 29 := kY_21 79 29 (by unfold zYs; decide)
        have f30 : (0 : Int) ≤ m21 79 30 ∧ m21 79 30 ≤ 6 := hIm21.1 79 30
        have f31 : m21 79 30 = m10 79 30 := kY_21 79 30 (by unfold zYs; decide)
        have tk32 : zV9 m0 m21 := zV9_tr tk18 (zY_V kY_21)
        have tk33 : zK m21 (m10 79 29) := zK_Y tk19 kY_21
        by_cases b34 : r21 = 59
        · refine zW.step (st1 := (63, [(some (.ref 79)), (some (.int (Int32.ofInt x1)))], [], zk c m21)) (st2 := (63, [(some (.ref 79)), (some (.int (Int32.ofInt x1)))], [], zk c m21)) ⟨[zo, zo], _, rfl, ⟨trivial, zbf (fun q => q ((zi_eq rfl (by decide : (Int8.ofInt 59).toInt32 = Int32.ofInt 59) (by unfold zR; omega) (⟨by decide, by decide⟩ : zR 59)).mpr b34)), trivial⟩⟩ rfl ?_
          have b35 : ¬ ((1 : Int) = 0) := by omega
          refine zW.step (st1 := (73, [(some (.ref 79)), (some (.int (Int32.ofInt 1)))], [], zk c m21)) (st2 := (73, [(some (.ref 79)), (some (.int (Int32.ofInt 1)))], [], zk c m21)) ⟨[zo, zo, zo, zo, zo], _, rfl, ⟨trivial, trivial, trivial, trivial, zbf (fun q => b35 ((zi_eq rfl (rfl : (0 : Int32) = Int32.ofInt 0) (⟨by decide, by decide⟩ : zR 1) (⟨by decide, by decide⟩ : zR 0)).mp q)), trivial⟩⟩ rfl ?_
          obtain ⟨m36, hm36⟩ : ∃ q, q = zm_up m21 79 10 ((m21 79 10) + 1) := ⟨_, rfl⟩
          have hIm36 := zJ_upE hIm21 hm36 (zOj_79 (by decide)) (show (0 : Int) ≤ ((m21 79 10) + 1) ∧ ((m21 79 10) + 1) ≤ 241 by omega)
          have em36 : m36 79 10 = ((m21 79 10) + 1) := by rw [hm36]; exact zm_eq
          have f37 : m36 79 9 = m21 79 9 := by rw [hm36]; exact zm_ne (Or.inr (by decide))
          have f38 : m36 79 11 = m21 79 11 := by rw [hm36]; exact zm_ne (Or.inr (by decide))
          have f39 : m36 79 12 = m21 79 12 := by rw [hm36]; exact zm_ne (Or.inr (by decide))
          have f40 : m36 79 28 = m21 79 28 := by rw [hm36]; exact zm_ne (Or.inr (by decide))
          have f41 : m36 79 29 = m21 79 29 := by rw [hm36]; exact zm_ne (Or.inr (by decide))
          have f42 : m36 79 30 = m21 79 30 := by rw [hm36]; exact zm_ne (Or.inr (by decide))
          have tk43 : zV9 m0 m36 := by rw [hm36]; exact zV9_up tk32 (by decide)
          have tk44 : zK m36 (m10 79 29) := by rw [hm36]; exact zK_up tk33 (by decide)
          clear tk32 tk33
          refine zW.step (st1 := (83, [(some (.ref 79)), (some (.int (Int32.ofInt 1)))], [], z_hup (zk c m21) 79 (.inr (12, (.int (Int32.ofInt (m21 79 0)) :: .ref 80 :: .ref 81 :: .ref 82 :: .ref 83 :: zm_rf (m21 79 5) :: .int (Int32.ofInt (m21 79 6)) :: .int (Int32.ofInt (m21 79 7)) :: .int (Int32.ofInt (m21 79 8)) :: .int (Int32.ofInt (m21 79 9)) :: .int ((Int32.ofInt (m21 79 10)) + (Int32.ofInt 1)) :: .int (Int32.ofInt (m21 79 11)) :: .int (Int32.ofInt (m21 79 12)) :: .int (Int32.ofInt (m21 79 13)) :: .int (Int32.ofInt (m21 79 14)) :: .ref (z_RO + 5) :: .ref (z_RO + 3) :: .int (Int32.ofInt (m21 79 17)) :: .ref 84 :: .ref 85 :: .ref 86 :: .ref 87 :: .ref 88 :: .ref 89 :: .ref 90 :: .ref 91 :: .int (Int32.ofInt (m21 79 26)) :: .int (Int32.ofInt (m21 79 27)) :: .int (Int32.ofInt (m21 79 28)) :: .int (Int32.ofInt (m21 79 29)) :: .int (Int32.ofInt (m21 79 30)) :: .ref 92 :: .ref 93 :: .int (Int32.ofInt (m21 79 33)) :: .int (Int32.ofInt (m21 79 34)) :: .ref 94 :: .ref 95 :: .int (Int32.ofInt (m21 79 37)) :: .int (Int32.ofInt (m21 79 38)) :: .int (Int32.ofInt (m21 79 39)) :: .int (Int32.ofInt (m21 79 40)) :: .int (Int32.ofInt (m21 79 41)) :: .int (Int32.ofInt (m21 79 42)) :: .ref 96 :: .ref 97 :: .ref 98 :: .ref 99 :: .ref 100 :: .int (Int32.ofInt (m21 79 48)) :: .int (Int32.ofInt (m21 79 49)) :: .long (Int64.ofInt (m21 79 50)) :: .ref 101 :: .ref 102 :: .int (Int32.ofInt (m21 79 53)) :: .ref 103 :: .ref 104 :: .ref 105 :: .int (Int32.ofInt (m21 79 57)) :: []))))) (st2 := (83, [(some (.ref 79)), (some (.int (Int32.ofInt 1)))], [], zk c m36)) ⟨[zo, zo, zo, zo, zo, zo], _, rfl, ⟨trivial, trivial, (Nat.lt_of_lt_of_le (Nat.le_of_ble_eq_true rfl) hN), trivial, trivial, ⟨(Nat.lt_of_lt_of_le (Nat.le_of_ble_eq_true rfl) hN), rfl, rfl⟩, trivial⟩⟩ (z_steq rfl rfl ((zk_up c m21 79 10 ((m21 79 10) + 1) _ ((congrArg (fun q => (.inr (12, (.int (Int32.ofInt (m21 79 0)) :: .ref 80 :: .ref 81 :: .ref 82 :: .ref 83 :: zm_rf (m21 79 5) :: .int (Int32.ofInt (m21 79 6)) :: .int (Int32.ofInt (m21 79 7)) :: .int (Int32.ofInt (m21 79 8)) :: .int (Int32.ofInt (m21 79 9)) :: .int q :: .int (Int32.ofInt (m21 79 11)) :: .int (Int32.ofInt (m21 79 12)) :: .int (Int32.ofInt (m21 79 13)) :: .int (Int32.ofInt (m21 79 14)) :: .ref (z_RO + 5) :: .ref (z_RO + 3) :: .int (Int32.ofInt (m21 79 17)) :: .ref 84 :: .ref 85 :: .ref 86 :: .ref 87 :: .ref 88 :: .ref 89 :: .ref 90 :: .ref 91 :: .int (Int32.ofInt (m21 79 26)) :: .int (Int32.ofInt (m21 79 27)) :: .int (Int32.ofInt (m21 79 28)) :: .int (Int32.ofInt (m21 79 29)) :: .int (Int32.ofInt (m21 79 30)) :: .ref 92 :: .ref 93 :: .int (Int32.ofInt (m21 79 33)) :: .int (Int32.ofInt (m21 79 34)) :: .ref 94 :: .ref 95 :: .int (Int32.ofInt (m21 79 37)) :: .int (Int32.ofInt (m21 79 38)) :: .int (Int32.ofInt (m21 79 39)) :: .int (Int32.ofInt (m21 79 40)) :: .int (Int32.ofInt (m21 79 41)) :: .int (Int32.ofInt (m21 79 42)) :: .ref 96 :: .ref 97 :: .ref 98 :: .ref 99 :: .ref 100 :: .int (Int32.ofInt (m21 79 48)) :: .int (Int32.ofInt (m21 79 49)) :: .long (Int64.ofInt (m21 79 50)) :: .ref 101 :: .ref 102 :: .int (Int32.ofInt (m21 79 53)) :: .ref 103 :: .ref 104 :: .ref 105 :: .int (Int32.ofInt (m21 79 57)) :: [])) : z_E)) (zi_add rfl rfl)).trans rfl)).trans (by rw [hm36]))) ?_
          refine zW.step (st1 := (30, [(some (.ref 79)), (some (.int (Int32.ofInt 1)))], [], zk c m36)) (st2 := (30, [(some (.ref 79)), (some (.int (Int32.ofInt 1)))], [], zk c m36)) ⟨[zo], _, rfl, ⟨trivial, trivial⟩⟩ rfl ?_
          exact ih _ (by omega) 1 m36 hIm36 (by omega) tk43 (zK_cg tk44 (by omega)) rfl
        · refine zW.step (st1 := (67, [(some (.ref 79)), (some (.int (Int32.ofInt x1)))], [], zk c m21)) (st2 := (67, [(some (.ref 79)), (some (.int (Int32.ofInt x1)))], [], zk c m21)) ⟨[zo, zt], _, rfl, ⟨trivial, zbt (fun q => b34 ((zi_eq rfl (by decide : (Int8.ofInt 59).toInt32 = Int32.ofInt 59) (by unfold zR; omega) (⟨by decide, by decide⟩ : zR 59)).mp q)), trivial⟩⟩ rfl ?_
          have b45 : (0 : Int) = 0 := by omega
          refine zW.step (st1 := (30, [(some (.ref 79)), (some (.int (Int32.ofInt 0)))], [], zk c m21)) (st2 := (30, [(some (.ref 79)), (some (.int (Int32.ofInt 0)))], [], zk c m21)) ⟨[zo, zo, zo, zt], _, rfl, ⟨trivial, trivial, trivial, zbt ((zi_eq rfl (rfl : (0 : Int32) = Int32.ofInt 0) (⟨by decide, by decide⟩ : zR 0) (⟨by decide, by decide⟩ : zR 0)).mpr b45), trivial⟩⟩ rfl ?_
          exact ih _ (by omega) 0 m21 hIm21 (by omega) tk32 (zK_cg tk33 (by omega)) rfl
      · refine zW.step (st1 := (67, [(some (.ref 79)), (some (.int (Int32.ofInt x1)))], [], zk c m10)) (st2 := (67, [(some (.ref 79)), (some (.int (Int32.ofInt x1)))], [], zk c m10)) ⟨[zo, zo, zo, zt], _, rfl, ⟨trivial, (Nat.lt_of_lt_of_le (Nat.le_of_ble_eq_true rfl) hN), trivial, zbt (fun q => b20 ((zi_eq rfl rfl (by unfold zR; omega) (⟨by decide, by decide⟩ : zR (-1))).mp q)), trivial⟩⟩ rfl ?_
        have b46 : (0 : Int) = 0 := by omega
        refine zW.step (st1 := (30, [(some (.ref 79)), (some (.int (Int32.ofInt 0)))], [], zk c m10)) (st2 := (30, [(some (.ref 79)), (some (.int (Int32.ofInt 0)))], [], zk c m10)) ⟨[zo, zo, zo, zt], _, rfl, ⟨trivial, trivial, trivial, zbt ((zi_eq rfl (rfl : (0 : Int32) = Int32.ofInt 0) (⟨by decide, by decide⟩ : zR 0) (⟨by decide, by decide⟩ : zR 0)).mpr b46), trivial⟩⟩ rfl ?_
        exact ih _ (by omega) 0 m10 hIm10 (by omega) tk18 (zK_cg tk19 (by omega)) rfl
    · refine zW.step (st1 := (86, [(some (.ref 79)), (some (.int (Int32.ofInt x1)))], [], zk c m)) (st2 := (86, [(some (.ref 79)), (some (.int (Int32.ofInt x1)))], [], zk c m)) ⟨[zo, zo, zo, zt], _, rfl, ⟨trivial, (Nat.lt_of_lt_of_le (Nat.le_of_ble_eq_true rfl) hN), trivial, zbt (fun q => b9 ((zi_eq rfl rfl (by unfold zR; omega) (⟨by decide, by decide⟩ : zR (-1))).mp q)), trivial⟩⟩ rfl ?_
      exact K x1 m hIm (by omega) tV (zK_cg tK (by omega))

set_option maxRecDepth 100000 in
set_option maxHeartbeats 4000000 in
theorem S_X12_readHouse (zn : Bool) (d : Nat) {c : Nat × Nat} {mC : zM} {t9 : Int} {e9 : Nat} (hN : 107 ≤ c.1) (hC : c.1 < z_RO) (m : zM) (hIm : zJ mC t9 e9 m) : zCv zn (d + 8) 267 [.ref 79] c m (fun (m1 : zM) => zJ mC t9 e9 m1 ∧ (m1 79 11 = -1 → 1 ≤ m1 79 28 ∧ 1 ≤ m1 79 29 ∧ 1 ≤ m1 79 30) ∧ zV9 m m1 ∧ zK m1 (m1 79 29)) := by
  refine zCv.of zu_X12_readHouse hC (Nat.le_of_ble_eq_true rfl) ?_
  show zW zn (d + 7) 267 c (0, [(some (.ref 79)), none], [], zk c m) (fun v h1 => ∃ (m1 : zM), v = none ∧ h1 = zk c m1 ∧ zJ mC t9 e9 m1 ∧ (m1 79 11 = -1 → 1 ≤ m1 79 28 ∧ 1 ≤ m1 79 29 ∧ 1 ≤ m1 79 30) ∧ zV9 m m1 ∧ zK m1 (m1 79 29))
  have f47 : (0 : Int) ≤ m 79 9 ∧ m 79 9 ≤ 240 := hIm.1 79 9
  have f48 : (0 : Int) ≤ m 79 10 ∧ m 79 10 ≤ 241 := hIm.1 79 10
  have f49 : (-2147483648 : Int) ≤ m 79 11 ∧ m 79 11 ≤ 2147483647 := hIm.1 79 11
  have f50 : (0 : Int) ≤ m 79 12 ∧ m 79 12 ≤ 6 := hIm.1 79 12
  have f51 : (0 : Int) ≤ m 79 28 ∧ m 79 28 ≤ 5 := hIm.1 79 28
  have f52 : (0 : Int) ≤ m 79 29 ∧ m 79 29 ≤ 6 := hIm.1 79 29
  have f53 : (0 : Int) ≤ m 79 30 ∧ m 79 30 ≤ 6 := hIm.1 79 30
  have f54 : (0 : Int) ≤ m 79 6 ∧ m 79 6 ≤ 240 := hIm.1 79 6
  refine zW.step (st1 := (10, [(some (.ref 79)), none], [.int (Int32.ofInt (m 79 6)), .int (Int32.ofInt 0), .ref 80, .ref 79], zk c m)) (st2 := (10, [(some (.ref 79)), none], [.int (Int32.ofInt (m 79 6)), .int (Int32.ofInt 0), .ref 80, .ref 79], zk c m)) ⟨[zo, zo, zo, zo, zo, zo], _, rfl, ⟨trivial, trivial, (Nat.lt_of_lt_of_le (Nat.le_of_ble_eq_true rfl) hN), trivial, trivial, (Nat.lt_of_lt_of_le (Nat.le_of_ble_eq_true rfl) hN), trivial⟩⟩ rfl ?_
  obtain ⟨m55, hs55, hIm55, en_55, at_55, fa_55, d9_55, kY_55⟩ := S_X12_starts_80 zn (d + 6) hN hC 0 (m 79 6) m hIm (by omega) (by omega) (by omega) (by omega)
  refine zW.step (st1 := (13, [(some (.ref 79)), none], [], zk c m55)) ⟨[zc (none) (zk c m55)], _, rfl, ⟨⟨⟨(Nat.lt_of_lt_of_le (Nat.le_of_ble_eq_true rfl) hN), (Nat.le_of_ble_eq_true rfl)⟩, hs55, (Nat.le_of_ble_eq_true rfl), Nat.le_refl _, Nat.le_refl _, Nat.le_refl _, Nat.le_refl _⟩, trivial⟩⟩ rfl ?_
  have f56 : (0 : Int) ≤ m55 79 9 ∧ m55 79 9 ≤ 240 := hIm55.1 79 9
  have f57 : (0 : Int) ≤ m55 79 10 ∧ m55 79 10 ≤ 241 := hIm55.1 79 10
  have f58 : (-2147483648 : Int) ≤ m55 79 11 ∧ m55 79 11 ≤ 2147483647 := hIm55.1 79 11
  have f59 : (0 : Int) ≤ m55 79 12 ∧ m55 79 12 ≤ 6 := hIm55.1 79 12
  have f60 : (0 : Int) ≤ m55 79 28 ∧ m55 79 28 ≤ 5 := hIm55.1 79 28
  have f61 : m55 79 28 = m 79 28 := kY_55 79 28 (by unfold zYs; decide)
  have f62 : (0 : Int) ≤ m55 79 29 ∧ m55 79 29 ≤ 6 := hIm55.1 79 29
  have f63 : m55 79 29 = m 79 29 := kY_55 79 29 (by unfold zYs; decide)
  have f64 : (0 : Int) ≤ m55 79 30 ∧ m55 79 30 ≤ 6 := hIm55.1 79 30
  have f65 : m55 79 30 = m 79 30 := kY_55 79 30 (by unfold zYs; decide)
  have tk66 : zV9 m m55 := zV9_tr zV9_rf (zY_V kY_55)
  obtain ⟨m67, hm67⟩ : ∃ q, q = zm_up m55 79 28 0 := ⟨_, rfl⟩
  have hIm67 := zJ_upE hIm55 hm67 (zOj_79 (by decide)) (show (0 : Int) ≤ 0 ∧ 0 ≤ 5 by omega)
  have em67 : m67 79 28 = 0 := by rw [hm67]; exact zm_eq
  have f68 : m67 79 9 = m55 79 9 := by rw [hm67]; exact zm_ne (Or.inr (by decide))
  have f69 : m67 79 10 = m55 79 10 := by rw [hm67]; exact zm_ne (Or.inr (by decide))
  have f70 : m67 79 11 = m55 79 11 := by rw [hm67]; exact zm_ne (Or.inr (by decide))
  have f71 : m67 79 12 = m55 79 12 := by rw [hm67]; exact zm_ne (Or.inr (by decide))
  have f72 : m67 79 29 = m55 79 29 := by rw [hm67]; exact zm_ne (Or.inr (by decide))
  have f73 : m67 79 30 = m55 79 30 := by rw [hm67]; exact zm_ne (Or.inr (by decide))
  have tk74 : zV9 m m67 := by rw [hm67]; exact zV9_up tk66 (by decide)
  clear tk66
  refine zW.step (st1 := (18, [(some (.ref 79)), none], [], z_hup (zk c m55) 79 (.inr (12, (.int (Int32.ofInt (m55 79 0)) :: .ref 80 :: .ref 81 :: .ref 82 :: .ref 83 :: zm_rf (m55 79 5) :: .int (Int32.ofInt (m55 79 6)) :: .int (Int32.ofInt (m55 79 7)) :: .int (Int32.ofInt (m55 79 8)) :: .int (Int32.ofInt (m55 79 9)) :: .int (Int32.ofInt (m55 79 10)) :: .int (Int32.ofInt (m55 79 11)) :: .int (Int32.ofInt (m55 79 12)) :: .int (Int32.ofInt (m55 79 13)) :: .int (Int32.ofInt (m55 79 14)) :: .ref (z_RO + 5) :: .ref (z_RO + 3) :: .int (Int32.ofInt (m55 79 17)) :: .ref 84 :: .ref 85 :: .ref 86 :: .ref 87 :: .ref 88 :: .ref 89 :: .ref 90 :: .ref 91 :: .int (Int32.ofInt (m55 79 26)) :: .int (Int32.ofInt (m55 79 27)) :: .int (Int32.ofInt 0) :: .int (Int32.ofInt (m55 79 29)) :: .int (Int32.ofInt (m55 79 30)) :: .ref 92 :: .ref 93 :: .int (Int32.ofInt (m55 79 33)) :: .int (Int32.ofInt (m55 79 34)) :: .ref 94 :: .ref 95 :: .int (Int32.ofInt (m55 79 37)) :: .int (Int32.ofInt (m55 79 38)) :: .int (Int32.ofInt (m55 79 39)) :: .int (Int32.ofInt (m55 79 40)) :: .int (Int32.ofInt (m55 79 41)) :: .int (Int32.ofInt (m55 79 42)) :: .ref 96 :: .ref 97 :: .ref 98 :: .ref 99 :: .ref 100 :: .int (Int32.ofInt (m55 79 48)) :: .int (Int32.ofInt (m55 79 49)) :: .long (Int64.ofInt (m55 79 50)) :: .ref 101 :: .ref 102 :: .int (Int32.ofInt (m55 79 53)) :: .ref 103 :: .ref 104 :: .ref 105 :: .int (Int32.ofInt (m55 79 57)) :: []))))) (st2 := (18, [(some (.ref 79)), none], [], zk c m67)) ⟨[zo, zo, zo], _, rfl, ⟨trivial, trivial, ⟨(Nat.lt_of_lt_of_le (Nat.le_of_ble_eq_true rfl) hN), rfl, rfl⟩, trivial⟩⟩ (z_steq rfl rfl ((zk_up c m55 79 28 0 _ rfl).trans (by rw [hm67]))) ?_
  clear f54
  obtain ⟨m75, hm75⟩ : ∃ q, q = zm_up m67 79 29 0 := ⟨_, rfl⟩
  have hIm75 := zJ_upE hIm67 hm75 (zOj_79 (by decide)) (show (0 : Int) ≤ 0 ∧ 0 ≤ 6 by omega)
  have em75 : m75 79 29 = 0 := by rw [hm75]; exact zm_eq
  have f76 : m75 79 28 = m67 79 28 := by rw [hm75]; exact zm_ne (Or.inr (by decide))
  have f77 : m75 79 9 = m67 79 9 := by rw [hm75]; exact zm_ne (Or.inr (by decide))
  have f78 : m75 79 10 = m67 79 10 := by rw [hm75]; exact zm_ne (Or.inr (by decide))
  have f79 : m75 79 11 = m67 79 11 := by rw [hm75]; exact zm_ne (Or.inr (by decide))
  have f80 : m75 79 12 = m67 79 12 := by rw [hm75]; exact zm_ne (Or.inr (by decide))
  have f81 : m75 79 30 = m67 79 30 := by rw [hm75]; exact zm_ne (Or.inr (by decide))
  have tk82 : zV9 m m75 := by rw [hm75]; exact zV9_up tk74 (by decide)
  clear tk74
  refine zW.step (st1 := (23, [(some (.ref 79)), none], [], z_hup (zk c m67) 79 (.inr (12, (.int (Int32.ofInt (m67 79 0)) :: .ref 80 :: .ref 81 :: .ref 82 :: .ref 83 :: zm_rf (m67 79 5) :: .int (Int32.ofInt (m67 79 6)) :: .int (Int32.ofInt (m67 79 7)) :: .int (Int32.ofInt (m67 79 8)) :: .int (Int32.ofInt (m67 79 9)) :: .int (Int32.ofInt (m67 79 10)) :: .int (Int32.ofInt (m67 79 11)) :: .int (Int32.ofInt (m67 79 12)) :: .int (Int32.ofInt (m67 79 13)) :: .int (Int32.ofInt (m67 79 14)) :: .ref (z_RO + 5) :: .ref (z_RO + 3) :: .int (Int32.ofInt (m67 79 17)) :: .ref 84 :: .ref 85 :: .ref 86 :: .ref 87 :: .ref 88 :: .ref 89 :: .ref 90 :: .ref 91 :: .int (Int32.ofInt (m67 79 26)) :: .int (Int32.ofInt (m67 79 27)) :: .int (Int32.ofInt (m67 79 28)) :: .int (Int32.ofInt 0) :: .int (Int32.ofInt (m67 79 30)) :: .ref 92 :: .ref 93 :: .int (Int32.ofInt (m67 79 33)) :: .int (Int32.ofInt (m67 79 34)) :: .ref 94 :: .ref 95 :: .int (Int32.ofInt (m67 79 37)) :: .int (Int32.ofInt (m67 79 38)) :: .int (Int32.ofInt (m67 79 39)) :: .int (Int32.ofInt (m67 79 40)) :: .int (Int32.ofInt (m67 79 41)) :: .int (Int32.ofInt (m67 79 42)) :: .ref 96 :: .ref 97 :: .ref 98 :: .ref 99 :: .ref 100 :: .int (Int32.ofInt (m67 79 48)) :: .int (Int32.ofInt (m67 79 49)) :: .long (Int64.ofInt (m67 79 50)) :: .ref 101 :: .ref 102 :: .int (Int32.ofInt (m67 79 53)) :: .ref 103 :: .ref 104 :: .ref 105 :: .int (Int32.ofInt (m67 79 57)) :: []))))) (st2 := (23, [(some (.ref 79)), none], [], zk c m75)) ⟨[zo, zo, zo], _, rfl, ⟨trivial, trivial, ⟨(Nat.lt_of_lt_of_le (Nat.le_of_ble_eq_true rfl) hN), rfl, rfl⟩, trivial⟩⟩ (z_steq rfl rfl ((zk_up c m67 79 29 0 _ rfl).trans (by rw [hm75]))) ?_
  obtain ⟨m83, hm83⟩ : ∃ q, q = zm_up m75 79 30 0 := ⟨_, rfl⟩
  have hIm83 := zJ_upE hIm75 hm83 (zOj_79 (by decide)) (show (0 : Int) ≤ 0 ∧ 0 ≤ 6 by omega)
  have em83 : m83 79 30 = 0 := by rw [hm83]; exact zm_eq
  have f84 : m83 79 29 = m75 79 29 := by rw [hm83]; exact zm_ne (Or.inr (by decide))
  have f85 : m83 79 28 = m75 79 28 := by rw [hm83]; exact zm_ne (Or.inr (by decide))
  have f86 : m83 79 9 = m75 79 9 := by rw [hm83]; exact zm_ne (Or.inr (by decide))
  have f87 : m83 79 10 = m75 79 10 := by rw [hm83]; exact zm_ne (Or.inr (by decide))
  have f88 : m83 79 11 = m75 79 11 := by rw [hm83]; exact zm_ne (Or.inr (by decide))
  have f89 : m83 79 12 = m75 79 12 := by rw [hm83]; exact zm_ne (Or.inr (by decide))
  have tk90 : zV9 m m83 := by rw [hm83]; exact zV9_up tk82 (by decide)
  clear tk82
  refine zW.step (st1 := (28, [(some (.ref 79)), none], [], z_hup (zk c m75) 79 (.inr (12, (.int (Int32.ofInt (m75 79 0)) :: .ref 80 :: .ref 81 :: .ref 82 :: .ref 83 :: zm_rf (m75 79 5) :: .int (Int32.ofInt (m75 79 6)) :: .int (Int32.ofInt (m75 79 7)) :: .int (Int32.ofInt (m75 79 8)) :: .int (Int32.ofInt (m75 79 9)) :: .int (Int32.ofInt (m75 79 10)) :: .int (Int32.ofInt (m75 79 11)) :: .int (Int32.ofInt (m75 79 12)) :: .int (Int32.ofInt (m75 79 13)) :: .int (Int32.ofInt (m75 79 14)) :: .ref (z_RO + 5) :: .ref (z_RO + 3) :: .int (Int32.ofInt (m75 79 17)) :: .ref 84 :: .ref 85 :: .ref 86 :: .ref 87 :: .ref 88 :: .ref 89 :: .ref 90 :: .ref 91 :: .int (Int32.ofInt (m75 79 26)) :: .int (Int32.ofInt (m75 79 27)) :: .int (Int32.ofInt (m75 79 28)) :: .int (Int32.ofInt (m75 79 29)) :: .int (Int32.ofInt 0) :: .ref 92 :: .ref 93 :: .int (Int32.ofInt (m75 79 33)) :: .int (Int32.ofInt (m75 79 34)) :: .ref 94 :: .ref 95 :: .int (Int32.ofInt (m75 79 37)) :: .int (Int32.ofInt (m75 79 38)) :: .int (Int32.ofInt (m75 79 39)) :: .int (Int32.ofInt (m75 79 40)) :: .int (Int32.ofInt (m75 79 41)) :: .int (Int32.ofInt (m75 79 42)) :: .ref 96 :: .ref 97 :: .ref 98 :: .ref 99 :: .ref 100 :: .int (Int32.ofInt (m75 79 48)) :: .int (Int32.ofInt (m75 79 49)) :: .long (Int64.ofInt (m75 79 50)) :: .ref 101 :: .ref 102 :: .int (Int32.ofInt (m75 79 53)) :: .ref 103 :: .ref 104 :: .ref 105 :: .int (Int32.ofInt (m75 79 57)) :: []))))) (st2 := (28, [(some (.ref 79)), none], [], zk c m83)) ⟨[zo, zo, zo], _, rfl, ⟨trivial, trivial, ⟨(Nat.lt_of_lt_of_le (Nat.le_of_ble_eq_true rfl) hN), rfl, rfl⟩, trivial⟩⟩ (z_steq rfl rfl ((zk_up c m75 79 30 0 _ rfl).trans (by rw [hm83]))) ?_
  refine zW.step (st1 := (30, [(some (.ref 79)), (some (.int (Int32.ofInt 1)))], [], zk c m83)) (st2 := (30, [(some (.ref 79)), (some (.int (Int32.ofInt 1)))], [], zk c m83)) ⟨[zo, zo], _, rfl, ⟨trivial, trivial, trivial⟩⟩ rfl ?_
  refine L_X12_readHouse_30 zn _ hN hC m _ (fun x1_91 m_91 hIm_91 i1_91 tV_91 tK_91 => ?_) _ 1 m83 hIm83 (by omega) tk90 (zK_0 (by omega)) rfl
  have f92 : (0 : Int) ≤ m_91 79 9 ∧ m_91 79 9 ≤ 240 := hIm_91.1 79 9
  have f93 : (0 : Int) ≤ m_91 79 10 ∧ m_91 79 10 ≤ 241 := hIm_91.1 79 10
  have f94 : (-2147483648 : Int) ≤ m_91 79 11 ∧ m_91 79 11 ≤ 2147483647 := hIm_91.1 79 11
  have f95 : (0 : Int) ≤ m_91 79 12 ∧ m_91 79 12 ≤ 6 := hIm_91.1 79 12
  have f96 : (0 : Int) ≤ m_91 79 28 ∧ m_91 79 28 ≤ 5 := hIm_91.1 79 28
  have f97 : (0 : Int) ≤ m_91 79 29 ∧ m_91 79 29 ≤ 6 := hIm_91.1 79 29
  have f98 : (0 : Int) ≤ m_91 79 30 ∧ m_91 79 30 ≤ 6 := hIm_91.1 79 30
  by_cases b99 : (m_91 79 11) = (-1)
  · refine zW.step (st1 := (94, [(some (.ref 79)), (some (.int (Int32.ofInt x1_91)))], [], zk c m_91)) (st2 := (94, [(some (.ref 79)), (some (.int (Int32.ofInt x1_91)))], [], zk c m_91)) ⟨[zo, zo, zo, zo], _, rfl, ⟨trivial, (Nat.lt_of_lt_of_le (Nat.le_of_ble_eq_true rfl) hN), trivial, zbf (fun q => q ((zi_eq rfl rfl (by unfold zR; omega) (⟨by decide, by decide⟩ : zR (-1))).mpr b99)), trivial⟩⟩ rfl ?_
    refine zW.step (st1 := (95, [(some (.ref 79)), (some (.int (Int32.ofInt x1_91)))], [.ref 79], zk c m_91)) (st2 := (95, [(some (.ref 79)), (some (.int (Int32.ofInt x1_91)))], [.ref 79], zk c m_91)) ⟨[zo], _, rfl, ⟨trivial, trivial⟩⟩ rfl ?_
    obtain ⟨r100, m100, hs100, hIm100, z_100, q_100, a9_100, q2_100, e9_100, f9_100, d9_100, kY_100⟩ := S_X12_look zn (d + 6) hN hC m_91 hIm_91
    refine zW.step (st1 := (98, [(some (.ref 79)), (some (.int (Int32.ofInt x1_91)))], [.int (Int32.ofInt r100)], zk c m100)) ⟨[zc (some (.int (Int32.ofInt r100))) (zk c m100)], _, rfl, ⟨⟨⟨(Nat.lt_of_lt_of_le (Nat.le_of_ble_eq_true rfl) hN), (Nat.le_of_ble_eq_true rfl)⟩, hs100, (Nat.le_of_ble_eq_true rfl), Nat.le_refl _, Nat.le_refl _, Nat.le_refl _, Nat.le_refl _⟩, trivial⟩⟩ rfl ?_
    have f101 : (0 : Int) ≤ m100 79 9 ∧ m100 79 9 ≤ 240 := hIm100.1 79 9
    have f102 : (0 : Int) ≤ m100 79 10 ∧ m100 79 10 ≤ 241 := hIm100.1 79 10
    have f103 : (-2147483648 : Int) ≤ m100 79 11 ∧ m100 79 11 ≤ 2147483647 := hIm100.1 79 11
    have f104 : (0 : Int) ≤ m100 79 12 ∧ m100 79 12 ≤ 6 := hIm100.1 79 12
    have f105 : (0 : Int) ≤ m100 79 28 ∧ m100 79 28 ≤ 5 := hIm100.1 79 28
    have f106 : m100 79 28 = m_91 79 28 := kY_100 79 28 (by unfold zYs; decide)
    have f107 : (0 : Int) ≤ m100 79 29 ∧ m100 79 29 ≤ 6 := hIm100.1 79 29
    have f108 : m100 79 29 = m_91 79 29 := kY_100 79 29 (by unfold zYs; decide)
    have f109 : (0 : Int) ≤ m100 79 30 ∧ m100 79 30 ≤ 6 := hIm100.1 79 30
    have f110 : m100 79 30 = m_91 79 30 := kY_100 79 30 (by unfold zYs; decide)
    have tk111 : zV9 m m100 := zV9_tr tV_91 (zY_V kY_100)
    have tk112 : zK m100 (m_91 79 29) := zK_Y tK_91 kY_100
    by_cases b113 : r100 = (-1)
    · refine zW.step (st1 := (102, [(some (.ref 79)), (some (.int (Int32.ofInt x1_91)))], [], zk c m100)) (st2 := (102, [(some (.ref 79)), (some (.int (Int32.ofInt x1_91)))], [], zk c m100)) ⟨[zo, zo], _, rfl, ⟨trivial, zbf (fun q => q ((zi_eq rfl rfl (by unfold zR; omega) (⟨by decide, by decide⟩ : zR (-1))).mpr b113)), trivial⟩⟩ rfl ?_
      refine zW.step (st1 := (103, [(some (.ref 79)), (some (.int (Int32.ofInt x1_91)))], [.ref 79], zk c m100)) (st2 := (103, [(some (.ref 79)), (some (.int (Int32.ofInt x1_91)))], [.ref 79], zk c m100)) ⟨[zo], _, rfl, ⟨trivial, trivial⟩⟩ rfl ?_
      obtain ⟨r114, hs114, z_114, q_114⟩ := S_X12_isWhole zn (d + 6) hN hC m100 hIm100
      refine zW.step (st1 := (106, [(some (.ref 79)), (some (.int (Int32.ofInt x1_91)))], [.int (Int32.ofInt r114)], zk c m100)) ⟨[zc (some (.int (Int32.ofInt r114))) (zk c m100)], _, rfl, ⟨⟨⟨(Nat.lt_of_lt_of_le (Nat.le_of_ble_eq_true rfl) hN), (Nat.le_of_ble_eq_true rfl)⟩, hs114, (Nat.le_of_ble_eq_true rfl), Nat.le_refl _, Nat.le_refl _, Nat.le_refl _, Nat.le_refl _⟩, trivial⟩⟩ rfl ?_
      by_cases b115 : r114 = 0
      · refine zW.step (st1 := (109, [(some (.ref 79)), (some (.int (Int32.ofInt x1_91)))], [], zk c m100)) (st2 := (109, [(some (.ref 79)), (some (.int (Int32.ofInt x1_91)))], [], zk c m100)) ⟨[zo], _, rfl, ⟨zbf (fun q => q ((zi_eq rfl (rfl : (0 : Int32) = Int32.ofInt 0) (by unfold zR; omega) (⟨by decide, by decide⟩ : zR 0)).mpr b115)), trivial⟩⟩ rfl ?_
        refine zW.step (st1 := (110, [(some (.ref 79)), (some (.int (Int32.ofInt x1_91)))], [.ref 79], zk c m100)) (st2 := (110, [(some (.ref 79)), (some (.int (Int32.ofInt x1_91)))], [.ref 79], zk c m100)) ⟨[zo], _, rfl, ⟨trivial, trivial⟩⟩ rfl ?_
        obtain ⟨r116, m116, hs116, hIm116, q_116, n_116, a9_116, e9_116, d9_116, kY_116⟩ := S_X12_fails zn (d + 6) hN hC m100 hIm100
        subst q_116
        refine zW.step (st1 := (113, [(some (.ref 79)), (some (.int (Int32.ofInt x1_91)))], [.int (Int32.ofInt 0)], zk c m116)) ⟨[zc (some (.int (Int32.ofInt 0))) (zk c m116)], _, rfl, ⟨⟨⟨(Nat.lt_of_lt_of_le (Nat.le_of_ble_eq_true rfl) hN), (Nat.le_of_ble_eq_true rfl)⟩, hs116, (Nat.le_of_ble_eq_true rfl), Nat.le_refl _, Nat.le_refl _, Nat.le_refl _, Nat.le_refl _⟩, trivial⟩⟩ rfl ?_
        have f117 : (0 : Int) ≤ m116 79 9 ∧ m116 79 9 ≤ 240 := hIm116.1 79 9
        have f118 : (0 : Int) ≤ m116 79 10 ∧ m116 79 10 ≤ 241 := hIm116.1 79 10
        have f119 : (-2147483648 : Int) ≤ m116 79 11 ∧ m116 79 11 ≤ 2147483647 := hIm116.1 79 11
        have f120 : (0 : Int) ≤ m116 79 12 ∧ m116 79 12 ≤ 6 := hIm116.1 79 12
        have f121 : (0 : Int) ≤ m116 79 28 ∧ m116 79 28 ≤ 5 := hIm116.1 79 28
        have f122 : m116 79 28 = m100 79 28 := kY_116 79 28 (by unfold zYs; decide)
        have f123 : (0 : Int) ≤ m116 79 29 ∧ m116 79 29 ≤ 6 := hIm116.1 79 29
        have f124 : m116 79 29 = m100 79 29 := kY_116 79 29 (by unfold zYs; decide)
        have f125 : (0 : Int) ≤ m116 79 30 ∧ m116 79 30 ≤ 6 := hIm116.1 79 30
        have f126 : m116 79 30 = m100 79 30 := kY_116 79 30 (by unfold zYs; decide)
        have tk127 : zV9 m m116 := zV9_tr tk111 (zY_V kY_116)
        have tk128 : zK m116 (m_91 79 29) := zK_Y tk112 kY_116
        refine zW.step (st1 := (114, [(some (.ref 79)), (some (.int (Int32.ofInt x1_91)))], [], zk c m116)) (st2 := (114, [(some (.ref 79)), (some (.int (Int32.ofInt x1_91)))], [], zk c m116)) ⟨[zo], _, rfl, ⟨trivial, trivial⟩⟩ rfl ?_
        exact zW.fin (zfin_v rfl rfl) ⟨m116, rfl, rfl, hIm116, (by omega), tk127, (zK_cg tk128 (by omega))⟩
      · refine zW.step (st1 := (114, [(some (.ref 79)), (some (.int (Int32.ofInt x1_91)))], [], zk c m100)) (st2 := (114, [(some (.ref 79)), (some (.int (Int32.ofInt x1_91)))], [], zk c m100)) ⟨[zt], _, rfl, ⟨zbt (fun q => b115 ((zi_eq rfl (rfl : (0 : Int32) = Int32.ofInt 0) (by unfold zR; omega) (⟨by decide, by decide⟩ : zR 0)).mp q)), trivial⟩⟩ rfl ?_
        exact zW.fin (zfin_v rfl rfl) ⟨m100, rfl, rfl, hIm100, (by omega), tk111, (zK_cg tk112 (by omega))⟩
    · refine zW.step (st1 := (109, [(some (.ref 79)), (some (.int (Int32.ofInt x1_91)))], [], zk c m100)) (st2 := (109, [(some (.ref 79)), (some (.int (Int32.ofInt x1_91)))], [], zk c m100)) ⟨[zo, zt], _, rfl, ⟨trivial, zbt (fun q => b113 ((zi_eq rfl rfl (by unfold zR; omega) (⟨by decide, by decide⟩ : zR (-1))).mp q)), trivial⟩⟩ rfl ?_
      refine zW.step (st1 := (110, [(some (.ref 79)), (some (.int (Int32.ofInt x1_91)))], [.ref 79], zk c m100)) (st2 := (110, [(some (.ref 79)), (some (.int (Int32.ofInt x1_91)))], [.ref 79], zk c m100)) ⟨[zo], _, rfl, ⟨trivial, trivial⟩⟩ rfl ?_
      obtain ⟨r129, m129, hs129, hIm129, q_129, n_129, a9_129, e9_129, d9_129, kY_129⟩ := S_X12_fails zn (d + 6) hN hC m100 hIm100
      subst q_129
      refine zW.step (st1 := (113, [(some (.ref 79)), (some (.int (Int32.ofInt x1_91)))], [.int (Int32.ofInt 0)], zk c m129)) ⟨[zc (some (.int (Int32.ofInt 0))) (zk c m129)], _, rfl, ⟨⟨⟨(Nat.lt_of_lt_of_le (Nat.le_of_ble_eq_true rfl) hN), (Nat.le_of_ble_eq_true rfl)⟩, hs129, (Nat.le_of_ble_eq_true rfl), Nat.le_refl _, Nat.le_refl _, Nat.le_refl _, Nat.le_refl _⟩, trivial⟩⟩ rfl ?_
      have f130 : (0 : Int) ≤ m129 79 9 ∧ m129 79 9 ≤ 240 := hIm129.1 79 9
      have f131 : (0 : Int) ≤ m129 79 10 ∧ m129 79 10 ≤ 241 := hIm129.1 79 10
      have f132 : (-2147483648 : Int) ≤ m129 79 11 ∧ m129 79 11 ≤ 2147483647 := hIm129.1 79 11
      have f133 : (0 : Int) ≤ m129 79 12 ∧ m129 79 12 ≤ 6 := hIm129.1 79 12
      have f134 : (0 : Int) ≤ m129 79 28 ∧ m129 79 28 ≤ 5 := hIm129.1 79 28
      have f135 : m129 79 28 = m100 79 28 := kY_129 79 28 (by unfold zYs; decide)
      have f136 : (0 : Int) ≤ m129 79 29 ∧ m129 79 29 ≤ 6 := hIm129.1 79 29
      have f137 : m129 79 29 = m100 79 29 := kY_129 79 29 (by unfold zYs; decide)
      have f138 : (0 : Int) ≤ m129 79 30 ∧ m129 79 30 ≤ 6 := hIm129.1 79 30
      have f139 : m129 79 30 = m100 79 30 := kY_129 79 30 (by unfold zYs; decide)
      have tk140 : zV9 m m129 := zV9_tr tk111 (zY_V kY_129)
      have tk141 : zK m129 (m_91 79 29) := zK_Y tk112 kY_129
      refine zW.step (st1 := (114, [(some (.ref 79)), (some (.int (Int32.ofInt x1_91)))], [], zk c m129)) (st2 := (114, [(some (.ref 79)), (some (.int (Int32.ofInt x1_91)))], [], zk c m129)) ⟨[zo], _, rfl, ⟨trivial, trivial⟩⟩ rfl ?_
      exact zW.fin (zfin_v rfl rfl) ⟨m129, rfl, rfl, hIm129, (by omega), tk140, (zK_cg tk141 (by omega))⟩
  · refine zW.step (st1 := (114, [(some (.ref 79)), (some (.int (Int32.ofInt x1_91)))], [], zk c m_91)) (st2 := (114, [(some (.ref 79)), (some (.int (Int32.ofInt x1_91)))], [], zk c m_91)) ⟨[zo, zo, zo, zt], _, rfl, ⟨trivial, (Nat.lt_of_lt_of_le (Nat.le_of_ble_eq_true rfl) hN), trivial, zbt (fun q => b99 ((zi_eq rfl rfl (by unfold zR; omega) (⟨by decide, by decide⟩ : zR (-1))).mp q)), trivial⟩⟩ rfl ?_
    exact zW.fin (zfin_v rfl rfl) ⟨m_91, rfl, rfl, hIm_91, (by omega), tV_91, (zK_cg tK_91 (by omega))⟩

set_option maxRecDepth 100000 in
set_option maxHeartbeats 4000000 in
theorem S_X12_fault (zn : Bool) (d : Nat) {c : Nat × Nat} {mC : zM} {t9 : Int} {e9 : Nat} (hN : 107 ≤ c.1) (hC : c.1 < z_RO) (sort : Int) (m : zM) (hIm : zJ mC t9 e9 m) (r_sort : -2147483648 ≤ sort ∧ sort ≤ 2147483647) : zCi zn (d + 33) 211 [.ref 79, .int (Int32.ofInt sort)] c m (fun (r : Int) (m1 : zM) => zJ mC t9 e9 m1 ∧ (-2147483648 ≤ r ∧ r ≤ 2147483647) ∧ (sort = 0 → r = -1 → 1 ≤ m1 79 28 ∧ 1 ≤ m1 79 29 ∧ 1 ≤ m1 79 30) ∧ (sort = 0 → zK m1 (m1 79 29)) ∧ zV9 m m1) := by
  refine zCi.of zu_X12_fault hC (Nat.le_of_ble_eq_true rfl) ?_
  show zW zn (d + 32) 211 c (0, [(some (.ref 79)), (some (.int (Int32.ofInt sort)))], [], zk c m) (fun v h1 => ∃ (r : Int) (m1 : zM), v = some (.int (Int32.ofInt r)) ∧ h1 = zk c m1 ∧ zJ mC t9 e9 m1 ∧ (-2147483648 ≤ r ∧ r ≤ 2147483647) ∧ (sort = 0 → r = -1 → 1 ≤ m1 79 28 ∧ 1 ≤ m1 79 29 ∧ 1 ≤ m1 79 30) ∧ (sort = 0 → zK m1 (m1 79 29)) ∧ zV9 m m1)
  have f1 : (0 : Int) ≤ m 79 9 ∧ m 79 9 ≤ 240 := hIm.1 79 9
  have f2 : (0 : Int) ≤ m 79 10 ∧ m 79 10 ≤ 241 := hIm.1 79 10
  have f3 : (-2147483648 : Int) ≤ m 79 11 ∧ m 79 11 ≤ 2147483647 := hIm.1 79 11
  have f4 : (0 : Int) ≤ m 79 12 ∧ m 79 12 ≤ 6 := hIm.1 79 12
  have f5 : (0 : Int) ≤ m 79 28 ∧ m 79 28 ≤ 5 := hIm.1 79 28
  have f6 : (0 : Int) ≤ m 79 29 ∧ m 79 29 ≤ 6 := hIm.1 79 29
  have f7 : (0 : Int) ≤ m 79 30 ∧ m 79 30 ≤ 6 := hIm.1 79 30
  obtain ⟨m8, hm8⟩ : ∃ q, q = zm_up m 79 0 0 := ⟨_, rfl⟩
  have hIm8 := zJ_upE hIm hm8 (zOj_79 (by decide)) (show (0 : Int) ≤ 0 ∧ 0 ≤ 1 by omega)
  have em8 : m8 79 0 = 0 := by rw [hm8]; exact zm_eq
  have f9 : m8 79 9 = m 79 9 := by rw [hm8]; exact zm_ne (Or.inr (by decide))
  have f10 : m8 79 10 = m 79 10 := by rw [hm8]; exact zm_ne (Or.inr (by decide))
  have f11 : m8 79 11 = m 79 11 := by rw [hm8]; exact zm_ne (Or.inr (by decide))
  have f12 : m8 79 12 = m 79 12 := by rw [hm8]; exact zm_ne (Or.inr (by decide))
  have f13 : m8 79 28 = m 79 28 := by rw [hm8]; exact zm_ne (Or.inr (by decide))
  have f14 : m8 79 29 = m 79 29 := by rw [hm8]; exact zm_ne (Or.inr (by decide))
  have f15 : m8 79 30 = m 79 30 := by rw [hm8]; exact zm_ne (Or.inr (by decide))
  have tk16 : zV9 m m8 := by rw [hm8]; exact zV9_up zV9_rf (by decide)
  refine zW.step (st1 := (5, [(some (.ref 79)), (some (.int (Int32.ofInt sort)))], [], z_hup (zk c m) 79 (.inr (12, (.int (Int32.ofInt 0) :: .ref 80 :: .ref 81 :: .ref 82 :: .ref 83 :: zm_rf (m 79 5) :: .int (Int32.ofInt (m 79 6)) :: .int (Int32.ofInt (m 79 7)) :: .int (Int32.ofInt (m 79 8)) :: .int (Int32.ofInt (m 79 9)) :: .int (Int32.ofInt (m 79 10)) :: .int (Int32.ofInt (m 79 11)) :: .int (Int32.ofInt (m 79 12)) :: .int (Int32.ofInt (m 79 13)) :: .int (Int32.ofInt (m 79 14)) :: .ref (z_RO + 5) :: .ref (z_RO + 3) :: .int (Int32.ofInt (m 79 17)) :: .ref 84 :: .ref 85 :: .ref 86 :: .ref 87 :: .ref 88 :: .ref 89 :: .ref 90 :: .ref 91 :: .int (Int32.ofInt (m 79 26)) :: .int (Int32.ofInt (m 79 27)) :: .int (Int32.ofInt (m 79 28)) :: .int (Int32.ofInt (m 79 29)) :: .int (Int32.ofInt (m 79 30)) :: .ref 92 :: .ref 93 :: .int (Int32.ofInt (m 79 33)) :: .int (Int32.ofInt (m 79 34)) :: .ref 94 :: .ref 95 :: .int (Int32.ofInt (m 79 37)) :: .int (Int32.ofInt (m 79 38)) :: .int (Int32.ofInt (m 79 39)) :: .int (Int32.ofInt (m 79 40)) :: .int (Int32.ofInt (m 79 41)) :: .int (Int32.ofInt (m 79 42)) :: .ref 96 :: .ref 97 :: .ref 98 :: .ref 99 :: .ref 100 :: .int (Int32.ofInt (m 79 48)) :: .int (Int32.ofInt (m 79 49)) :: .long (Int64.ofInt (m 79 50)) :: .ref 101 :: .ref 102 :: .int (Int32.ofInt (m 79 53)) :: .ref 103 :: .ref 104 :: .ref 105 :: .int (Int32.ofInt (m 79 57)) :: []))))) (st2 := (5, [(some (.ref 79)), (some (.int (Int32.ofInt sort)))], [], zk c m8)) ⟨[zo, zo, zo], _, rfl, ⟨trivial, trivial, ⟨(Nat.lt_of_lt_of_le (Nat.le_of_ble_eq_true rfl) hN), rfl, rfl⟩, trivial⟩⟩ (z_steq rfl rfl ((zk_up c m 79 0 0 _ rfl).trans (by rw [hm8]))) ?_
  refine zW.step (st1 := (9, [(some (.ref 79)), (some (.int (Int32.ofInt sort)))], [.long (Int64.ofNat 1), .long (Int64.ofNat 0), .long ((Int32.ofInt sort).toInt64)], zk c m8)) (st2 := (9, [(some (.ref 79)), (some (.int (Int32.ofInt sort)))], [.long (Int64.ofInt 1), .long (Int64.ofInt 0), .long (Int64.ofInt sort)], zk c m8)) ⟨[zo, zo, zo, zo], _, rfl, ⟨trivial, trivial, trivial, trivial, trivial⟩⟩ (z_steq rfl (z_c1 (z_vl (by decide : Int64.ofNat 1 = Int64.ofInt 1)) (z_c1 (z_vl (by decide : Int64.ofNat 0 = Int64.ofInt 0)) (z_c1 (z_vl (zi_i2l rfl (by unfold zR; omega))) rfl))) rfl) ?_
  obtain ⟨r17, hs17, z_17, q_17⟩ := S_X12_isIn zn (d + 31) hN hC sort 0 1 m8 hIm8 (by omega) (by omega) (by omega)
  refine zW.step (st1 := (12, [(some (.ref 79)), (some (.int (Int32.ofInt sort)))], [.int (Int32.ofInt r17)], zk c m8)) ⟨[zc (some (.int (Int32.ofInt r17))) (zk c m8)], _, rfl, ⟨⟨(Nat.le_of_ble_eq_true rfl), hs17, (Nat.le_of_ble_eq_true rfl), Nat.le_refl _, Nat.le_refl _, Nat.le_refl _, Nat.le_refl _⟩, trivial⟩⟩ rfl ?_
  by_cases b18 : r17 = 0
  · refine zW.step (st1 := (15, [(some (.ref 79)), (some (.int (Int32.ofInt sort)))], [], zk c m8)) (st2 := (15, [(some (.ref 79)), (some (.int (Int32.ofInt sort)))], [], zk c m8)) ⟨[zo], _, rfl, ⟨zbf (fun q => q ((zi_eq rfl (rfl : (0 : Int32) = Int32.ofInt 0) (by unfold zR; omega) (⟨by decide, by decide⟩ : zR 0)).mpr b18)), trivial⟩⟩ rfl ?_
    have f19 : (0 : Int) ≤ m8 79 9 ∧ m8 79 9 ≤ 240 := hIm8.1 79 9
    have f20 : (0 : Int) ≤ m8 79 10 ∧ m8 79 10 ≤ 241 := hIm8.1 79 10
    have f21 : (-2147483648 : Int) ≤ m8 79 11 ∧ m8 79 11 ≤ 2147483647 := hIm8.1 79 11
    have f22 : (0 : Int) ≤ m8 79 12 ∧ m8 79 12 ≤ 6 := hIm8.1 79 12
    have f23 : (0 : Int) ≤ m8 79 28 ∧ m8 79 28 ≤ 5 := hIm8.1 79 28
    have f24 : (0 : Int) ≤ m8 79 29 ∧ m8 79 29 ≤ 6 := hIm8.1 79 29
    have f25 : (0 : Int) ≤ m8 79 30 ∧ m8 79 30 ≤ 6 := hIm8.1 79 30
    refine zW.step (st1 := (17, [(some (.ref 79)), (some (.int (Int32.ofInt sort)))], [.int ((Int8.ofInt (-2)).toInt32)], zk c m8)) (st2 := (17, [(some (.ref 79)), (some (.int (Int32.ofInt sort)))], [.int (Int32.ofInt (-2))], zk c m8)) ⟨[zo], _, rfl, ⟨trivial, trivial⟩⟩ (z_steq rfl (z_c1 (z_vi (by decide : (Int8.ofInt (-2)).toInt32 = Int32.ofInt (-2))) rfl) rfl) ?_
    exact zW.fin (zfin_i rfl rfl rfl) ⟨(-2), m8, rfl, rfl, hIm8, (by omega), (by omega), (by intro q; omega), tk16⟩
  · refine zW.step (st1 := (18, [(some (.ref 79)), (some (.int (Int32.ofInt sort)))], [], zk c m8)) (st2 := (18, [(some (.ref 79)), (some (.int (Int32.ofInt sort)))], [], zk c m8)) ⟨[zt], _, rfl, ⟨zbt (fun q => b18 ((zi_eq rfl (rfl : (0 : Int32) = Int32.ofInt 0) (by unfold zR; omega) (⟨by decide, by decide⟩ : zR 0)).mp q)), trivial⟩⟩ rfl ?_
    have f26 : (0 : Int) ≤ m8 79 9 ∧ m8 79 9 ≤ 240 := hIm8.1 79 9
    have f27 : (0 : Int) ≤ m8 79 10 ∧ m8 79 10 ≤ 241 := hIm8.1 79 10
    have f28 : (-2147483648 : Int) ≤ m8 79 11 ∧ m8 79 11 ≤ 2147483647 := hIm8.1 79 11
    have f29 : (0 : Int) ≤ m8 79 12 ∧ m8 79 12 ≤ 6 := hIm8.1 79 12
    have f30 : (0 : Int) ≤ m8 79 28 ∧ m8 79 28 ≤ 5 := hIm8.1 79 28
    have f31 : (0 : Int) ≤ m8 79 29 ∧ m8 79 29 ≤ 6 := hIm8.1 79 29
    have f32 : (0 : Int) ≤ m8 79 30 ∧ m8 79 30 ≤ 6 := hIm8.1 79 30
    by_cases b33 : sort = 0
    · refine zW.step (st1 := (22, [(some (.ref 79)), (some (.int (Int32.ofInt sort)))], [], zk c m8)) (st2 := (22, [(some (.ref 79)), (some (.int (Int32.ofInt sort)))], [], zk c m8)) ⟨[zo, zo], _, rfl, ⟨trivial, zbf (fun q => q ((zi_eq rfl (rfl : (0 : Int32) = Int32.ofInt 0) (by unfold zR; omega) (⟨by decide, by decide⟩ : zR 0)).mpr b33)), trivial⟩⟩ rfl ?_
      refine zW.step (st1 := (23, [(some (.ref 79)), (some (.int (Int32.ofInt sort)))], [.ref 79], zk c m8)) (st2 := (23, [(some (.ref 79)), (some (.int (Int32.ofInt sort)))], [.ref 79], zk c m8)) ⟨[zo], _, rfl, ⟨trivial, trivial⟩⟩ rfl ?_
      obtain ⟨m34, hs34, hIm34, hs_34, kV_34, kK_34⟩ := S_X12_readHouse zn (d + 24) hN hC m8 hIm8
      refine zW.step (st1 := (26, [(some (.ref 79)), (some (.int (Int32.ofInt sort)))], [], zk c m34)) ⟨[zc (none) (zk c m34)], _, rfl, ⟨⟨⟨(Nat.lt_of_lt_of_le (Nat.le_of_ble_eq_true rfl) hN), (Nat.le_of_ble_eq_true rfl)⟩, hs34, (Nat.le_of_ble_eq_true rfl), Nat.le_refl _, Nat.le_refl _, Nat.le_refl _, Nat.le_refl _⟩, trivial⟩⟩ rfl ?_
      have f35 : (0 : Int) ≤ m34 79 9 ∧ m34 79 9 ≤ 240 := hIm34.1 79 9
      have f36 : (0 : Int) ≤ m34 79 10 ∧ m34 79 10 ≤ 241 := hIm34.1 79 10
      have f37 : (-2147483648 : Int) ≤ m34 79 11 ∧ m34 79 11 ≤ 2147483647 := hIm34.1 79 11
      have f38 : (0 : Int) ≤ m34 79 12 ∧ m34 79 12 ≤ 6 := hIm34.1 79 12
      have f39 : (0 : Int) ≤ m34 79 28 ∧ m34 79 28 ≤ 5 := hIm34.1 79 28
      have f40 : (0 : Int) ≤ m34 79 29 ∧ m34 79 29 ≤ 6 := hIm34.1 79 29
      have f41 : (0 : Int) ≤ m34 79 30 ∧ m34 79 30 ≤ 6 := hIm34.1 79 30
      have tk42 : zV9 m m34 := zV9_tr tk16 kV_34
      refine zW.step (st1 := (46, [(some (.ref 79)), (some (.int (Int32.ofInt sort)))], [.int (Int32.ofInt (m34 79 11))], zk c m34)) (st2 := (46, [(some (.ref 79)), (some (.int (Int32.ofInt sort)))], [.int (Int32.ofInt (m34 79 11))], zk c m34)) ⟨[zo, zo, zo], _, rfl, ⟨trivial, trivial, (Nat.lt_of_lt_of_le (Nat.le_of_ble_eq_true rfl) hN), trivial⟩⟩ rfl ?_
      exact zW.fin (zfin_i rfl rfl rfl) ⟨m34 79 11, m34, rfl, rfl, hIm34, (by omega), (by omega), (by intro q; omega), tk42⟩
    · refine zW.step (st1 := (29, [(some (.ref 79)), (some (.int (Int32.ofInt sort)))], [], zk c m8)) (st2 := (29, [(some (.ref 79)), (some (.int (Int32.ofInt sort)))], [], zk c m8)) ⟨[zo, zt], _, rfl, ⟨trivial, zbt (fun q => b33 ((zi_eq rfl (rfl : (0 : Int32) = Int32.ofInt 0) (by unfold zR; omega) (⟨by decide, by decide⟩ : zR 0)).mp q)), trivial⟩⟩ rfl ?_
      have f43 : (0 : Int) ≤ m8 79 6 ∧ m8 79 6 ≤ 240 := hIm8.1 79 6
      refine zW.step (st1 := (39, [(some (.ref 79)), (some (.int (Int32.ofInt sort)))], [.int (Int32.ofInt (m8 79 6)), .int (Int32.ofInt 0), .ref 80, .ref 79], zk c m8)) (st2 := (39, [(some (.ref 79)), (some (.int (Int32.ofInt sort)))], [.int (Int32.ofInt (m8 79 6)), .int (Int32.ofInt 0), .ref 80, .ref 79], zk c m8)) ⟨[zo, zo, zo, zo, zo, zo], _, rfl, ⟨trivial, trivial, (Nat.lt_of_lt_of_le (Nat.le_of_ble_eq_true rfl) hN), trivial, trivial, (Nat.lt_of_lt_of_le (Nat.le_of_ble_eq_true rfl) hN), trivial⟩⟩ rfl ?_
      obtain ⟨m44, hs44, hIm44, kY_44⟩ := S_X12_goThrough_80 zn (d + 0) hN hC 0 (m8 79 6) m8 hIm8 (by omega) (by omega) (by omega) (by omega)
      refine zW.step (st1 := (42, [(some (.ref 79)), (some (.int (Int32.ofInt sort)))], [], zk c m44)) ⟨[zc (none) (zk c m44)], _, rfl, ⟨⟨⟨(Nat.lt_of_lt_of_le (Nat.le_of_ble_eq_true rfl) hN), (Nat.le_of_ble_eq_true rfl)⟩, hs44, (Nat.le_of_ble_eq_true rfl), Nat.le_refl _, Nat.le_refl _, Nat.le_refl _, Nat.le_refl _⟩, trivial⟩⟩ rfl ?_
      have f45 : (0 : Int) ≤ m44 79 9 ∧ m44 79 9 ≤ 240 := hIm44.1 79 9
      have f46 : (0 : Int) ≤ m44 79 10 ∧ m44 79 10 ≤ 241 := hIm44.1 79 10
      have f47 : (-2147483648 : Int) ≤ m44 79 11 ∧ m44 79 11 ≤ 2147483647 := hIm44.1 79 11
      have f48 : (0 : Int) ≤ m44 79 12 ∧ m44 79 12 ≤ 6 := hIm44.1 79 12
      have f49 : (0 : Int) ≤ m44 79 28 ∧ m44 79 28 ≤ 5 := hIm44.1 79 28
      have f50 : m44 79 28 = m8 79 28 := kY_44 79 28 (by unfold zYs; decide)
      have f51 : (0 : Int) ≤ m44 79 29 ∧ m44 79 29 ≤ 6 := hIm44.1 79 29
      have f52 : m44 79 29 = m8 79 29 := kY_44 79 29 (by unfold zYs; decide)
      have f53 : (0 : Int) ≤ m44 79 30 ∧ m44 79 30 ≤ 6 := hIm44.1 79 30
      have f54 : m44 79 30 = m8 79 30 := kY_44 79 30 (by unfold zYs; decide)
      have tk55 : zV9 m m44 := zV9_tr tk16 (zY_V kY_44)
      refine zW.step (st1 := (46, [(some (.ref 79)), (some (.int (Int32.ofInt sort)))], [.int (Int32.ofInt (m44 79 11))], zk c m44)) (st2 := (46, [(some (.ref 79)), (some (.int (Int32.ofInt sort)))], [.int (Int32.ofInt (m44 79 11))], zk c m44)) ⟨[zo, zo], _, rfl, ⟨trivial, (Nat.lt_of_lt_of_le (Nat.le_of_ble_eq_true rfl) hN), trivial⟩⟩ rfl ?_
      exact zW.fin (zfin_i rfl rfl rfl) ⟨m44 79 11, m44, rfl, rfl, hIm44, (by omega), (by omega), (by intro q; omega), tk55⟩

