/-! what methods do over memory, by program (wip/tools/gw): X4_read, X10_emit, X10_condition_G, X10_truths_G -/
set_option maxRecDepth 100000 in
set_option maxHeartbeats 4000000 in
theorem L_X4_read_34 (zn : Bool) (d : Nat) {c : Nat × Nat} {mM : zM} (hN : 107 ≤ c.1) (hC : c.1 < z_RO) (t9 : Int) (ht : 0 ≤ t9 ∧ t9 ≤ 999999000) (m0 : zM) (Q : Option Value → z_H → Prop) (KR : ∀ v h1, (fun v h1 => ∃ (r : Int) (m1 : zM), v = some (.int (Int32.ofInt r)) ∧ h1 = zk c m1 ∧ zI c mM m1 ∧ (-2147483648 ≤ r ∧ r ≤ 2147483647) ∧ zH (t9) m1) v h1 → Q v h1) (K : ∀ (x1 : Int) (m : zM), zI c mM m → 0 ≤ x1 ∧ x1 ≤ 240 → zH (t9) m → zW zn (d + 7) 79 c (77, [(some (.ref 3)), (some (.int (Int32.ofInt x1)))], [], zk c m) Q) :
    ∀ (w : Nat) (x1 : Int) (m : zM), zI c mM m → 0 ≤ x1 ∧ x1 ≤ 240 → zH (t9) m → w = (240 - x1).toNat → zW zn (d + 7) 79 c (34, [(some (.ref 3)), (some (.int (Int32.ofInt x1)))], [], zk c m) Q := by
  intro w
  induction w using Nat.strongRecOn with | _ w ih => ?_
  intro x1 m hIm i1 tH hw
  by_cases b1 : 240 ≤ x1
  · refine zW.step (st1 := (77, [(some (.ref 3)), (some (.int (Int32.ofInt x1)))], [], zk c m)) (st2 := (77, [(some (.ref 3)), (some (.int (Int32.ofInt x1)))], [], zk c m)) ⟨[zo, zo, zt], _, rfl, ⟨trivial, trivial, zbt ((zi_le (by decide : (Int16.ofInt 240).toInt32 = Int32.ofInt 240) rfl (⟨by decide, by decide⟩ : zR 240) (by unfold zR; omega)).mpr b1), trivial⟩⟩ rfl ?_
    exact K x1 m hIm (by omega) (zH_le tH (by omega))
  · refine zW.step (st1 := (41, [(some (.ref 3)), (some (.int (Int32.ofInt x1)))], [], zk c m)) (st2 := (41, [(some (.ref 3)), (some (.int (Int32.ofInt x1)))], [], zk c m)) ⟨[zo, zo, zo], _, rfl, ⟨trivial, trivial, zbf (fun q => b1 ((zi_le (by decide : (Int16.ofInt 240).toInt32 = Int32.ofInt 240) rfl (⟨by decide, by decide⟩ : zR 240) (by unfold zR; omega)).mp q)), trivial⟩⟩ rfl ?_
    refine zW.step (st1 := (42, [(some (.ref 3)), (some (.int (Int32.ofInt x1)))], [.ref 3], zk c m)) (st2 := (42, [(some (.ref 3)), (some (.int (Int32.ofInt x1)))], [.ref 3], zk c m)) ⟨[zo], _, rfl, ⟨trivial, trivial⟩⟩ rfl ?_
    obtain ⟨r2, m2, hs2, hIm2, z_2, kN_2⟩ := S_X4_clause zn (d + 0) hN hC m hIm
    refine zW.step (st1 := (45, [(some (.ref 3)), (some (.int (Int32.ofInt x1)))], [.int (Int32.ofInt r2)], zk c m2)) ⟨[zc (some (.int (Int32.ofInt r2))) (zk c m2)], _, rfl, ⟨⟨⟨(Nat.lt_of_lt_of_le (Nat.le_of_ble_eq_true rfl) hN), (Nat.le_of_ble_eq_true rfl)⟩, hs2, (Nat.le_of_ble_eq_true rfl), Nat.le_refl _, Nat.le_refl _, Nat.le_refl _, Nat.le_refl _⟩, trivial⟩⟩ rfl ?_
    have tk3 : zH t9 m2 := zH_N tH kN_2
    by_cases b4 : r2 = 0
    · refine zW.step (st1 := (48, [(some (.ref 3)), (some (.int (Int32.ofInt x1)))], [], zk c m2)) (st2 := (48, [(some (.ref 3)), (some (.int (Int32.ofInt x1)))], [], zk c m2)) ⟨[zo], _, rfl, ⟨zbf (fun q => q ((zi_eq rfl (rfl : (0 : Int32) = Int32.ofInt 0) (by unfold zR; omega) (⟨by decide, by decide⟩ : zR 0)).mpr b4)), trivial⟩⟩ rfl ?_
      have f5 : (0 : Int) ≤ m2 1 2 ∧ m2 1 2 ≤ 240 := hIm2.1 1 2
      refine zW.step (st1 := (55, [(some (.ref 3)), (some (.int (Int32.ofInt x1)))], [.int (Int32.ofInt (m2 1 2))], zk c m2)) (st2 := (55, [(some (.ref 3)), (some (.int (Int32.ofInt x1)))], [.int (Int32.ofInt (m2 1 2))], zk c m2)) ⟨[zo, zo, zo], _, rfl, ⟨trivial, (Nat.lt_of_lt_of_le (Nat.le_of_ble_eq_true rfl) hN), (Nat.lt_of_lt_of_le (Nat.le_of_ble_eq_true rfl) hN), trivial⟩⟩ rfl ?_
      exact zW.fin (zfin_i rfl rfl rfl) (KR _ _ ⟨m2 1 2, m2, rfl, rfl, hIm2, (by omega), (zH_le tk3 (by omega))⟩)
    · refine zW.step (st1 := (56, [(some (.ref 3)), (some (.int (Int32.ofInt x1)))], [], zk c m2)) (st2 := (56, [(some (.ref 3)), (some (.int (Int32.ofInt x1)))], [], zk c m2)) ⟨[zt], _, rfl, ⟨zbt (fun q => b4 ((zi_eq rfl (rfl : (0 : Int32) = Int32.ofInt 0) (by unfold zR; omega) (⟨by decide, by decide⟩ : zR 0)).mp q)), trivial⟩⟩ rfl ?_
      refine zW.step (st1 := (62, [(some (.ref 3)), (some (.int (Int32.ofInt x1)))], [.int ((Int8.ofInt 59).toInt32), .ref 1], zk c m2)) (st2 := (62, [(some (.ref 3)), (some (.int (Int32.ofInt x1)))], [.int (Int32.ofInt 59), .ref 1], zk c m2)) ⟨[zo, zo, zo], _, rfl, ⟨trivial, (Nat.lt_of_lt_of_le (Nat.le_of_ble_eq_true rfl) hN), trivial, trivial⟩⟩ (z_steq rfl (z_c1 (z_vi (by decide : (Int8.ofInt 59).toInt32 = Int32.ofInt 59)) rfl) rfl) ?_
      obtain ⟨r6, m6, hs6, hIm6, z_6, l_6, a9_6, q_6, r9_6, p9_6, n9_6, e2_6, kN_6⟩ := S_X8_takes zn (d + 4) hN hC 59 m2 hIm2 (by omega) (by omega)
      refine zW.step (st1 := (65, [(some (.ref 3)), (some (.int (Int32.ofInt x1)))], [.int (Int32.ofInt r6)], zk c m6)) ⟨[zc (some (.int (Int32.ofInt r6))) (zk c m6)], _, rfl, ⟨⟨⟨(Nat.lt_of_lt_of_le (Nat.le_of_ble_eq_true rfl) hN), (Nat.le_of_ble_eq_true rfl)⟩, hs6, (Nat.le_of_ble_eq_true rfl), Nat.le_refl _, Nat.le_refl _, Nat.le_refl _, Nat.le_refl _⟩, trivial⟩⟩ rfl ?_
      have tk7 : zH t9 m6 := zH_N tk3 kN_6
      by_cases b8 : r6 = 0
      · refine zW.step (st1 := (68, [(some (.ref 3)), (some (.int (Int32.ofInt x1)))], [], zk c m6)) (st2 := (68, [(some (.ref 3)), (some (.int (Int32.ofInt x1)))], [], zk c m6)) ⟨[zo], _, rfl, ⟨zbf (fun q => q ((zi_eq rfl (rfl : (0 : Int32) = Int32.ofInt 0) (by unfold zR; omega) (⟨by decide, by decide⟩ : zR 0)).mpr b8)), trivial⟩⟩ rfl ?_
        refine zW.step (st1 := (77, [(some (.ref 3)), (some (.int (Int32.ofInt x1)))], [], zk c m6)) (st2 := (77, [(some (.ref 3)), (some (.int (Int32.ofInt x1)))], [], zk c m6)) ⟨[zo], _, rfl, ⟨trivial, trivial⟩⟩ rfl ?_
        exact K x1 m6 hIm6 (by omega) (zH_le tk7 (by omega))
      · refine zW.step (st1 := (71, [(some (.ref 3)), (some (.int (Int32.ofInt x1)))], [], zk c m6)) (st2 := (71, [(some (.ref 3)), (some (.int (Int32.ofInt x1)))], [], zk c m6)) ⟨[zt], _, rfl, ⟨zbt (fun q => b8 ((zi_eq rfl (rfl : (0 : Int32) = Int32.ofInt 0) (by unfold zR; omega) (⟨by decide, by decide⟩ : zR 0)).mp q)), trivial⟩⟩ rfl ?_
        refine zW.step (st1 := (34, [(some (.ref 3)), (some (.int ((Int32.ofInt x1) + Int32.ofInt 1)))], [], zk c m6)) (st2 := (34, [(some (.ref 3)), (some (.int (Int32.ofInt (x1 + 1))))], [], zk c m6)) ⟨[zo, zo], _, rfl, ⟨trivial, trivial, trivial⟩⟩ (z_steq (z_c1 rfl (z_c1 (z_si (zi_add rfl rfl)) rfl)) rfl rfl) ?_
        exact ih _ (by omega) (x1 + 1) m6 hIm6 (by omega) (zH_le tk7 (by omega)) rfl

set_option maxRecDepth 100000 in
set_option maxHeartbeats 4000000 in
theorem S_X4_read (zn : Bool) (d : Nat) {c : Nat × Nat} {mM : zM} (hN : 107 ≤ c.1) (hC : c.1 < z_RO) (t9 : Int) (m : zM) (hIm : zI c mM m) (ht : 0 ≤ t9 ∧ t9 ≤ 999999000) (hH : zH t9 m) : zCi zn (d + 8) 79 [.ref 3] c m (fun (r : Int) (m1 : zM) => zI c mM m1 ∧ (-2147483648 ≤ r ∧ r ≤ 2147483647) ∧ zH (t9) m1) := by
  refine zCi.of zu_X4_read hC (Nat.le_of_ble_eq_true rfl) ?_
  show zW zn (d + 7) 79 c (0, [(some (.ref 3)), none], [], zk c m) (fun v h1 => ∃ (r : Int) (m1 : zM), v = some (.int (Int32.ofInt r)) ∧ h1 = zk c m1 ∧ zI c mM m1 ∧ (-2147483648 ≤ r ∧ r ≤ 2147483647) ∧ zH (t9) m1)
  refine zW.step (st1 := (5, [(some (.ref 3)), none], [.int (Int32.ofInt 0), .ref 8], zk c m)) (st2 := (5, [(some (.ref 3)), none], [.int (Int32.ofInt 0), .ref 8], zk c m)) ⟨[zo, zo, zo], _, rfl, ⟨trivial, (Nat.lt_of_lt_of_le (Nat.le_of_ble_eq_true rfl) hN), trivial, trivial⟩⟩ rfl ?_
  obtain ⟨m9, hsm9, hIm9, hfm9, hwm9⟩ := S_fill zn (d + 6) hN hC zA_8 (by omega) (by decide) (v := 0) m hIm (by intro i hi; exact zr_f0 zS_8 i)
  refine zW.step (st1 := (8, [(some (.ref 3)), none], [], zk c m9)) ⟨[zc none (zk c m9)], _, rfl, ⟨⟨(Nat.le_of_ble_eq_true rfl), hsm9, (Nat.le_of_ble_eq_true rfl), Nat.le_refl _, Nat.le_refl _, Nat.le_refl _, Nat.le_refl _⟩, trivial⟩⟩ rfl ?_
  have tk10 : zH t9 m9 := zH_fl hH hfm9 hwm9 (by unfold zQ; omega)
  obtain ⟨m11, hm11⟩ : ∃ q, q = zm_up m9 4 3 0 := ⟨_, rfl⟩
  have hIm11 : zI c mM m11 := by rw [hm11]; exact zI_up hIm9 (by unfold zOk; omega) (show (0 : Int) ≤ 0 ∧ 0 ≤ 5 by omega)
  have em11 : m11 4 3 = 0 := by rw [hm11]; exact zm_eq
  have tk12 : zH t9 m11 := by rw [hm11]; exact zH_up tk10 (by unfold zQ; omega)
  clear tk10
  refine zW.step (st1 := (16, [(some (.ref 3)), none], [], z_hup (zk c m9) 4 (.inr (6, [.ref 5, .ref 6, .ref 7, .int (Int32.ofInt 0), .int (Int32.ofInt (m9 4 4))])))) (st2 := (16, [(some (.ref 3)), none], [], zk c m11)) ⟨[zo, zo, zo, zo], _, rfl, ⟨trivial, (Nat.lt_of_lt_of_le (Nat.le_of_ble_eq_true rfl) hN), trivial, ⟨(Nat.lt_of_lt_of_le (Nat.le_of_ble_eq_true rfl) hN), rfl, rfl⟩, trivial⟩⟩ (z_steq rfl rfl ((zk_up c m9 4 3 0 _ rfl).trans (by rw [hm11]))) ?_
  obtain ⟨m13, hm13⟩ : ∃ q, q = zm_up m11 4 4 0 := ⟨_, rfl⟩
  have hIm13 : zI c mM m13 := by rw [hm13]; exact zI_up hIm11 (by unfold zOk; omega) (show (0 : Int) ≤ 0 ∧ 0 ≤ 6 by omega)
  have em13 : m13 4 4 = 0 := by rw [hm13]; exact zm_eq
  have tk14 : zH t9 m13 := by rw [hm13]; exact zH_up tk12 (by unfold zQ; omega)
  clear tk12
  refine zW.step (st1 := (24, [(some (.ref 3)), none], [], z_hup (zk c m11) 4 (.inr (6, [.ref 5, .ref 6, .ref 7, .int (Int32.ofInt (m11 4 3)), .int (Int32.ofInt 0)])))) (st2 := (24, [(some (.ref 3)), none], [], zk c m13)) ⟨[zo, zo, zo, zo], _, rfl, ⟨trivial, (Nat.lt_of_lt_of_le (Nat.le_of_ble_eq_true rfl) hN), trivial, ⟨(Nat.lt_of_lt_of_le (Nat.le_of_ble_eq_true rfl) hN), rfl, rfl⟩, trivial⟩⟩ (z_steq rfl rfl ((zk_up c m11 4 4 0 _ rfl).trans (by rw [hm13]))) ?_
  clear em11
  obtain ⟨m15, hm15⟩ : ∃ q, q = zm_up m13 1 2 0 := ⟨_, rfl⟩
  have hIm15 : zI c mM m15 := by rw [hm15]; exact zI_up hIm13 (by unfold zOk; omega) (show (0 : Int) ≤ 0 ∧ 0 ≤ 240 by omega)
  have em15 : m15 1 2 = 0 := by rw [hm15]; exact zm_eq
  have tk16 : zH t9 m15 := by rw [hm15]; exact zH_up tk14 (by unfold zQ; omega)
  clear tk14
  refine zW.step (st1 := (32, [(some (.ref 3)), none], [], z_hup (zk c m13) 1 (.inr (8, [.ref 2, .int (Int32.ofInt (m13 1 1)), .int (Int32.ofInt 0), .int (Int32.ofInt (m13 1 3))])))) (st2 := (32, [(some (.ref 3)), none], [], zk c m15)) ⟨[zo, zo, zo, zo], _, rfl, ⟨trivial, (Nat.lt_of_lt_of_le (Nat.le_of_ble_eq_true rfl) hN), trivial, ⟨(Nat.lt_of_lt_of_le (Nat.le_of_ble_eq_true rfl) hN), rfl, rfl⟩, trivial⟩⟩ (z_steq rfl rfl ((zk_up c m13 1 2 0 _ rfl).trans (by rw [hm15]))) ?_
  clear em13
  refine zW.step (st1 := (34, [(some (.ref 3)), (some (.int (Int32.ofInt 0)))], [], zk c m15)) (st2 := (34, [(some (.ref 3)), (some (.int (Int32.ofInt 0)))], [], zk c m15)) ⟨[zo, zo], _, rfl, ⟨trivial, trivial, trivial⟩⟩ rfl ?_
  refine L_X4_read_34 zn _ hN hC t9 ht m _ (fun v9 h9 hq9 => hq9) (fun x1_17 m_17 hIm_17 i1_17 tH_17 => ?_) _ 0 m15 hIm15 (by omega) (zH_le tk16 (by omega)) rfl
  refine zW.step (st1 := (81, [(some (.ref 3)), (some (.int (Int32.ofInt x1_17)))], [.ref 1], zk c m_17)) (st2 := (81, [(some (.ref 3)), (some (.int (Int32.ofInt x1_17)))], [.ref 1], zk c m_17)) ⟨[zo, zo], _, rfl, ⟨trivial, (Nat.lt_of_lt_of_le (Nat.le_of_ble_eq_true rfl) hN), trivial⟩⟩ rfl ?_
  obtain ⟨r18, m18, hs18, hIm18, z_18, q_18, l_18, a9_18, r9_18, p9_18, n9_18, c3_18, e2_18, v9_18, kN_18⟩ := S_X8_next zn (d + 5) hN hC m_17 hIm_17
  refine zW.step (st1 := (84, [(some (.ref 3)), (some (.int (Int32.ofInt x1_17)))], [.int (Int32.ofInt r18)], zk c m18)) ⟨[zc (some (.int (Int32.ofInt r18))) (zk c m18)], _, rfl, ⟨⟨⟨(Nat.lt_of_lt_of_le (Nat.le_of_ble_eq_true rfl) hN), (Nat.le_of_ble_eq_true rfl)⟩, hs18, (Nat.le_of_ble_eq_true rfl), Nat.le_refl _, Nat.le_refl _, Nat.le_refl _, Nat.le_refl _⟩, trivial⟩⟩ rfl ?_
  have tk19 : zH t9 m18 := zH_N tH_17 kN_18
  by_cases b20 : r18 = (-1)
  · refine zW.step (st1 := (96, [(some (.ref 3)), (some (.int (Int32.ofInt x1_17)))], [], zk c m18)) (st2 := (96, [(some (.ref 3)), (some (.int (Int32.ofInt x1_17)))], [], zk c m18)) ⟨[zo, zt], _, rfl, ⟨trivial, zbt ((zi_eq rfl rfl (by unfold zR; omega) (⟨by decide, by decide⟩ : zR (-1))).mpr b20), trivial⟩⟩ rfl ?_
    refine zW.step (st1 := (97, [(some (.ref 3)), (some (.int (Int32.ofInt x1_17)))], [.ref 3], zk c m18)) (st2 := (97, [(some (.ref 3)), (some (.int (Int32.ofInt x1_17)))], [.ref 3], zk c m18)) ⟨[zo], _, rfl, ⟨trivial, trivial⟩⟩ rfl ?_
    obtain ⟨r21, hs21, z_21⟩ := S_X4_isWhole zn (d + 5) hN hC m18 hIm18
    refine zW.step (st1 := (100, [(some (.ref 3)), (some (.int (Int32.ofInt x1_17)))], [.int (Int32.ofInt r21)], zk c m18)) ⟨[zc (some (.int (Int32.ofInt r21))) (zk c m18)], _, rfl, ⟨⟨⟨(Nat.lt_of_lt_of_le (Nat.le_of_ble_eq_true rfl) hN), (Nat.le_of_ble_eq_true rfl)⟩, hs21, (Nat.le_of_ble_eq_true rfl), Nat.le_refl _, Nat.le_refl _, Nat.le_refl _, Nat.le_refl _⟩, trivial⟩⟩ rfl ?_
    by_cases b22 : r21 = 0
    · refine zW.step (st1 := (107, [(some (.ref 3)), (some (.int (Int32.ofInt x1_17)))], [], zk c m18)) (st2 := (107, [(some (.ref 3)), (some (.int (Int32.ofInt x1_17)))], [], zk c m18)) ⟨[zt], _, rfl, ⟨zbt ((zi_eq rfl (rfl : (0 : Int32) = Int32.ofInt 0) (by unfold zR; omega) (⟨by decide, by decide⟩ : zR 0)).mpr b22), trivial⟩⟩ rfl ?_
      have f23 : (0 : Int) ≤ m18 1 1 ∧ m18 1 1 ≤ 240 := hIm18.1 1 1
      refine zW.step (st1 := (114, [(some (.ref 3)), (some (.int (Int32.ofInt x1_17)))], [.int (Int32.ofInt (m18 1 1))], zk c m18)) (st2 := (114, [(some (.ref 3)), (some (.int (Int32.ofInt x1_17)))], [.int (Int32.ofInt (m18 1 1))], zk c m18)) ⟨[zo, zo, zo], _, rfl, ⟨trivial, (Nat.lt_of_lt_of_le (Nat.le_of_ble_eq_true rfl) hN), (Nat.lt_of_lt_of_le (Nat.le_of_ble_eq_true rfl) hN), trivial⟩⟩ rfl ?_
      exact zW.fin (zfin_i rfl rfl rfl) ⟨m18 1 1, m18, rfl, rfl, hIm18, (by omega), (zH_le tk19 (by omega))⟩
    · refine zW.step (st1 := (103, [(some (.ref 3)), (some (.int (Int32.ofInt x1_17)))], [], zk c m18)) (st2 := (103, [(some (.ref 3)), (some (.int (Int32.ofInt x1_17)))], [], zk c m18)) ⟨[zo], _, rfl, ⟨zbf (fun q => b22 ((zi_eq rfl (rfl : (0 : Int32) = Int32.ofInt 0) (by unfold zR; omega) (⟨by decide, by decide⟩ : zR 0)).mp q)), trivial⟩⟩ rfl ?_
      refine zW.step (st1 := (114, [(some (.ref 3)), (some (.int (Int32.ofInt x1_17)))], [.int (Int32.ofInt (-1))], zk c m18)) (st2 := (114, [(some (.ref 3)), (some (.int (Int32.ofInt x1_17)))], [.int (Int32.ofInt (-1))], zk c m18)) ⟨[zo, zo], _, rfl, ⟨trivial, trivial, trivial⟩⟩ rfl ?_
      exact zW.fin (zfin_i rfl rfl rfl) ⟨(-1), m18, rfl, rfl, hIm18, (by omega), (zH_le tk19 (by omega))⟩
  · refine zW.step (st1 := (88, [(some (.ref 3)), (some (.int (Int32.ofInt x1_17)))], [], zk c m18)) (st2 := (88, [(some (.ref 3)), (some (.int (Int32.ofInt x1_17)))], [], zk c m18)) ⟨[zo, zo], _, rfl, ⟨trivial, zbf (fun q => b20 ((zi_eq rfl rfl (by unfold zR; omega) (⟨by decide, by decide⟩ : zR (-1))).mp q)), trivial⟩⟩ rfl ?_
    have f24 : (0 : Int) ≤ m18 1 2 ∧ m18 1 2 ≤ 240 := hIm18.1 1 2
    refine zW.step (st1 := (95, [(some (.ref 3)), (some (.int (Int32.ofInt x1_17)))], [.int (Int32.ofInt (m18 1 2))], zk c m18)) (st2 := (95, [(some (.ref 3)), (some (.int (Int32.ofInt x1_17)))], [.int (Int32.ofInt (m18 1 2))], zk c m18)) ⟨[zo, zo, zo], _, rfl, ⟨trivial, (Nat.lt_of_lt_of_le (Nat.le_of_ble_eq_true rfl) hN), (Nat.lt_of_lt_of_le (Nat.le_of_ble_eq_true rfl) hN), trivial⟩⟩ rfl ?_
    exact zW.fin (zfin_i rfl rfl rfl) ⟨m18 1 2, m18, rfl, rfl, hIm18, (by omega), (zH_le tk19 (by omega))⟩

set_option maxRecDepth 100000 in
set_option maxHeartbeats 4000000 in
theorem S_X10_emit (zn : Bool) (d : Nat) {c : Nat × Nat} {mM : zM} (hN : 107 ≤ c.1) (hC : c.1 < z_RO) (sign : Int) (operand : Int) (m : zM) (hIm : zI c mM m) (r_sign : -2147483648 ≤ sign ∧ sign ≤ 2147483647) (r_operand : -2147483648 ≤ operand ∧ operand ≤ 2147483647) (hs : 0 ≤ sign ∧ sign ≤ 31) (ho : 0 ≤ operand ∧ operand ≤ 99999) : zCi zn (d + 1) 119 [.ref 10, .int (Int32.ofInt sign), .int (Int32.ofInt operand)] c m (fun (r : Int) (m1 : zM) => zI c mM m1 ∧ (0 ≤ r ∧ r ≤ 1) ∧ (m1 10 2 ≤ m 10 2 + 1 ∧ m1 1 2 = m 1 2) ∧ zN m m1) := by
  refine zCi.of zu_X10_emit hC (Nat.le_of_ble_eq_true rfl) ?_
  show zW zn (d + 0) 119 c (0, [(some (.ref 10)), (some (.int (Int32.ofInt sign))), (some (.int (Int32.ofInt operand)))], [], zk c m) (fun v h1 => ∃ (r : Int) (m1 : zM), v = some (.int (Int32.ofInt r)) ∧ h1 = zk c m1 ∧ zI c mM m1 ∧ (0 ≤ r ∧ r ≤ 1) ∧ (m1 10 2 ≤ m 10 2 + 1 ∧ m1 1 2 = m 1 2) ∧ zN m m1)
  have f1 : (0 : Int) ≤ m 1 1 ∧ m 1 1 ≤ 240 := hIm.1 1 1
  have f2 : (0 : Int) ≤ m 1 2 ∧ m 1 2 ≤ 240 := hIm.1 1 2
  have f3 : (0 : Int) ≤ m 10 2 ∧ m 10 2 ≤ 240 := hIm.1 10 2
  by_cases b4 : 240 ≤ (m 10 2)
  · refine zW.step (st1 := (37, [(some (.ref 10)), (some (.int (Int32.ofInt sign))), (some (.int (Int32.ofInt operand)))], [], zk c m)) (st2 := (37, [(some (.ref 10)), (some (.int (Int32.ofInt sign))), (some (.int (Int32.ofInt operand)))], [], zk c m)) ⟨[zo, zo, zo, zo, zo, zt], _, rfl, ⟨trivial, (Nat.lt_of_lt_of_le (Nat.le_of_ble_eq_true rfl) hN), trivial, (Nat.lt_of_lt_of_le (Nat.le_of_ble_eq_true rfl) hN), (Nat.lt_of_lt_of_le (Nat.le_of_ble_eq_true rfl) hN), zbt ((zi_le (by decide : Int32.ofNat 240 = Int32.ofInt 240) rfl (⟨by decide, by decide⟩ : zR 240) (by unfold zR; omega)).mpr b4), trivial⟩⟩ rfl ?_
    refine zW.step (st1 := (38, [(some (.ref 10)), (some (.int (Int32.ofInt sign))), (some (.int (Int32.ofInt operand)))], [.int (Int32.ofInt 1)], zk c m)) (st2 := (38, [(some (.ref 10)), (some (.int (Int32.ofInt sign))), (some (.int (Int32.ofInt operand)))], [.int (Int32.ofInt 1)], zk c m)) ⟨[zo], _, rfl, ⟨trivial, trivial⟩⟩ rfl ?_
    exact zW.fin (zfin_i rfl rfl rfl) ⟨1, m, rfl, rfl, hIm, (by omega), (by omega), zN_rf⟩
  · refine zW.step (st1 := (12, [(some (.ref 10)), (some (.int (Int32.ofInt sign))), (some (.int (Int32.ofInt operand)))], [], zk c m)) (st2 := (12, [(some (.ref 10)), (some (.int (Int32.ofInt sign))), (some (.int (Int32.ofInt operand)))], [], zk c m)) ⟨[zo, zo, zo, zo, zo, zo], _, rfl, ⟨trivial, (Nat.lt_of_lt_of_le (Nat.le_of_ble_eq_true rfl) hN), trivial, (Nat.lt_of_lt_of_le (Nat.le_of_ble_eq_true rfl) hN), (Nat.lt_of_lt_of_le (Nat.le_of_ble_eq_true rfl) hN), zbf (fun q => b4 ((zi_le (by decide : Int32.ofNat 240 = Int32.ofInt 240) rfl (⟨by decide, by decide⟩ : zR 240) (by unfold zR; omega)).mp q)), trivial⟩⟩ rfl ?_
    have f5 : (-2147483648 : Int) ≤ zb_shl sign 14 ∧ zb_shl sign 14 ≤ 2147483647 := zb_shlR sign 14
    have f6 := zb_shl14 sign
    have f7 : (-2147483648 : Int) ≤ zb_or (zb_shl sign 14) operand ∧ zb_or (zb_shl sign 14) operand ≤ 2147483647 := zb_orR (zb_shl sign 14) operand
    have f8 := zb_or_f (zb_shl sign 14) operand
    obtain ⟨m9, hm9⟩ : ∃ q, q = zm_up m 11 ((m 10 2).toNat) (zb_or (zb_shl sign 14) operand) := ⟨_, rfl⟩
    have hIm9 : zI c mM m9 := by rw [hm9]; exact zI_up hIm (by unfold zOk; omega) (show (0 : Int) ≤ (zb_or (zb_shl sign 14) operand) ∧ (zb_or (zb_shl sign 14) operand) ≤ 2147483647 by omega)
    have em9 : m9 11 ((m 10 2).toNat) = (zb_or (zb_shl sign 14) operand) := by rw [hm9]; exact zm_eq
    have f10 : m9 10 2 = m 10 2 := by rw [hm9]; exact zm_ne (by omega)
    have f11 : m9 1 1 = m 1 1 := by rw [hm9]; exact zm_ne (by omega)
    have f12 : m9 1 2 = m 1 2 := by rw [hm9]; exact zm_ne (by omega)
    have tk13 : zN m m9 := by rw [hm9]; exact zN_up zN_rf (by unfold zRow; omega)
    refine zW.step (st1 := (27, [(some (.ref 10)), (some (.int (Int32.ofInt sign))), (some (.int (Int32.ofInt operand)))], [], z_hup (zk c m) 11 (.inl (0, 240, .inl (upd (fun j => Int32.ofInt (m 11 j)) (Int32.ofInt (m 10 2)).toNatClampNeg (((Int32.ofInt sign) <<< (((Int8.ofInt 14).toInt32) &&& 31)) ||| (Int32.ofInt operand))))))) (st2 := (27, [(some (.ref 10)), (some (.int (Int32.ofInt sign))), (some (.int (Int32.ofInt operand)))], [], zk c m9)) ⟨[zo, zo, zo, zo, zo, zo, zo, zo, zo, (false, 0, none, zh0, some (.inl (0, 240, .inl (fun j => Int32.ofInt (m 11 j)))))], _, rfl, ⟨trivial, (Nat.lt_of_lt_of_le (Nat.le_of_ble_eq_true rfl) hN), trivial, (Nat.lt_of_lt_of_le (Nat.le_of_ble_eq_true rfl) hN), trivial, trivial, trivial, trivial, trivial, ⟨zk_ra c m zA_11 (Nat.lt_of_lt_of_le (Nat.le_of_ble_eq_true rfl) hN), zi_in rfl (by omega) (by omega) (by omega)⟩, trivial⟩⟩ (z_steq rfl rfl ((zk_ias c m zA_11 rfl (by unfold zR; omega) (zi_or (zi_shl rfl (by decide : (Int8.ofInt 14).toInt32 = Int32.ofInt 14)) rfl)).trans (by rw [hm9]))) ?_
    have f14 : (0 : Int) ≤ m9 10 2 ∧ m9 10 2 ≤ 240 := hIm9.1 10 2
    obtain ⟨m15, hm15⟩ : ∃ q, q = zm_up m9 10 2 ((m9 10 2) + 1) := ⟨_, rfl⟩
    have hIm15 : zI c mM m15 := by rw [hm15]; exact zI_up hIm9 (by unfold zOk; omega) (show (0 : Int) ≤ ((m9 10 2) + 1) ∧ ((m9 10 2) + 1) ≤ 240 by omega)
    have em15 : m15 10 2 = ((m9 10 2) + 1) := by rw [hm15]; exact zm_eq
    have f16 : m15 1 1 = m9 1 1 := by rw [hm15]; exact zm_ne (by omega)
    have f17 : m15 1 2 = m9 1 2 := by rw [hm15]; exact zm_ne (by omega)
    have tk18 : zN m m15 := by rw [hm15]; exact zN_up tk13 (by unfold zRow; omega)
    clear tk13
    refine zW.step (st1 := (37, [(some (.ref 10)), (some (.int (Int32.ofInt sign))), (some (.int (Int32.ofInt operand)))], [], z_hup (zk c m9) 10 (.inr (10, [.ref 1, .ref 11, .int ((Int32.ofInt (m9 10 2)) + (Int32.ofInt 1)), .int (Int32.ofInt (m9 10 3))])))) (st2 := (37, [(some (.ref 10)), (some (.int (Int32.ofInt sign))), (some (.int (Int32.ofInt operand)))], [], zk c m15)) ⟨[zo, zo, zo, zo, zo, zo], _, rfl, ⟨trivial, trivial, (Nat.lt_of_lt_of_le (Nat.le_of_ble_eq_true rfl) hN), trivial, trivial, ⟨(Nat.lt_of_lt_of_le (Nat.le_of_ble_eq_true rfl) hN), rfl, rfl⟩, trivial⟩⟩ (z_steq rfl rfl ((zk_up c m9 10 2 ((m9 10 2) + 1) _ ((congrArg (fun q => (.inr (10, [.ref 1, .ref 11, .int q, .int (Int32.ofInt (m9 10 3))]) : z_E)) (zi_add rfl rfl)).trans rfl)).trans (by rw [hm15]))) ?_
    refine zW.step (st1 := (38, [(some (.ref 10)), (some (.int (Int32.ofInt sign))), (some (.int (Int32.ofInt operand)))], [.int (Int32.ofInt 1)], zk c m15)) (st2 := (38, [(some (.ref 10)), (some (.int (Int32.ofInt sign))), (some (.int (Int32.ofInt operand)))], [.int (Int32.ofInt 1)], zk c m15)) ⟨[zo], _, rfl, ⟨trivial, trivial⟩⟩ rfl ?_
    exact zW.fin (zfin_i rfl rfl rfl) ⟨1, m15, rfl, rfl, hIm15, (by omega), (by omega), tk18⟩

set_option maxRecDepth 100000 in
set_option maxHeartbeats 4000000 in
theorem L_X10_condition_G_13 (zn : Bool) (d : Nat) {c : Nat × Nat} {mM : zM} (hN : 107 ≤ c.1) (hC : c.1 < z_RO) (begun : Int) (Lv : Int) (h_truths : ∀ (begun : Int) (m : zM) (hIm : zI c mM m) (r_begun : -2147483648 ≤ begun ∧ begun ≤ 2147483647) (hb : 0 ≤ begun ∧ begun ≤ 1), zCi zn (d + 9) 124 [.ref 10, .int (Int32.ofInt Lv), .int (Int32.ofInt begun)] c m (fun (r : Int) (m1 : zM) => zI c mM m1 ∧ (0 ≤ r ∧ r ≤ 1) ∧ (m1 10 2 - m1 1 2 ≤ m 10 2 - m 1 2) ∧ zN m m1)) (r_begun : -2147483648 ≤ begun ∧ begun ≤ 2147483647) (hLv : 0 ≤ Lv ∧ Lv ≤ 6) (hb : 0 ≤ begun ∧ begun ≤ 1) (m0 : zM) (Q : Option Value → z_H → Prop) (KR : ∀ v h1, (fun v h1 => ∃ (r : Int) (m1 : zM), v = some (.int (Int32.ofInt r)) ∧ h1 = zk c m1 ∧ zI c mM m1 ∧ (0 ≤ r ∧ r ≤ 1) ∧ (m1 10 2 - m1 1 2 ≤ m0 10 2 - m0 1 2) ∧ zN m0 m1) v h1 → Q v h1) (K : ∀ (x3 : Int) (m : zM), zI c mM m → 0 ≤ x3 ∧ x3 ≤ 240 → m 10 2 - m 1 2 ≤ m0 10 2 - m0 1 2 → 0 ≤ Lv ∧ Lv ≤ 6 → zN m0 m → zW zn (d + 9) 117 c (57, [(some (.ref 10)), (some (.int (Int32.ofInt Lv))), (some (.int (Int32.ofInt begun))), (some (.int (Int32.ofInt x3)))], [], zk c m) Q) :
    ∀ (w : Nat) (x3 : Int) (m : zM), zI c mM m → 0 ≤ x3 ∧ x3 ≤ 240 → m 10 2 - m 1 2 ≤ m0 10 2 - m0 1 2 → 0 ≤ Lv ∧ Lv ≤ 6 → zN m0 m → w = (240 - x3).toNat → zW zn (d + 9) 117 c (13, [(some (.ref 10)), (some (.int (Int32.ofInt Lv))), (some (.int (Int32.ofInt begun))), (some (.int (Int32.ofInt x3)))], [], zk c m) Q := by
  intro w
  induction w using Nat.strongRecOn with | _ w ih => ?_
  intro x3 m hIm i1 pt hLw tN hw
  have f1 : (0 : Int) ≤ m 1 1 ∧ m 1 1 ≤ 240 := hIm.1 1 1
  have f2 : (0 : Int) ≤ m 1 2 ∧ m 1 2 ≤ 240 := hIm.1 1 2
  have f3 : (0 : Int) ≤ m 10 2 ∧ m 10 2 ≤ 240 := hIm.1 10 2
  by_cases b4 : 240 ≤ x3
  · refine zW.step (st1 := (57, [(some (.ref 10)), (some (.int (Int32.ofInt Lv))), (some (.int (Int32.ofInt begun))), (some (.int (Int32.ofInt x3)))], [], zk c m)) (st2 := (57, [(some (.ref 10)), (some (.int (Int32.ofInt Lv))), (some (.int (Int32.ofInt begun))), (some (.int (Int32.ofInt x3)))], [], zk c m)) ⟨[zo, zo, zt], _, rfl, ⟨trivial, trivial, zbt ((zi_le (by decide : (Int16.ofInt 240).toInt32 = Int32.ofInt 240) rfl (⟨by decide, by decide⟩ : zR 240) (by unfold zR; omega)).mpr b4), trivial⟩⟩ rfl ?_
    exact K x3 m hIm (by omega) (by omega) (by omega) tN
  · refine zW.step (st1 := (20, [(some (.ref 10)), (some (.int (Int32.ofInt Lv))), (some (.int (Int32.ofInt begun))), (some (.int (Int32.ofInt x3)))], [], zk c m)) (st2 := (20, [(some (.ref 10)), (some (.int (Int32.ofInt Lv))), (some (.int (Int32.ofInt begun))), (some (.int (Int32.ofInt x3)))], [], zk c m)) ⟨[zo, zo, zo], _, rfl, ⟨trivial, trivial, zbf (fun q => b4 ((zi_le (by decide : (Int16.ofInt 240).toInt32 = Int32.ofInt 240) rfl (⟨by decide, by decide⟩ : zR 240) (by unfold zR; omega)).mp q)), trivial⟩⟩ rfl ?_
    refine zW.step (st1 := (26, [(some (.ref 10)), (some (.int (Int32.ofInt Lv))), (some (.int (Int32.ofInt begun))), (some (.int (Int32.ofInt x3)))], [.int ((Int8.ofInt 124).toInt32), .ref 1], zk c m)) (st2 := (26, [(some (.ref 10)), (some (.int (Int32.ofInt Lv))), (some (.int (Int32.ofInt begun))), (some (.int (Int32.ofInt x3)))], [.int (Int32.ofInt 124), .ref 1], zk c m)) ⟨[zo, zo, zo], _, rfl, ⟨trivial, (Nat.lt_of_lt_of_le (Nat.le_of_ble_eq_true rfl) hN), trivial, trivial⟩⟩ (z_steq rfl (z_c1 (z_vi (by decide : (Int8.ofInt 124).toInt32 = Int32.ofInt 124)) rfl) rfl) ?_
    obtain ⟨r5, m5, hs5, hIm5, z_5, l_5, a9_5, q_5, r9_5, p9_5, n9_5, e2_5, kN_5⟩ := S_X8_takes zn (d + 6) hN hC 124 m hIm (by omega) (by omega)
    refine zW.step (st1 := (29, [(some (.ref 10)), (some (.int (Int32.ofInt Lv))), (some (.int (Int32.ofInt begun))), (some (.int (Int32.ofInt x3)))], [.int (Int32.ofInt r5)], zk c m5)) ⟨[zc (some (.int (Int32.ofInt r5))) (zk c m5)], _, rfl, ⟨⟨⟨(Nat.lt_of_lt_of_le (Nat.le_of_ble_eq_true rfl) hN), (Nat.le_of_ble_eq_true rfl)⟩, hs5, (Nat.le_of_ble_eq_true rfl), Nat.le_refl _, Nat.le_refl _, Nat.le_refl _, Nat.le_refl _⟩, trivial⟩⟩ rfl ?_
    have f6 : (0 : Int) ≤ m5 1 1 ∧ m5 1 1 ≤ 240 := hIm5.1 1 1
    have f7 : (0 : Int) ≤ m5 1 2 ∧ m5 1 2 ≤ 240 := hIm5.1 1 2
    have f8 : (0 : Int) ≤ m5 10 2 ∧ m5 10 2 ≤ 240 := hIm5.1 10 2
    have tk9 : zN m0 m5 := zN_tr tN kN_5
    by_cases b10 : r5 = 0
    · refine zW.step (st1 := (57, [(some (.ref 10)), (some (.int (Int32.ofInt Lv))), (some (.int (Int32.ofInt begun))), (some (.int (Int32.ofInt x3)))], [], zk c m5)) (st2 := (57, [(some (.ref 10)), (some (.int (Int32.ofInt Lv))), (some (.int (Int32.ofInt begun))), (some (.int (Int32.ofInt x3)))], [], zk c m5)) ⟨[zt], _, rfl, ⟨zbt ((zi_eq rfl (rfl : (0 : Int32) = Int32.ofInt 0) (by unfold zR; omega) (⟨by decide, by decide⟩ : zR 0)).mpr b10), trivial⟩⟩ rfl ?_
      exact K x3 m5 hIm5 (by omega) (by omega) (by omega) tk9
    · refine zW.step (st1 := (32, [(some (.ref 10)), (some (.int (Int32.ofInt Lv))), (some (.int (Int32.ofInt begun))), (some (.int (Int32.ofInt x3)))], [], zk c m5)) (st2 := (32, [(some (.ref 10)), (some (.int (Int32.ofInt Lv))), (some (.int (Int32.ofInt begun))), (some (.int (Int32.ofInt x3)))], [], zk c m5)) ⟨[zo], _, rfl, ⟨zbf (fun q => b10 ((zi_eq rfl (rfl : (0 : Int32) = Int32.ofInt 0) (by unfold zR; omega) (⟨by decide, by decide⟩ : zR 0)).mp q)), trivial⟩⟩ rfl ?_
      refine zW.step (st1 := (35, [(some (.ref 10)), (some (.int (Int32.ofInt Lv))), (some (.int (Int32.ofInt begun))), (some (.int (Int32.ofInt x3)))], [.int (Int32.ofInt 0), .int (Int32.ofInt Lv), .ref 10], zk c m5)) (st2 := (35, [(some (.ref 10)), (some (.int (Int32.ofInt Lv))), (some (.int (Int32.ofInt begun))), (some (.int (Int32.ofInt x3)))], [.int (Int32.ofInt 0), .int (Int32.ofInt Lv), .ref 10], zk c m5)) ⟨[zo, zo, zo], _, rfl, ⟨trivial, trivial, trivial, trivial⟩⟩ rfl ?_
      obtain ⟨r11, m11, hs11, hIm11, z_11, p9_11, kN_11⟩ := h_truths 0 m5 hIm5 (by omega) (by omega)
      refine zW.step (st1 := (38, [(some (.ref 10)), (some (.int (Int32.ofInt Lv))), (some (.int (Int32.ofInt begun))), (some (.int (Int32.ofInt x3)))], [.int (Int32.ofInt r11)], zk c m11)) ⟨[zc (some (.int (Int32.ofInt r11))) (zk c m11)], _, rfl, ⟨⟨⟨(Nat.lt_of_lt_of_le (Nat.le_of_ble_eq_true rfl) hN), (Nat.le_of_ble_eq_true rfl)⟩, hs11, (Nat.le_of_ble_eq_true rfl), Nat.le_refl _, Nat.le_refl _, Nat.le_refl _, Nat.le_refl _⟩, trivial⟩⟩ rfl ?_
      have f12 : (0 : Int) ≤ m11 1 1 ∧ m11 1 1 ≤ 240 := hIm11.1 1 1
      have f13 : (0 : Int) ≤ m11 1 2 ∧ m11 1 2 ≤ 240 := hIm11.1 1 2
      have f14 : (0 : Int) ≤ m11 10 2 ∧ m11 10 2 ≤ 240 := hIm11.1 10 2
      have tk15 : zN m0 m11 := zN_tr tk9 kN_11
      by_cases b16 : r11 = 0
      · refine zW.step (st1 := (41, [(some (.ref 10)), (some (.int (Int32.ofInt Lv))), (some (.int (Int32.ofInt begun))), (some (.int (Int32.ofInt x3)))], [], zk c m11)) (st2 := (41, [(some (.ref 10)), (some (.int (Int32.ofInt Lv))), (some (.int (Int32.ofInt begun))), (some (.int (Int32.ofInt x3)))], [], zk c m11)) ⟨[zo], _, rfl, ⟨zbf (fun q => q ((zi_eq rfl (rfl : (0 : Int32) = Int32.ofInt 0) (by unfold zR; omega) (⟨by decide, by decide⟩ : zR 0)).mpr b16)), trivial⟩⟩ rfl ?_
        refine zW.step (st1 := (42, [(some (.ref 10)), (some (.int (Int32.ofInt Lv))), (some (.int (Int32.ofInt begun))), (some (.int (Int32.ofInt x3)))], [.int (Int32.ofInt 0)], zk c m11)) (st2 := (42, [(some (.ref 10)), (some (.int (Int32.ofInt Lv))), (some (.int (Int32.ofInt begun))), (some (.int (Int32.ofInt x3)))], [.int (Int32.ofInt 0)], zk c m11)) ⟨[zo], _, rfl, ⟨trivial, trivial⟩⟩ rfl ?_
        exact zW.fin (zfin_i rfl rfl rfl) (KR _ _ ⟨0, m11, rfl, rfl, hIm11, (by omega), (by omega), tk15⟩)
      · refine zW.step (st1 := (43, [(some (.ref 10)), (some (.int (Int32.ofInt Lv))), (some (.int (Int32.ofInt begun))), (some (.int (Int32.ofInt x3)))], [], zk c m11)) (st2 := (43, [(some (.ref 10)), (some (.int (Int32.ofInt Lv))), (some (.int (Int32.ofInt begun))), (some (.int (Int32.ofInt x3)))], [], zk c m11)) ⟨[zt], _, rfl, ⟨zbt (fun q => b16 ((zi_eq rfl (rfl : (0 : Int32) = Int32.ofInt 0) (by unfold zR; omega) (⟨by decide, by decide⟩ : zR 0)).mp q)), trivial⟩⟩ rfl ?_
        refine zW.step (st1 := (47, [(some (.ref 10)), (some (.int (Int32.ofInt Lv))), (some (.int (Int32.ofInt begun))), (some (.int (Int32.ofInt x3)))], [.int (Int32.ofInt 0), .int ((Int8.ofInt 13).toInt32), .ref 10], zk c m11)) (st2 := (47, [(some (.ref 10)), (some (.int (Int32.ofInt Lv))), (some (.int (Int32.ofInt begun))), (some (.int (Int32.ofInt x3)))], [.int (Int32.ofInt 0), .int (Int32.ofInt 13), .ref 10], zk c m11)) ⟨[zo, zo, zo], _, rfl, ⟨trivial, trivial, trivial, trivial⟩⟩ (z_steq rfl (z_c1 rfl (z_c1 (z_vi (by decide : (Int8.ofInt 13).toInt32 = Int32.ofInt 13)) rfl)) rfl) ?_
        obtain ⟨r17, m17, hs17, hIm17, z_17, p9_17, kN_17⟩ := S_X10_emit zn (d + 8) hN hC 13 0 m11 hIm11 (by omega) (by omega) (by omega) (by omega)
        refine zW.step (st1 := (50, [(some (.ref 10)), (some (.int (Int32.ofInt Lv))), (some (.int (Int32.ofInt begun))), (some (.int (Int32.ofInt x3)))], [.int (Int32.ofInt r17)], zk c m17)) ⟨[zc (some (.int (Int32.ofInt r17))) (zk c m17)], _, rfl, ⟨⟨⟨(Nat.lt_of_lt_of_le (Nat.le_of_ble_eq_true rfl) hN), (Nat.le_of_ble_eq_true rfl)⟩, hs17, (Nat.le_of_ble_eq_true rfl), Nat.le_refl _, Nat.le_refl _, Nat.le_refl _, Nat.le_refl _⟩, trivial⟩⟩ rfl ?_
        have f18 : (0 : Int) ≤ m17 1 1 ∧ m17 1 1 ≤ 240 := hIm17.1 1 1
        have f19 : (0 : Int) ≤ m17 1 2 ∧ m17 1 2 ≤ 240 := hIm17.1 1 2
        have f20 : (0 : Int) ≤ m17 10 2 ∧ m17 10 2 ≤ 240 := hIm17.1 10 2
        have tk21 : zN m0 m17 := zN_tr tk15 kN_17
        refine zW.step (st1 := (13, [(some (.ref 10)), (some (.int (Int32.ofInt Lv))), (some (.int (Int32.ofInt begun))), (some (.int ((Int32.ofInt x3) + Int32.ofInt 1)))], [], zk c m17)) (st2 := (13, [(some (.ref 10)), (some (.int (Int32.ofInt Lv))), (some (.int (Int32.ofInt begun))), (some (.int (Int32.ofInt (x3 + 1))))], [], zk c m17)) ⟨[zo, zo, zo], _, rfl, ⟨trivial, trivial, trivial, trivial⟩⟩ (z_steq (z_c1 rfl (z_c1 rfl (z_c1 rfl (z_c1 (z_si (zi_add rfl rfl)) rfl)))) rfl rfl) ?_
        exact ih _ (by omega) (x3 + 1) m17 hIm17 (by omega) (by omega) (by omega) tk21 rfl

set_option maxRecDepth 100000 in
set_option maxHeartbeats 4000000 in
theorem S_X10_condition_G (zn : Bool) (d : Nat) {c : Nat × Nat} {mM : zM} (hN : 107 ≤ c.1) (hC : c.1 < z_RO) (begun : Int) (Lv : Int) (h_truths : ∀ (begun : Int) (m : zM) (hIm : zI c mM m) (r_begun : -2147483648 ≤ begun ∧ begun ≤ 2147483647) (hb : 0 ≤ begun ∧ begun ≤ 1), zCi zn (d + 9) 124 [.ref 10, .int (Int32.ofInt Lv), .int (Int32.ofInt begun)] c m (fun (r : Int) (m1 : zM) => zI c mM m1 ∧ (0 ≤ r ∧ r ≤ 1) ∧ (m1 10 2 - m1 1 2 ≤ m 10 2 - m 1 2) ∧ zN m m1)) (m : zM) (hIm : zI c mM m) (r_begun : -2147483648 ≤ begun ∧ begun ≤ 2147483647) (hLv : 0 ≤ Lv ∧ Lv ≤ 6) (hb : 0 ≤ begun ∧ begun ≤ 1) : zCi zn (d + 10) 117 [.ref 10, .int (Int32.ofInt Lv), .int (Int32.ofInt begun)] c m (fun (r : Int) (m1 : zM) => zI c mM m1 ∧ (0 ≤ r ∧ r ≤ 1) ∧ (m1 10 2 - m1 1 2 ≤ m 10 2 - m 1 2) ∧ zN m m1) := by
  refine zCi.of zu_X10_condition hC (Nat.le_of_ble_eq_true rfl) ?_
  show zW zn (d + 9) 117 c (0, [(some (.ref 10)), (some (.int (Int32.ofInt Lv))), (some (.int (Int32.ofInt begun))), none], [], zk c m) (fun v h1 => ∃ (r : Int) (m1 : zM), v = some (.int (Int32.ofInt r)) ∧ h1 = zk c m1 ∧ zI c mM m1 ∧ (0 ≤ r ∧ r ≤ 1) ∧ (m1 10 2 - m1 1 2 ≤ m 10 2 - m 1 2) ∧ zN m m1)
  have f22 : (0 : Int) ≤ m 1 1 ∧ m 1 1 ≤ 240 := hIm.1 1 1
  have f23 : (0 : Int) ≤ m 1 2 ∧ m 1 2 ≤ 240 := hIm.1 1 2
  have f24 : (0 : Int) ≤ m 10 2 ∧ m 10 2 ≤ 240 := hIm.1 10 2
  refine zW.step (st1 := (3, [(some (.ref 10)), (some (.int (Int32.ofInt Lv))), (some (.int (Int32.ofInt begun))), none], [.int (Int32.ofInt begun), .int (Int32.ofInt Lv), .ref 10], zk c m)) (st2 := (3, [(some (.ref 10)), (some (.int (Int32.ofInt Lv))), (some (.int (Int32.ofInt begun))), none], [.int (Int32.ofInt begun), .int (Int32.ofInt Lv), .ref 10], zk c m)) ⟨[zo, zo, zo], _, rfl, ⟨trivial, trivial, trivial, trivial⟩⟩ rfl ?_
  obtain ⟨r25, m25, hs25, hIm25, z_25, p9_25, kN_25⟩ := h_truths begun m hIm (by omega) (by omega)
  refine zW.step (st1 := (6, [(some (.ref 10)), (some (.int (Int32.ofInt Lv))), (some (.int (Int32.ofInt begun))), none], [.int (Int32.ofInt r25)], zk c m25)) ⟨[zc (some (.int (Int32.ofInt r25))) (zk c m25)], _, rfl, ⟨⟨⟨(Nat.lt_of_lt_of_le (Nat.le_of_ble_eq_true rfl) hN), (Nat.le_of_ble_eq_true rfl)⟩, hs25, (Nat.le_of_ble_eq_true rfl), Nat.le_refl _, Nat.le_refl _, Nat.le_refl _, Nat.le_refl _⟩, trivial⟩⟩ rfl ?_
  have f26 : (0 : Int) ≤ m25 1 1 ∧ m25 1 1 ≤ 240 := hIm25.1 1 1
  have f27 : (0 : Int) ≤ m25 1 2 ∧ m25 1 2 ≤ 240 := hIm25.1 1 2
  have f28 : (0 : Int) ≤ m25 10 2 ∧ m25 10 2 ≤ 240 := hIm25.1 10 2
  have tk29 : zN m m25 := zN_tr zN_rf kN_25
  by_cases b30 : r25 = 0
  · refine zW.step (st1 := (9, [(some (.ref 10)), (some (.int (Int32.ofInt Lv))), (some (.int (Int32.ofInt begun))), none], [], zk c m25)) (st2 := (9, [(some (.ref 10)), (some (.int (Int32.ofInt Lv))), (some (.int (Int32.ofInt begun))), none], [], zk c m25)) ⟨[zo], _, rfl, ⟨zbf (fun q => q ((zi_eq rfl (rfl : (0 : Int32) = Int32.ofInt 0) (by unfold zR; omega) (⟨by decide, by decide⟩ : zR 0)).mpr b30)), trivial⟩⟩ rfl ?_
    refine zW.step (st1 := (10, [(some (.ref 10)), (some (.int (Int32.ofInt Lv))), (some (.int (Int32.ofInt begun))), none], [.int (Int32.ofInt 0)], zk c m25)) (st2 := (10, [(some (.ref 10)), (some (.int (Int32.ofInt Lv))), (some (.int (Int32.ofInt begun))), none], [.int (Int32.ofInt 0)], zk c m25)) ⟨[zo], _, rfl, ⟨trivial, trivial⟩⟩ rfl ?_
    exact zW.fin (zfin_i rfl rfl rfl) ⟨0, m25, rfl, rfl, hIm25, (by omega), (by omega), tk29⟩
  · refine zW.step (st1 := (11, [(some (.ref 10)), (some (.int (Int32.ofInt Lv))), (some (.int (Int32.ofInt begun))), none], [], zk c m25)) (st2 := (11, [(some (.ref 10)), (some (.int (Int32.ofInt Lv))), (some (.int (Int32.ofInt begun))), none], [], zk c m25)) ⟨[zt], _, rfl, ⟨zbt (fun q => b30 ((zi_eq rfl (rfl : (0 : Int32) = Int32.ofInt 0) (by unfold zR; omega) (⟨by decide, by decide⟩ : zR 0)).mp q)), trivial⟩⟩ rfl ?_
    refine zW.step (st1 := (13, [(some (.ref 10)), (some (.int (Int32.ofInt Lv))), (some (.int (Int32.ofInt begun))), (some (.int (Int32.ofInt 0)))], [], zk c m25)) (st2 := (13, [(some (.ref 10)), (some (.int (Int32.ofInt Lv))), (some (.int (Int32.ofInt begun))), (some (.int (Int32.ofInt 0)))], [], zk c m25)) ⟨[zo, zo], _, rfl, ⟨trivial, trivial, trivial⟩⟩ rfl ?_
    refine L_X10_condition_G_13 zn _ hN hC begun Lv h_truths r_begun hLv hb m _ (fun v9 h9 hq9 => hq9) (fun x3_31 m_31 hIm_31 i1_31 pt_31 hLw_31 tN_31 => ?_) _ 0 m25 hIm25 (by omega) (by omega) (by omega) tk29 rfl
    have f32 : (0 : Int) ≤ m_31 1 1 ∧ m_31 1 1 ≤ 240 := hIm_31.1 1 1
    have f33 : (0 : Int) ≤ m_31 1 2 ∧ m_31 1 2 ≤ 240 := hIm_31.1 1 2
    have f34 : (0 : Int) ≤ m_31 10 2 ∧ m_31 10 2 ≤ 240 := hIm_31.1 10 2
    refine zW.step (st1 := (58, [(some (.ref 10)), (some (.int (Int32.ofInt Lv))), (some (.int (Int32.ofInt begun))), (some (.int (Int32.ofInt x3_31)))], [.int (Int32.ofInt 1)], zk c m_31)) (st2 := (58, [(some (.ref 10)), (some (.int (Int32.ofInt Lv))), (some (.int (Int32.ofInt begun))), (some (.int (Int32.ofInt x3_31)))], [.int (Int32.ofInt 1)], zk c m_31)) ⟨[zo], _, rfl, ⟨trivial, trivial⟩⟩ rfl ?_
    exact zW.fin (zfin_i rfl rfl rfl) ⟨1, m_31, rfl, rfl, hIm_31, (by omega), (by omega), tN_31⟩

set_option maxRecDepth 100000 in
set_option maxHeartbeats 4000000 in
theorem L_X10_truths_G_13 (zn : Bool) (d : Nat) {c : Nat × Nat} {mM : zM} (hN : 107 ≤ c.1) (hC : c.1 < z_RO) (begun : Int) (Lv : Int) (h_unit : ∀ (begun : Int) (m : zM) (hIm : zI c mM m) (r_begun : -2147483648 ≤ begun ∧ begun ≤ 2147483647) (hb : 0 ≤ begun ∧ begun ≤ 1), zCi zn (d + 8) 125 [.ref 10, .int (Int32.ofInt Lv), .int (Int32.ofInt begun)] c m (fun (r : Int) (m1 : zM) => zI c mM m1 ∧ (0 ≤ r ∧ r ≤ 1) ∧ (m1 10 2 - m1 1 2 ≤ m 10 2 - m 1 2) ∧ zN m m1)) (r_begun : -2147483648 ≤ begun ∧ begun ≤ 2147483647) (hLv : 0 ≤ Lv ∧ Lv ≤ 6) (hb : 0 ≤ begun ∧ begun ≤ 1) (m0 : zM) (Q : Option Value → z_H → Prop) (KR : ∀ v h1, (fun v h1 => ∃ (r : Int) (m1 : zM), v = some (.int (Int32.ofInt r)) ∧ h1 = zk c m1 ∧ zI c mM m1 ∧ (0 ≤ r ∧ r ≤ 1) ∧ (m1 10 2 - m1 1 2 ≤ m0 10 2 - m0 1 2) ∧ zN m0 m1) v h1 → Q v h1) (K : ∀ (x3 : Int) (m : zM), zI c mM m → 0 ≤ x3 ∧ x3 ≤ 240 → m 10 2 - m 1 2 ≤ m0 10 2 - m0 1 2 → 0 ≤ Lv ∧ Lv ≤ 6 → zN m0 m → zW zn (d + 8) 124 c (57, [(some (.ref 10)), (some (.int (Int32.ofInt Lv))), (some (.int (Int32.ofInt begun))), (some (.int (Int32.ofInt x3)))], [], zk c m) Q) :
    ∀ (w : Nat) (x3 : Int) (m : zM), zI c mM m → 0 ≤ x3 ∧ x3 ≤ 240 → m 10 2 - m 1 2 ≤ m0 10 2 - m0 1 2 → 0 ≤ Lv ∧ Lv ≤ 6 → zN m0 m → w = (240 - x3).toNat → zW zn (d + 8) 124 c (13, [(some (.ref 10)), (some (.int (Int32.ofInt Lv))), (some (.int (Int32.ofInt begun))), (some (.int (Int32.ofInt x3)))], [], zk c m) Q := by
  intro w
  induction w using Nat.strongRecOn with | _ w ih => ?_
  intro x3 m hIm i1 pt hLw tN hw
  have f1 : (0 : Int) ≤ m 1 1 ∧ m 1 1 ≤ 240 := hIm.1 1 1
  have f2 : (0 : Int) ≤ m 1 2 ∧ m 1 2 ≤ 240 := hIm.1 1 2
  have f3 : (0 : Int) ≤ m 10 2 ∧ m 10 2 ≤ 240 := hIm.1 10 2
  by_cases b4 : 240 ≤ x3
  · refine zW.step (st1 := (57, [(some (.ref 10)), (some (.int (Int32.ofInt Lv))), (some (.int (Int32.ofInt begun))), (some (.int (Int32.ofInt x3)))], [], zk c m)) (st2 := (57, [(some (.ref 10)), (some (.int (Int32.ofInt Lv))), (some (.int (Int32.ofInt begun))), (some (.int (Int32.ofInt x3)))], [], zk c m)) ⟨[zo, zo, zt], _, rfl, ⟨trivial, trivial, zbt ((zi_le (by decide : (Int16.ofInt 240).toInt32 = Int32.ofInt 240) rfl (⟨by decide, by decide⟩ : zR 240) (by unfold zR; omega)).mpr b4), trivial⟩⟩ rfl ?_
    exact K x3 m hIm (by omega) (by omega) (by omega) tN
  · refine zW.step (st1 := (20, [(some (.ref 10)), (some (.int (Int32.ofInt Lv))), (some (.int (Int32.ofInt begun))), (some (.int (Int32.ofInt x3)))], [], zk c m)) (st2 := (20, [(some (.ref 10)), (some (.int (Int32.ofInt Lv))), (some (.int (Int32.ofInt begun))), (some (.int (Int32.ofInt x3)))], [], zk c m)) ⟨[zo, zo, zo], _, rfl, ⟨trivial, trivial, zbf (fun q => b4 ((zi_le (by decide : (Int16.ofInt 240).toInt32 = Int32.ofInt 240) rfl (⟨by decide, by decide⟩ : zR 240) (by unfold zR; omega)).mp q)), trivial⟩⟩ rfl ?_
    refine zW.step (st1 := (26, [(some (.ref 10)), (some (.int (Int32.ofInt Lv))), (some (.int (Int32.ofInt begun))), (some (.int (Int32.ofInt x3)))], [.int ((Int8.ofInt 38).toInt32), .ref 1], zk c m)) (st2 := (26, [(some (.ref 10)), (some (.int (Int32.ofInt Lv))), (some (.int (Int32.ofInt begun))), (some (.int (Int32.ofInt x3)))], [.int (Int32.ofInt 38), .ref 1], zk c m)) ⟨[zo, zo, zo], _, rfl, ⟨trivial, (Nat.lt_of_lt_of_le (Nat.le_of_ble_eq_true rfl) hN), trivial, trivial⟩⟩ (z_steq rfl (z_c1 (z_vi (by decide : (Int8.ofInt 38).toInt32 = Int32.ofInt 38)) rfl) rfl) ?_
    obtain ⟨r5, m5, hs5, hIm5, z_5, l_5, a9_5, q_5, r9_5, p9_5, n9_5, e2_5, kN_5⟩ := S_X8_takes zn (d + 5) hN hC 38 m hIm (by omega) (by omega)
    refine zW.step (st1 := (29, [(some (.ref 10)), (some (.int (Int32.ofInt Lv))), (some (.int (Int32.ofInt begun))), (some (.int (Int32.ofInt x3)))], [.int (Int32.ofInt r5)], zk c m5)) ⟨[zc (some (.int (Int32.ofInt r5))) (zk c m5)], _, rfl, ⟨⟨⟨(Nat.lt_of_lt_of_le (Nat.le_of_ble_eq_true rfl) hN), (Nat.le_of_ble_eq_true rfl)⟩, hs5, (Nat.le_of_ble_eq_true rfl), Nat.le_refl _, Nat.le_refl _, Nat.le_refl _, Nat.le_refl _⟩, trivial⟩⟩ rfl ?_
    have f6 : (0 : Int) ≤ m5 1 1 ∧ m5 1 1 ≤ 240 := hIm5.1 1 1
    have f7 : (0 : Int) ≤ m5 1 2 ∧ m5 1 2 ≤ 240 := hIm5.1 1 2
    have f8 : (0 : Int) ≤ m5 10 2 ∧ m5 10 2 ≤ 240 := hIm5.1 10 2
    have tk9 : zN m0 m5 := zN_tr tN kN_5
    by_cases b10 : r5 = 0
    · refine zW.step (st1 := (57, [(some (.ref 10)), (some (.int (Int32.ofInt Lv))), (some (.int (Int32.ofInt begun))), (some (.int (Int32.ofInt x3)))], [], zk c m5)) (st2 := (57, [(some (.ref 10)), (some (.int (Int32.ofInt Lv))), (some (.int (Int32.ofInt begun))), (some (.int (Int32.ofInt x3)))], [], zk c m5)) ⟨[zt], _, rfl, ⟨zbt ((zi_eq rfl (rfl : (0 : Int32) = Int32.ofInt 0) (by unfold zR; omega) (⟨by decide, by decide⟩ : zR 0)).mpr b10), trivial⟩⟩ rfl ?_
      exact K x3 m5 hIm5 (by omega) (by omega) (by omega) tk9
    · refine zW.step (st1 := (32, [(some (.ref 10)), (some (.int (Int32.ofInt Lv))), (some (.int (Int32.ofInt begun))), (some (.int (Int32.ofInt x3)))], [], zk c m5)) (st2 := (32, [(some (.ref 10)), (some (.int (Int32.ofInt Lv))), (some (.int (Int32.ofInt begun))), (some (.int (Int32.ofInt x3)))], [], zk c m5)) ⟨[zo], _, rfl, ⟨zbf (fun q => b10 ((zi_eq rfl (rfl : (0 : Int32) = Int32.ofInt 0) (by unfold zR; omega) (⟨by decide, by decide⟩ : zR 0)).mp q)), trivial⟩⟩ rfl ?_
      refine zW.step (st1 := (35, [(some (.ref 10)), (some (.int (Int32.ofInt Lv))), (some (.int (Int32.ofInt begun))), (some (.int (Int32.ofInt x3)))], [.int (Int32.ofInt 0), .int (Int32.ofInt Lv), .ref 10], zk c m5)) (st2 := (35, [(some (.ref 10)), (some (.int (Int32.ofInt Lv))), (some (.int (Int32.ofInt begun))), (some (.int (Int32.ofInt x3)))], [.int (Int32.ofInt 0), .int (Int32.ofInt Lv), .ref 10], zk c m5)) ⟨[zo, zo, zo], _, rfl, ⟨trivial, trivial, trivial, trivial⟩⟩ rfl ?_
      obtain ⟨r11, m11, hs11, hIm11, z_11, p9_11, kN_11⟩ := h_unit 0 m5 hIm5 (by omega) (by omega)
      refine zW.step (st1 := (38, [(some (.ref 10)), (some (.int (Int32.ofInt Lv))), (some (.int (Int32.ofInt begun))), (some (.int (Int32.ofInt x3)))], [.int (Int32.ofInt r11)], zk c m11)) ⟨[zc (some (.int (Int32.ofInt r11))) (zk c m11)], _, rfl, ⟨⟨⟨(Nat.lt_of_lt_of_le (Nat.le_of_ble_eq_true rfl) hN), (Nat.le_of_ble_eq_true rfl)⟩, hs11, (Nat.le_of_ble_eq_true rfl), Nat.le_refl _, Nat.le_refl _, Nat.le_refl _, Nat.le_refl _⟩, trivial⟩⟩ rfl ?_
      have f12 : (0 : Int) ≤ m11 1 1 ∧ m11 1 1 ≤ 240 := hIm11.1 1 1
      have f13 : (0 : Int) ≤ m11 1 2 ∧ m11 1 2 ≤ 240 := hIm11.1 1 2
      have f14 : (0 : Int) ≤ m11 10 2 ∧ m11 10 2 ≤ 240 := hIm11.1 10 2
      have tk15 : zN m0 m11 := zN_tr tk9 kN_11
      by_cases b16 : r11 = 0
      · refine zW.step (st1 := (41, [(some (.ref 10)), (some (.int (Int32.ofInt Lv))), (some (.int (Int32.ofInt begun))), (some (.int (Int32.ofInt x3)))], [], zk c m11)) (st2 := (41, [(some (.ref 10)), (some (.int (Int32.ofInt Lv))), (some (.int (Int32.ofInt begun))), (some (.int (Int32.ofInt x3)))], [], zk c m11)) ⟨[zo], _, rfl, ⟨zbf (fun q => q ((zi_eq rfl (rfl : (0 : Int32) = Int32.ofInt 0) (by unfold zR; omega) (⟨by decide, by decide⟩ : zR 0)).mpr b16)), trivial⟩⟩ rfl ?_
        refine zW.step (st1 := (42, [(some (.ref 10)), (some (.int (Int32.ofInt Lv))), (some (.int (Int32.ofInt begun))), (some (.int (Int32.ofInt x3)))], [.int (Int32.ofInt 0)], zk c m11)) (st2 := (42, [(some (.ref 10)), (some (.int (Int32.ofInt Lv))), (some (.int (Int32.ofInt begun))), (some (.int (Int32.ofInt x3)))], [.int (Int32.ofInt 0)], zk c m11)) ⟨[zo], _, rfl, ⟨trivial, trivial⟩⟩ rfl ?_
        exact zW.fin (zfin_i rfl rfl rfl) (KR _ _ ⟨0, m11, rfl, rfl, hIm11, (by omega), (by omega), tk15⟩)
      · refine zW.step (st1 := (43, [(some (.ref 10)), (some (.int (Int32.ofInt Lv))), (some (.int (Int32.ofInt begun))), (some (.int (Int32.ofInt x3)))], [], zk c m11)) (st2 := (43, [(some (.ref 10)), (some (.int (Int32.ofInt Lv))), (some (.int (Int32.ofInt begun))), (some (.int (Int32.ofInt x3)))], [], zk c m11)) ⟨[zt], _, rfl, ⟨zbt (fun q => b16 ((zi_eq rfl (rfl : (0 : Int32) = Int32.ofInt 0) (by unfold zR; omega) (⟨by decide, by decide⟩ : zR 0)).mp q)), trivial⟩⟩ rfl ?_
        refine zW.step (st1 := (47, [(some (.ref 10)), (some (.int (Int32.ofInt Lv))), (some (.int (Int32.ofInt begun))), (some (.int (Int32.ofInt x3)))], [.int (Int32.ofInt 0), .int ((Int8.ofInt 12).toInt32), .ref 10], zk c m11)) (st2 := (47, [(some (.ref 10)), (some (.int (Int32.ofInt Lv))), (some (.int (Int32.ofInt begun))), (some (.int (Int32.ofInt x3)))], [.int (Int32.ofInt 0), .int (Int32.ofInt 12), .ref 10], zk c m11)) ⟨[zo, zo, zo], _, rfl, ⟨trivial, trivial, trivial, trivial⟩⟩ (z_steq rfl (z_c1 rfl (z_c1 (z_vi (by decide : (Int8.ofInt 12).toInt32 = Int32.ofInt 12)) rfl)) rfl) ?_
        obtain ⟨r17, m17, hs17, hIm17, z_17, p9_17, kN_17⟩ := S_X10_emit zn (d + 7) hN hC 12 0 m11 hIm11 (by omega) (by omega) (by omega) (by omega)
        refine zW.step (st1 := (50, [(some (.ref 10)), (some (.int (Int32.ofInt Lv))), (some (.int (Int32.ofInt begun))), (some (.int (Int32.ofInt x3)))], [.int (Int32.ofInt r17)], zk c m17)) ⟨[zc (some (.int (Int32.ofInt r17))) (zk c m17)], _, rfl, ⟨⟨⟨(Nat.lt_of_lt_of_le (Nat.le_of_ble_eq_true rfl) hN), (Nat.le_of_ble_eq_true rfl)⟩, hs17, (Nat.le_of_ble_eq_true rfl), Nat.le_refl _, Nat.le_refl _, Nat.le_refl _, Nat.le_refl _⟩, trivial⟩⟩ rfl ?_
        have f18 : (0 : Int) ≤ m17 1 1 ∧ m17 1 1 ≤ 240 := hIm17.1 1 1
        have f19 : (0 : Int) ≤ m17 1 2 ∧ m17 1 2 ≤ 240 := hIm17.1 1 2
        have f20 : (0 : Int) ≤ m17 10 2 ∧ m17 10 2 ≤ 240 := hIm17.1 10 2
        have tk21 : zN m0 m17 := zN_tr tk15 kN_17
        refine zW.step (st1 := (13, [(some (.ref 10)), (some (.int (Int32.ofInt Lv))), (some (.int (Int32.ofInt begun))), (some (.int ((Int32.ofInt x3) + Int32.ofInt 1)))], [], zk c m17)) (st2 := (13, [(some (.ref 10)), (some (.int (Int32.ofInt Lv))), (some (.int (Int32.ofInt begun))), (some (.int (Int32.ofInt (x3 + 1))))], [], zk c m17)) ⟨[zo, zo, zo], _, rfl, ⟨trivial, trivial, trivial, trivial⟩⟩ (z_steq (z_c1 rfl (z_c1 rfl (z_c1 rfl (z_c1 (z_si (zi_add rfl rfl)) rfl)))) rfl rfl) ?_
        exact ih _ (by omega) (x3 + 1) m17 hIm17 (by omega) (by omega) (by omega) tk21 rfl

set_option maxRecDepth 100000 in
set_option maxHeartbeats 4000000 in
theorem S_X10_truths_G (zn : Bool) (d : Nat) {c : Nat × Nat} {mM : zM} (hN : 107 ≤ c.1) (hC : c.1 < z_RO) (begun : Int) (Lv : Int) (h_unit : ∀ (begun : Int) (m : zM) (hIm : zI c mM m) (r_begun : -2147483648 ≤ begun ∧ begun ≤ 2147483647) (hb : 0 ≤ begun ∧ begun ≤ 1), zCi zn (d + 8) 125 [.ref 10, .int (Int32.ofInt Lv), .int (Int32.ofInt begun)] c m (fun (r : Int) (m1 : zM) => zI c mM m1 ∧ (0 ≤ r ∧ r ≤ 1) ∧ (m1 10 2 - m1 1 2 ≤ m 10 2 - m 1 2) ∧ zN m m1)) (m : zM) (hIm : zI c mM m) (r_begun : -2147483648 ≤ begun ∧ begun ≤ 2147483647) (hLv : 0 ≤ Lv ∧ Lv ≤ 6) (hb : 0 ≤ begun ∧ begun ≤ 1) : zCi zn (d + 9) 124 [.ref 10, .int (Int32.ofInt Lv), .int (Int32.ofInt begun)] c m (fun (r : Int) (m1 : zM) => zI c mM m1 ∧ (0 ≤ r ∧ r ≤ 1) ∧ (m1 10 2 - m1 1 2 ≤ m 10 2 - m 1 2) ∧ zN m m1) := by
  refine zCi.of zu_X10_truths hC (Nat.le_of_ble_eq_true rfl) ?_
  show zW zn (d + 8) 124 c (0, [(some (.ref 10)), (some (.int (Int32.ofInt Lv))), (some (.int (Int32.ofInt begun))), none], [], zk c m) (fun v h1 => ∃ (r : Int) (m1 : zM), v = some (.int (Int32.ofInt r)) ∧ h1 = zk c m1 ∧ zI c mM m1 ∧ (0 ≤ r ∧ r ≤ 1) ∧ (m1 10 2 - m1 1 2 ≤ m 10 2 - m 1 2) ∧ zN m m1)
  have f22 : (0 : Int) ≤ m 1 1 ∧ m 1 1 ≤ 240 := hIm.1 1 1
  have f23 : (0 : Int) ≤ m 1 2 ∧ m 1 2 ≤ 240 := hIm.1 1 2
  have f24 : (0 : Int) ≤ m 10 2 ∧ m 10 2 ≤ 240 := hIm.1 10 2
  refine zW.step (st1 := (3, [(some (.ref 10)), (some (.int (Int32.ofInt Lv))), (some (.int (Int32.ofInt begun))), none], [.int (Int32.ofInt begun), .int (Int32.ofInt Lv), .ref 10], zk c m)) (st2 := (3, [(some (.ref 10)), (some (.int (Int32.ofInt Lv))), (some (.int (Int32.ofInt begun))), none], [.int (Int32.ofInt begun), .int (Int32.ofInt Lv), .ref 10], zk c m)) ⟨[zo, zo, zo], _, rfl, ⟨trivial, trivial, trivial, trivial⟩⟩ rfl ?_
  obtain ⟨r25, m25, hs25, hIm25, z_25, p9_25, kN_25⟩ := h_unit begun m hIm (by omega) (by omega)
  refine zW.step (st1 := (6, [(some (.ref 10)), (some (.int (Int32.ofInt Lv))), (some (.int (Int32.ofInt begun))), none], [.int (Int32.ofInt r25)], zk c m25)) ⟨[zc (some (.int (Int32.ofInt r25))) (zk c m25)], _, rfl, ⟨⟨⟨(Nat.lt_of_lt_of_le (Nat.le_of_ble_eq_true rfl) hN), (Nat.le_of_ble_eq_true rfl)⟩, hs25, (Nat.le_of_ble_eq_true rfl), Nat.le_refl _, Nat.le_refl _, Nat.le_refl _, Nat.le_refl _⟩, trivial⟩⟩ rfl ?_
  have f26 : (0 : Int) ≤ m25 1 1 ∧ m25 1 1 ≤ 240 := hIm25.1 1 1
  have f27 : (0 : Int) ≤ m25 1 2 ∧ m25 1 2 ≤ 240 := hIm25.1 1 2
  have f28 : (0 : Int) ≤ m25 10 2 ∧ m25 10 2 ≤ 240 := hIm25.1 10 2
  have tk29 : zN m m25 := zN_tr zN_rf kN_25
  by_cases b30 : r25 = 0
  · refine zW.step (st1 := (9, [(some (.ref 10)), (some (.int (Int32.ofInt Lv))), (some (.int (Int32.ofInt begun))), none], [], zk c m25)) (st2 := (9, [(some (.ref 10)), (some (.int (Int32.ofInt Lv))), (some (.int (Int32.ofInt begun))), none], [], zk c m25)) ⟨[zo], _, rfl, ⟨zbf (fun q => q ((zi_eq rfl (rfl : (0 : Int32) = Int32.ofInt 0) (by unfold zR; omega) (⟨by decide, by decide⟩ : zR 0)).mpr b30)), trivial⟩⟩ rfl ?_
    refine zW.step (st1 := (10, [(some (.ref 10)), (some (.int (Int32.ofInt Lv))), (some (.int (Int32.ofInt begun))), none], [.int (Int32.ofInt 0)], zk c m25)) (st2 := (10, [(some (.ref 10)), (some (.int (Int32.ofInt Lv))), (some (.int (Int32.ofInt begun))), none], [.int (Int32.ofInt 0)], zk c m25)) ⟨[zo], _, rfl, ⟨trivial, trivial⟩⟩ rfl ?_
    exact zW.fin (zfin_i rfl rfl rfl) ⟨0, m25, rfl, rfl, hIm25, (by omega), (by omega), tk29⟩
  · refine zW.step (st1 := (11, [(some (.ref 10)), (some (.int (Int32.ofInt Lv))), (some (.int (Int32.ofInt begun))), none], [], zk c m25)) (st2 := (11, [(some (.ref 10)), (some (.int (Int32.ofInt Lv))), (some (.int (Int32.ofInt begun))), none], [], zk c m25)) ⟨[zt], _, rfl, ⟨zbt (fun q => b30 ((zi_eq rfl (rfl : (0 : Int32) = Int32.ofInt 0) (by unfold zR; omega) (⟨by decide, by decide⟩ : zR 0)).mp q)), trivial⟩⟩ rfl ?_
    refine zW.step (st1 := (13, [(some (.ref 10)), (some (.int (Int32.ofInt Lv))), (some (.int (Int32.ofInt begun))), (some (.int (Int32.ofInt 0)))], [], zk c m25)) (st2 := (13, [(some (.ref 10)), (some (.int (Int32.ofInt Lv))), (some (.int (Int32.ofInt begun))), (some (.int (Int32.ofInt 0)))], [], zk c m25)) ⟨[zo, zo], _, rfl, ⟨trivial, trivial, trivial⟩⟩ rfl ?_
    refine L_X10_truths_G_13 zn _ hN hC begun Lv h_unit r_begun hLv hb m _ (fun v9 h9 hq9 => hq9) (fun x3_31 m_31 hIm_31 i1_31 pt_31 hLw_31 tN_31 => ?_) _ 0 m25 hIm25 (by omega) (by omega) (by omega) tk29 rfl
    have f32 : (0 : Int) ≤ m_31 1 1 ∧ m_31 1 1 ≤ 240 := hIm_31.1 1 1
    have f33 : (0 : Int) ≤ m_31 1 2 ∧ m_31 1 2 ≤ 240 := hIm_31.1 1 2
    have f34 : (0 : Int) ≤ m_31 10 2 ∧ m_31 10 2 ≤ 240 := hIm_31.1 10 2
    refine zW.step (st1 := (58, [(some (.ref 10)), (some (.int (Int32.ofInt Lv))), (some (.int (Int32.ofInt begun))), (some (.int (Int32.ofInt x3_31)))], [.int (Int32.ofInt 1)], zk c m_31)) (st2 := (58, [(some (.ref 10)), (some (.int (Int32.ofInt Lv))), (some (.int (Int32.ofInt begun))), (some (.int (Int32.ofInt x3_31)))], [.int (Int32.ofInt 1)], zk c m_31)) ⟨[zo], _, rfl, ⟨trivial, trivial⟩⟩ rfl ?_
    exact zW.fin (zfin_i rfl rfl rfl) ⟨1, m_31, rfl, rfl, hIm_31, (by omega), (by omega), tN_31⟩

