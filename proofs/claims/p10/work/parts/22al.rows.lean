/-! what methods do over memory, by program (wip/tools/gw): X11_count, X5_forget, X5_putBy, X1_hold, X11_hear, X1_lastHeard, X1_agrees, X0_draw, X1_roomOf, X2_begin, X2_pass -/
set_option maxRecDepth 100000 in
set_option maxHeartbeats 4000000 in
theorem S_X11_count (zn : Bool) (d : Nat) {c : Nat × Nat} {mM : zM} (hN : 107 ≤ c.1) (hC : c.1 < z_RO) (what : Int) (m : zM) (hIm : zI c mM m) (r_what : -2147483648 ≤ what ∧ what ≤ 2147483647) : zPi zn (d + 3) 133 [.ref 0, .int (Int32.ofInt what)] c m (fun (r : Int) => (-2147483648 ≤ r ∧ r ≤ 2147483647)) := by
  refine zPi.of zu_X11_count hC (Nat.le_of_ble_eq_true rfl) ?_
  show zW zn (d + 2) 133 c (0, [(some (.ref 0)), (some (.int (Int32.ofInt what)))], [], zk c m) (fun v h1 => ∃ (r : Int), v = some (.int (Int32.ofInt r)) ∧ h1 = zk c m ∧ (-2147483648 ≤ r ∧ r ≤ 2147483647))
  by_cases b1 : what = 0
  · refine zW.step (st1 := (72, [(some (.ref 0)), (some (.int (Int32.ofInt what)))], [], zk c m)) (st2 := (72, [(some (.ref 0)), (some (.int (Int32.ofInt what)))], [], zk c m)) ⟨[zo, (true, 0, none, zh0, none)], _, rfl, ⟨trivial, zts (j := 0) rfl (by unfold zR; omega) (by omega), trivial⟩⟩ rfl ?_
    have f2 : (0 : Int) ≤ m 13 3 ∧ m 13 3 ≤ 5 := hIm.1 13 3
    refine zW.step (st1 := (79, [(some (.ref 0)), (some (.int (Int32.ofInt what)))], [.int (Int32.ofInt (m 13 3))], zk c m)) (st2 := (79, [(some (.ref 0)), (some (.int (Int32.ofInt what)))], [.int (Int32.ofInt (m 13 3))], zk c m)) ⟨[zo, zo, zo], _, rfl, ⟨trivial, (Nat.lt_of_lt_of_le (Nat.le_of_ble_eq_true rfl) hN), (Nat.lt_of_lt_of_le (Nat.le_of_ble_eq_true rfl) hN), trivial⟩⟩ rfl ?_
    exact zW.fin (zfin_i rfl rfl rfl) ⟨m 13 3, rfl, rfl, (by omega)⟩
  by_cases b3 : what = 1
  · refine zW.step (st1 := (80, [(some (.ref 0)), (some (.int (Int32.ofInt what)))], [], zk c m)) (st2 := (80, [(some (.ref 0)), (some (.int (Int32.ofInt what)))], [], zk c m)) ⟨[zo, (true, 1, none, zh0, none)], _, rfl, ⟨trivial, zts (j := 1) rfl (by unfold zR; omega) (by omega), trivial⟩⟩ rfl ?_
    have f4 : (0 : Int) ≤ m 17 185 ∧ m 17 185 ≤ 10 := zr_c hIm zS_17
    refine zW.step (st1 := (88, [(some (.ref 0)), (some (.int (Int32.ofInt what)))], [.int (Int32.ofInt (m 17 ((Int16.ofInt 185).toInt32).toNatClampNeg))], zk c m)) (st2 := (88, [(some (.ref 0)), (some (.int (Int32.ofInt what)))], [.int (Int32.ofInt (m 17 185))], zk c m)) ⟨[zo, zo, zo, (false, 0, none, zh0, some (.inl (0, 188, .inl (fun j => Int32.ofInt (m 17 j)))))], _, rfl, ⟨trivial, (Nat.lt_of_lt_of_le (Nat.le_of_ble_eq_true rfl) hN), trivial, ⟨zk_ra c m zA_17 (Nat.lt_of_lt_of_le (Nat.le_of_ble_eq_true rfl) hN), zi_in (by decide : (Int16.ofInt 185).toInt32 = Int32.ofInt 185) (by omega) (by omega) (by omega)⟩, trivial⟩⟩ (z_steq rfl (z_c1 (z_vi ((zk_rd (f := m 17) (by decide : (Int16.ofInt 185).toInt32 = Int32.ofInt 185) (⟨by decide, by decide⟩ : zR 185)).trans rfl : Int32.ofInt (m 17 ((Int16.ofInt 185).toInt32).toNatClampNeg) = Int32.ofInt (m 17 185))) rfl) rfl) ?_
    exact zW.fin (zfin_i rfl rfl rfl) ⟨m 17 185, rfl, rfl, (by omega)⟩
  by_cases b5 : what = 2
  · refine zW.step (st1 := (89, [(some (.ref 0)), (some (.int (Int32.ofInt what)))], [], zk c m)) (st2 := (89, [(some (.ref 0)), (some (.int (Int32.ofInt what)))], [], zk c m)) ⟨[zo, (true, 2, none, zh0, none)], _, rfl, ⟨trivial, zts (j := 2) rfl (by unfold zR; omega) (by omega), trivial⟩⟩ rfl ?_
    have f6 : (0 : Int) ≤ m 13 4 ∧ m 13 4 ≤ 6 := hIm.1 13 4
    refine zW.step (st1 := (96, [(some (.ref 0)), (some (.int (Int32.ofInt what)))], [.int (Int32.ofInt (m 13 4))], zk c m)) (st2 := (96, [(some (.ref 0)), (some (.int (Int32.ofInt what)))], [.int (Int32.ofInt (m 13 4))], zk c m)) ⟨[zo, zo, zo], _, rfl, ⟨trivial, (Nat.lt_of_lt_of_le (Nat.le_of_ble_eq_true rfl) hN), (Nat.lt_of_lt_of_le (Nat.le_of_ble_eq_true rfl) hN), trivial⟩⟩ rfl ?_
    exact zW.fin (zfin_i rfl rfl rfl) ⟨m 13 4, rfl, rfl, (by omega)⟩
  by_cases b7 : what = 3
  · refine zW.step (st1 := (97, [(some (.ref 0)), (some (.int (Int32.ofInt what)))], [], zk c m)) (st2 := (97, [(some (.ref 0)), (some (.int (Int32.ofInt what)))], [], zk c m)) ⟨[zo, (true, 3, none, zh0, none)], _, rfl, ⟨trivial, zts (j := 3) rfl (by unfold zR; omega) (by omega), trivial⟩⟩ rfl ?_
    have f8 : (0 : Int) ≤ m 0 13 ∧ m 0 13 ≤ 4 := hIm.1 0 13
    refine zW.step (st1 := (101, [(some (.ref 0)), (some (.int (Int32.ofInt what)))], [.int (Int32.ofInt (m 0 13))], zk c m)) (st2 := (101, [(some (.ref 0)), (some (.int (Int32.ofInt what)))], [.int (Int32.ofInt (m 0 13))], zk c m)) ⟨[zo, zo], _, rfl, ⟨trivial, (Nat.lt_of_lt_of_le (Nat.le_of_ble_eq_true rfl) hN), trivial⟩⟩ rfl ?_
    exact zW.fin (zfin_i rfl rfl rfl) ⟨m 0 13, rfl, rfl, (by omega)⟩
  by_cases b9 : what = 4
  · refine zW.step (st1 := (102, [(some (.ref 0)), (some (.int (Int32.ofInt what)))], [], zk c m)) (st2 := (102, [(some (.ref 0)), (some (.int (Int32.ofInt what)))], [], zk c m)) ⟨[zo, (true, 4, none, zh0, none)], _, rfl, ⟨trivial, zts (j := 4) rfl (by unfold zR; omega) (by omega), trivial⟩⟩ rfl ?_
    have f10 : (0 : Int) ≤ m 1 1 ∧ m 1 1 ≤ 240 := hIm.1 1 1
    refine zW.step (st1 := (109, [(some (.ref 0)), (some (.int (Int32.ofInt what)))], [.int (Int32.ofInt (m 1 1))], zk c m)) (st2 := (109, [(some (.ref 0)), (some (.int (Int32.ofInt what)))], [.int (Int32.ofInt (m 1 1))], zk c m)) ⟨[zo, zo, zo], _, rfl, ⟨trivial, (Nat.lt_of_lt_of_le (Nat.le_of_ble_eq_true rfl) hN), (Nat.lt_of_lt_of_le (Nat.le_of_ble_eq_true rfl) hN), trivial⟩⟩ rfl ?_
    exact zW.fin (zfin_i rfl rfl rfl) ⟨m 1 1, rfl, rfl, (by omega)⟩
  by_cases b11 : what = 5
  · refine zW.step (st1 := (110, [(some (.ref 0)), (some (.int (Int32.ofInt what)))], [], zk c m)) (st2 := (110, [(some (.ref 0)), (some (.int (Int32.ofInt what)))], [], zk c m)) ⟨[zo, (true, 5, none, zh0, none)], _, rfl, ⟨trivial, zts (j := 5) rfl (by unfold zR; omega) (by omega), trivial⟩⟩ rfl ?_
    have f12 : (-1 : Int) ≤ m 0 14 ∧ m 0 14 ≤ 3 := hIm.1 0 14
    refine zW.step (st1 := (114, [(some (.ref 0)), (some (.int (Int32.ofInt what)))], [.int (Int32.ofInt (m 0 14))], zk c m)) (st2 := (114, [(some (.ref 0)), (some (.int (Int32.ofInt what)))], [.int (Int32.ofInt (m 0 14))], zk c m)) ⟨[zo, zo], _, rfl, ⟨trivial, (Nat.lt_of_lt_of_le (Nat.le_of_ble_eq_true rfl) hN), trivial⟩⟩ rfl ?_
    exact zW.fin (zfin_i rfl rfl rfl) ⟨m 0 14, rfl, rfl, (by omega)⟩
  by_cases b13 : what = 6
  · refine zW.step (st1 := (115, [(some (.ref 0)), (some (.int (Int32.ofInt what)))], [], zk c m)) (st2 := (115, [(some (.ref 0)), (some (.int (Int32.ofInt what)))], [], zk c m)) ⟨[zo, (true, 6, none, zh0, none)], _, rfl, ⟨trivial, zts (j := 6) rfl (by unfold zR; omega) (by omega), trivial⟩⟩ rfl ?_
    have f14 : (0 : Int) ≤ m 17 184 ∧ m 17 184 ≤ 1000000000 := zr_h hIm zS_17
    refine zW.step (st1 := (123, [(some (.ref 0)), (some (.int (Int32.ofInt what)))], [.int (Int32.ofInt (m 17 ((Int16.ofInt 184).toInt32).toNatClampNeg))], zk c m)) (st2 := (123, [(some (.ref 0)), (some (.int (Int32.ofInt what)))], [.int (Int32.ofInt (m 17 184))], zk c m)) ⟨[zo, zo, zo, (false, 0, none, zh0, some (.inl (0, 188, .inl (fun j => Int32.ofInt (m 17 j)))))], _, rfl, ⟨trivial, (Nat.lt_of_lt_of_le (Nat.le_of_ble_eq_true rfl) hN), trivial, ⟨zk_ra c m zA_17 (Nat.lt_of_lt_of_le (Nat.le_of_ble_eq_true rfl) hN), zi_in (by decide : (Int16.ofInt 184).toInt32 = Int32.ofInt 184) (by omega) (by omega) (by omega)⟩, trivial⟩⟩ (z_steq rfl (z_c1 (z_vi ((zk_rd (f := m 17) (by decide : (Int16.ofInt 184).toInt32 = Int32.ofInt 184) (⟨by decide, by decide⟩ : zR 184)).trans rfl : Int32.ofInt (m 17 ((Int16.ofInt 184).toInt32).toNatClampNeg) = Int32.ofInt (m 17 184))) rfl) rfl) ?_
    exact zW.fin (zfin_i rfl rfl rfl) ⟨m 17 184, rfl, rfl, (by omega)⟩
  by_cases b15 : what = 7
  · refine zW.step (st1 := (124, [(some (.ref 0)), (some (.int (Int32.ofInt what)))], [], zk c m)) (st2 := (124, [(some (.ref 0)), (some (.int (Int32.ofInt what)))], [], zk c m)) ⟨[zo, (true, 7, none, zh0, none)], _, rfl, ⟨trivial, zts (j := 7) rfl (by unfold zR; omega) (by omega), trivial⟩⟩ rfl ?_
    have f16 : (0 : Int) ≤ m 68 0 ∧ m 68 0 ≤ 99 := hIm.1 68 0
    refine zW.step (st1 := (131, [(some (.ref 0)), (some (.int (Int32.ofInt what)))], [.int (Int32.ofInt (m 68 0))], zk c m)) (st2 := (131, [(some (.ref 0)), (some (.int (Int32.ofInt what)))], [.int (Int32.ofInt (m 68 0))], zk c m)) ⟨[zo, zo, zo], _, rfl, ⟨trivial, (Nat.lt_of_lt_of_le (Nat.le_of_ble_eq_true rfl) hN), (Nat.lt_of_lt_of_le (Nat.le_of_ble_eq_true rfl) hN), trivial⟩⟩ rfl ?_
    exact zW.fin (zfin_i rfl rfl rfl) ⟨m 68 0, rfl, rfl, (by omega)⟩
  by_cases b17 : what = 8
  · refine zW.step (st1 := (132, [(some (.ref 0)), (some (.int (Int32.ofInt what)))], [], zk c m)) (st2 := (132, [(some (.ref 0)), (some (.int (Int32.ofInt what)))], [], zk c m)) ⟨[zo, (true, 8, none, zh0, none)], _, rfl, ⟨trivial, zts (j := 8) rfl (by unfold zR; omega) (by omega), trivial⟩⟩ rfl ?_
    refine zW.step (st1 := (133, [(some (.ref 0)), (some (.int (Int32.ofInt what)))], [.ref 0], zk c m)) (st2 := (133, [(some (.ref 0)), (some (.int (Int32.ofInt what)))], [.ref 0], zk c m)) ⟨[zo], _, rfl, ⟨trivial, trivial⟩⟩ rfl ?_
    obtain ⟨r18, hs18, q_18⟩ := S_X11_living zn (d + 0) hN hC m hIm
    refine zW.step (st1 := (136, [(some (.ref 0)), (some (.int (Int32.ofInt what)))], [.int (Int32.ofInt r18)], zk c m)) ⟨[zc (some (.int (Int32.ofInt r18))) (zk c m)], _, rfl, ⟨⟨⟨(Nat.lt_of_lt_of_le (Nat.le_of_ble_eq_true rfl) hN), (Nat.le_of_ble_eq_true rfl)⟩, hs18, (Nat.le_of_ble_eq_true rfl), Nat.le_refl _, Nat.le_refl _, Nat.le_refl _, Nat.le_refl _⟩, trivial⟩⟩ rfl ?_
    exact zW.fin (zfin_i rfl rfl rfl) ⟨r18, rfl, rfl, (by omega)⟩
  by_cases b19 : what = 9
  · refine zW.step (st1 := (137, [(some (.ref 0)), (some (.int (Int32.ofInt what)))], [], zk c m)) (st2 := (137, [(some (.ref 0)), (some (.int (Int32.ofInt what)))], [], zk c m)) ⟨[zo, (true, 9, none, zh0, none)], _, rfl, ⟨trivial, zts (j := 9) rfl (by unfold zR; omega) (by omega), trivial⟩⟩ rfl ?_
    have f20 : (0 : Int) ≤ m 75 5 ∧ m 75 5 ≤ 6 := hIm.1 75 5
    refine zW.step (st1 := (144, [(some (.ref 0)), (some (.int (Int32.ofInt what)))], [.int (Int32.ofInt (m 75 5))], zk c m)) (st2 := (144, [(some (.ref 0)), (some (.int (Int32.ofInt what)))], [.int (Int32.ofInt (m 75 5))], zk c m)) ⟨[zo, zo, zo], _, rfl, ⟨trivial, (Nat.lt_of_lt_of_le (Nat.le_of_ble_eq_true rfl) hN), (Nat.lt_of_lt_of_le (Nat.le_of_ble_eq_true rfl) hN), trivial⟩⟩ rfl ?_
    exact zW.fin (zfin_i rfl rfl rfl) ⟨m 75 5, rfl, rfl, (by omega)⟩
  by_cases b21 : what = 10
  · refine zW.step (st1 := (145, [(some (.ref 0)), (some (.int (Int32.ofInt what)))], [], zk c m)) (st2 := (145, [(some (.ref 0)), (some (.int (Int32.ofInt what)))], [], zk c m)) ⟨[zo, (true, 10, none, zh0, none)], _, rfl, ⟨trivial, zts (j := 10) rfl (by unfold zR; omega) (by omega), trivial⟩⟩ rfl ?_
    have f22 : (0 : Int) ≤ m 23 5 ∧ m 23 5 ≤ 40 := hIm.1 23 5
    refine zW.step (st1 := (152, [(some (.ref 0)), (some (.int (Int32.ofInt what)))], [.int (Int32.ofInt (m 23 5))], zk c m)) (st2 := (152, [(some (.ref 0)), (some (.int (Int32.ofInt what)))], [.int (Int32.ofInt (m 23 5))], zk c m)) ⟨[zo, zo, zo], _, rfl, ⟨trivial, (Nat.lt_of_lt_of_le (Nat.le_of_ble_eq_true rfl) hN), (Nat.lt_of_lt_of_le (Nat.le_of_ble_eq_true rfl) hN), trivial⟩⟩ rfl ?_
    exact zW.fin (zfin_i rfl rfl rfl) ⟨m 23 5, rfl, rfl, (by omega)⟩
  by_cases b23 : what = 11
  · refine zW.step (st1 := (153, [(some (.ref 0)), (some (.int (Int32.ofInt what)))], [], zk c m)) (st2 := (153, [(some (.ref 0)), (some (.int (Int32.ofInt what)))], [], zk c m)) ⟨[zo, (true, 11, none, zh0, none)], _, rfl, ⟨trivial, zts (j := 11) rfl (by unfold zR; omega) (by omega), trivial⟩⟩ rfl ?_
    refine zW.step (st1 := (157, [(some (.ref 0)), (some (.int (Int32.ofInt what)))], [.ref 23], zk c m)) (st2 := (157, [(some (.ref 0)), (some (.int (Int32.ofInt what)))], [.ref 23], zk c m)) ⟨[zo, zo], _, rfl, ⟨trivial, (Nat.lt_of_lt_of_le (Nat.le_of_ble_eq_true rfl) hN), trivial⟩⟩ rfl ?_
    obtain ⟨r24, hs24, q_24⟩ := S_X5_hoursPutBy zn (d + 1) hN hC m hIm
    refine zW.step (st1 := (160, [(some (.ref 0)), (some (.int (Int32.ofInt what)))], [.int (Int32.ofInt r24)], zk c m)) ⟨[zc (some (.int (Int32.ofInt r24))) (zk c m)], _, rfl, ⟨⟨⟨(Nat.lt_of_lt_of_le (Nat.le_of_ble_eq_true rfl) hN), (Nat.le_of_ble_eq_true rfl)⟩, hs24, (Nat.le_of_ble_eq_true rfl), Nat.le_refl _, Nat.le_refl _, Nat.le_refl _, Nat.le_refl _⟩, trivial⟩⟩ rfl ?_
    exact zW.fin (zfin_i rfl rfl rfl) ⟨r24, rfl, rfl, (by omega)⟩
  by_cases b25 : what = 12
  · refine zW.step (st1 := (161, [(some (.ref 0)), (some (.int (Int32.ofInt what)))], [], zk c m)) (st2 := (161, [(some (.ref 0)), (some (.int (Int32.ofInt what)))], [], zk c m)) ⟨[zo, (true, 12, none, zh0, none)], _, rfl, ⟨trivial, zts (j := 12) rfl (by unfold zR; omega) (by omega), trivial⟩⟩ rfl ?_
    have f26 : (-2147483648 : Int) ≤ m 17 186 ∧ m 17 186 ≤ 2147483647 := zr_i hIm zS_17 186
    refine zW.step (st1 := (169, [(some (.ref 0)), (some (.int (Int32.ofInt what)))], [.int (Int32.ofInt (m 17 ((Int16.ofInt 186).toInt32).toNatClampNeg))], zk c m)) (st2 := (169, [(some (.ref 0)), (some (.int (Int32.ofInt what)))], [.int (Int32.ofInt (m 17 186))], zk c m)) ⟨[zo, zo, zo, (false, 0, none, zh0, some (.inl (0, 188, .inl (fun j => Int32.ofInt (m 17 j)))))], _, rfl, ⟨trivial, (Nat.lt_of_lt_of_le (Nat.le_of_ble_eq_true rfl) hN), trivial, ⟨zk_ra c m zA_17 (Nat.lt_of_lt_of_le (Nat.le_of_ble_eq_true rfl) hN), zi_in (by decide : (Int16.ofInt 186).toInt32 = Int32.ofInt 186) (by omega) (by omega) (by omega)⟩, trivial⟩⟩ (z_steq rfl (z_c1 (z_vi ((zk_rd (f := m 17) (by decide : (Int16.ofInt 186).toInt32 = Int32.ofInt 186) (⟨by decide, by decide⟩ : zR 186)).trans rfl : Int32.ofInt (m 17 ((Int16.ofInt 186).toInt32).toNatClampNeg) = Int32.ofInt (m 17 186))) rfl) rfl) ?_
    exact zW.fin (zfin_i rfl rfl rfl) ⟨m 17 186, rfl, rfl, (by omega)⟩
  by_cases b27 : what = 13
  · refine zW.step (st1 := (170, [(some (.ref 0)), (some (.int (Int32.ofInt what)))], [], zk c m)) (st2 := (170, [(some (.ref 0)), (some (.int (Int32.ofInt what)))], [], zk c m)) ⟨[zo, (true, 13, none, zh0, none)], _, rfl, ⟨trivial, zts (j := 13) rfl (by unfold zR; omega) (by omega), trivial⟩⟩ rfl ?_
    have f28 : (-2147483648 : Int) ≤ m 17 187 ∧ m 17 187 ≤ 2147483647 := zr_i hIm zS_17 187
    refine zW.step (st1 := (178, [(some (.ref 0)), (some (.int (Int32.ofInt what)))], [.int (Int32.ofInt (m 17 ((Int16.ofInt 187).toInt32).toNatClampNeg))], zk c m)) (st2 := (178, [(some (.ref 0)), (some (.int (Int32.ofInt what)))], [.int (Int32.ofInt (m 17 187))], zk c m)) ⟨[zo, zo, zo, (false, 0, none, zh0, some (.inl (0, 188, .inl (fun j => Int32.ofInt (m 17 j)))))], _, rfl, ⟨trivial, (Nat.lt_of_lt_of_le (Nat.le_of_ble_eq_true rfl) hN), trivial, ⟨zk_ra c m zA_17 (Nat.lt_of_lt_of_le (Nat.le_of_ble_eq_true rfl) hN), zi_in (by decide : (Int16.ofInt 187).toInt32 = Int32.ofInt 187) (by omega) (by omega) (by omega)⟩, trivial⟩⟩ (z_steq rfl (z_c1 (z_vi ((zk_rd (f := m 17) (by decide : (Int16.ofInt 187).toInt32 = Int32.ofInt 187) (⟨by decide, by decide⟩ : zR 187)).trans rfl : Int32.ofInt (m 17 ((Int16.ofInt 187).toInt32).toNatClampNeg) = Int32.ofInt (m 17 187))) rfl) rfl) ?_
    exact zW.fin (zfin_i rfl rfl rfl) ⟨m 17 187, rfl, rfl, (by omega)⟩
  refine zW.step (st1 := (179, [(some (.ref 0)), (some (.int (Int32.ofInt what)))], [], zk c m)) (st2 := (179, [(some (.ref 0)), (some (.int (Int32.ofInt what)))], [], zk c m)) ⟨[zo, zo], _, rfl, ⟨trivial, ztdf rfl (by unfold zR; omega) (by omega), trivial⟩⟩ rfl ?_
  refine zW.step (st1 := (182, [(some (.ref 0)), (some (.int (Int32.ofInt what)))], [.int (-1000000 : Int32)], zk c m)) (st2 := (182, [(some (.ref 0)), (some (.int (Int32.ofInt what)))], [.int (Int32.ofInt (-1000000))], zk c m)) ⟨[zo], _, rfl, ⟨trivial, trivial⟩⟩ (z_steq rfl (z_c1 (z_vi (by decide : (-1000000 : Int32) = Int32.ofInt (-1000000))) rfl) rfl) ?_
  exact zW.fin (zfin_i rfl rfl rfl) ⟨(-1000000), rfl, rfl, (by omega)⟩

set_option maxRecDepth 100000 in
set_option maxHeartbeats 4000000 in
theorem S_X5_forget (zn : Bool) (d : Nat) {c : Nat × Nat} {mM : zM} (hN : 107 ≤ c.1) (hC : c.1 < z_RO) (m : zM) (hIm : zI c mM m) : zCv zn (d + 1) 84 [.ref 23] c m (fun (m1 : zM) => zI c mM m1 ∧ zN m m1) := by
  refine zCv.of zu_X5_forget hC (Nat.le_of_ble_eq_true rfl) ?_
  show zW zn (d + 0) 84 c (0, [(some (.ref 23))], [], zk c m) (fun v h1 => ∃ (m1 : zM), v = none ∧ h1 = zk c m1 ∧ zI c mM m1 ∧ zN m m1)
  obtain ⟨m1, hm1⟩ : ∃ q, q = zm_up m 23 5 0 := ⟨_, rfl⟩
  have hIm1 : zI c mM m1 := by rw [hm1]; exact zI_up hIm (by unfold zOk; omega) (show (0 : Int) ≤ 0 ∧ 0 ≤ 40 by omega)
  have em1 : m1 23 5 = 0 := by rw [hm1]; exact zm_eq
  have tk2 : zN m m1 := by rw [hm1]; exact zN_up zN_rf (by unfold zRow; omega)
  refine zW.step (st1 := (5, [(some (.ref 23))], [], z_hup (zk c m) 23 (.inr (5, [.ref 24, .ref 65, .ref 66, .ref 67, .int (Int32.ofInt (m 23 4)), .int (Int32.ofInt 0), .int (Int32.ofInt (m 23 6)), .int (Int32.ofInt (m 23 7)), .int (Int32.ofInt (m 23 8))])))) (st2 := (5, [(some (.ref 23))], [], zk c m1)) ⟨[zo, zo, zo], _, rfl, ⟨trivial, trivial, ⟨(Nat.lt_of_lt_of_le (Nat.le_of_ble_eq_true rfl) hN), rfl, rfl⟩, trivial⟩⟩ (z_steq rfl rfl ((zk_up c m 23 5 0 _ rfl).trans (by rw [hm1]))) ?_
  obtain ⟨m3, hm3⟩ : ∃ q, q = zm_up m1 23 7 0 := ⟨_, rfl⟩
  have hIm3 : zI c mM m3 := by rw [hm3]; exact zI_up hIm1 (by unfold zOk; omega) (show (0 : Int) ≤ 0 ∧ 0 ≤ 100 by omega)
  have em3 : m3 23 7 = 0 := by rw [hm3]; exact zm_eq
  have tk4 : zN m m3 := by rw [hm3]; exact zN_up tk2 (by unfold zRow; omega)
  clear tk2
  refine zW.step (st1 := (10, [(some (.ref 23))], [], z_hup (zk c m1) 23 (.inr (5, [.ref 24, .ref 65, .ref 66, .ref 67, .int (Int32.ofInt (m1 23 4)), .int (Int32.ofInt (m1 23 5)), .int (Int32.ofInt (m1 23 6)), .int (Int32.ofInt 0), .int (Int32.ofInt (m1 23 8))])))) (st2 := (10, [(some (.ref 23))], [], zk c m3)) ⟨[zo, zo, zo], _, rfl, ⟨trivial, trivial, ⟨(Nat.lt_of_lt_of_le (Nat.le_of_ble_eq_true rfl) hN), rfl, rfl⟩, trivial⟩⟩ (z_steq rfl rfl ((zk_up c m1 23 7 0 _ rfl).trans (by rw [hm3]))) ?_
  clear em1
  obtain ⟨m5, hm5⟩ : ∃ q, q = zm_up m3 23 4 0 := ⟨_, rfl⟩
  have hIm5 : zI c mM m5 := by rw [hm5]; exact zI_up hIm3 (by unfold zOk; omega) (show (0 : Int) ≤ 0 ∧ 0 ≤ 1 by omega)
  have em5 : m5 23 4 = 0 := by rw [hm5]; exact zm_eq
  have tk6 : zN m m5 := by rw [hm5]; exact zN_up tk4 (by unfold zRow; omega)
  clear tk4
  refine zW.step (st1 := (15, [(some (.ref 23))], [], z_hup (zk c m3) 23 (.inr (5, [.ref 24, .ref 65, .ref 66, .ref 67, .int (Int32.ofInt 0), .int (Int32.ofInt (m3 23 5)), .int (Int32.ofInt (m3 23 6)), .int (Int32.ofInt (m3 23 7)), .int (Int32.ofInt (m3 23 8))])))) (st2 := (15, [(some (.ref 23))], [], zk c m5)) ⟨[zo, zo, zo], _, rfl, ⟨trivial, trivial, ⟨(Nat.lt_of_lt_of_le (Nat.le_of_ble_eq_true rfl) hN), (z_narZ rfl (by omega)), rfl⟩, trivial⟩⟩ (z_steq rfl rfl ((zk_up c m3 23 4 0 _ rfl).trans (by rw [hm5]))) ?_
  clear em3
  exact zW.fin (zfin_v rfl rfl) ⟨m5, rfl, rfl, hIm5, tk6⟩

set_option maxRecDepth 100000 in
set_option maxHeartbeats 4000000 in
theorem S_X5_putBy (zn : Bool) (d : Nat) {c : Nat × Nat} {mM : zM} (hN : 107 ≤ c.1) (hC : c.1 < z_RO) (m : zM) (hIm : zI c mM m) : zCv zn (d + 1) 89 [.ref 23, .ref 18] c m (fun (m1 : zM) => zI c mM m1 ∧ zN m m1) := by
  refine zCv.of zu_X5_putBy hC (Nat.le_of_ble_eq_true rfl) ?_
  show zW zn (d + 0) 89 c (0, [(some (.ref 23)), (some (.ref 18)), none], [], zk c m) (fun v h1 => ∃ (m1 : zM), v = none ∧ h1 = zk c m1 ∧ zI c mM m1 ∧ zN m m1)
  have f1 : (0 : Int) ≤ m 23 8 ∧ m 23 8 ≤ 99 := hIm.1 23 8
  have f2 : (-2147483648 : Int) ≤ m 18 3 ∧ m 18 3 ≤ 2147483647 := hIm.1 18 3
  obtain ⟨m3, hm3⟩ : ∃ q, q = zm_up m 66 (((m 23 8) * 4).toNat) (m 18 3) := ⟨_, rfl⟩
  have hIm3 : zI c mM m3 := by rw [hm3]; exact zI_up hIm (by unfold zOk; omega) (show (-2147483648 : Int) ≤ (m 18 3) ∧ (m 18 3) ≤ 2147483647 by omega)
  have em3 : m3 66 (((m 23 8) * 4).toNat) = (m 18 3) := by rw [hm3]; exact zm_eq
  have tk4 : zN m m3 := by rw [hm3]; exact zN_up zN_rf (by unfold zRow; omega)
  refine zW.step (st1 := (17, [(some (.ref 23)), (some (.ref 18)), (some (.int ((Int32.ofInt (m 23 8)) * (Int32.ofInt 4))))], [], z_hup (zk c m) 66 (.inl (0, 400, .inl (upd (fun j => Int32.ofInt (m 66 j)) ((Int32.ofInt (m 23 8)) * (Int32.ofInt 4)).toNatClampNeg (Int32.ofInt (m 18 3))))))) (st2 := (17, [(some (.ref 23)), (some (.ref 18)), (some (.int (Int32.ofInt ((m 23 8) * 4))))], [], zk c m3)) ⟨[zo, zo, zo, zo, zo, zo, zo, zo, zo, zo, (false, 0, none, zh0, some (.inl (0, 400, .inl (fun j => Int32.ofInt (m 66 j)))))], _, rfl, ⟨trivial, (Nat.lt_of_lt_of_le (Nat.le_of_ble_eq_true rfl) hN), trivial, trivial, trivial, trivial, (Nat.lt_of_lt_of_le (Nat.le_of_ble_eq_true rfl) hN), trivial, trivial, (Nat.lt_of_lt_of_le (Nat.le_of_ble_eq_true rfl) hN), ⟨zk_ra c m zA_66 (Nat.lt_of_lt_of_le (Nat.le_of_ble_eq_true rfl) hN), zi_in (zi_mul rfl rfl) (by omega) (by omega) (by omega)⟩, trivial⟩⟩ (z_steq (z_c1 rfl (z_c1 rfl (z_c1 (z_si (zi_mul rfl rfl)) rfl))) rfl ((zk_ias c m zA_66 (zi_mul rfl rfl) (by unfold zR; omega) rfl).trans (by rw [hm3]))) ?_
  clear f2
  have f5 : (-2147483648 : Int) ≤ m3 18 4 ∧ m3 18 4 ≤ 2147483647 := hIm3.1 18 4
  obtain ⟨m6, hm6⟩ : ∃ q, q = zm_up m3 66 ((((m 23 8) * 4) + 1).toNat) (m3 18 4) := ⟨_, rfl⟩
  have hIm6 : zI c mM m6 := by rw [hm6]; exact zI_up hIm3 (by unfold zOk; omega) (show (-2147483648 : Int) ≤ (m3 18 4) ∧ (m3 18 4) ≤ 2147483647 by omega)
  have em6 : m6 66 ((((m 23 8) * 4) + 1).toNat) = (m3 18 4) := by rw [hm6]; exact zm_eq
  have tk7 : zN m m6 := by rw [hm6]; exact zN_up tk4 (by unfold zRow; omega)
  clear tk4
  refine zW.step (st1 := (29, [(some (.ref 23)), (some (.ref 18)), (some (.int (Int32.ofInt ((m 23 8) * 4))))], [], z_hup (zk c m3) 66 (.inl (0, 400, .inl (upd (fun j => Int32.ofInt (m3 66 j)) ((Int32.ofInt ((m 23 8) * 4)) + (Int32.ofInt 1)).toNatClampNeg (Int32.ofInt (m3 18 4))))))) (st2 := (29, [(some (.ref 23)), (some (.ref 18)), (some (.int (Int32.ofInt ((m 23 8) * 4))))], [], zk c m6)) ⟨[zo, zo, zo, zo, zo, zo, zo, (false, 0, none, zh0, some (.inl (0, 400, .inl (fun j => Int32.ofInt (m3 66 j)))))], _, rfl, ⟨trivial, (Nat.lt_of_lt_of_le (Nat.le_of_ble_eq_true rfl) hN), trivial, trivial, trivial, trivial, (Nat.lt_of_lt_of_le (Nat.le_of_ble_eq_true rfl) hN), ⟨zk_ra c m3 zA_66 (Nat.lt_of_lt_of_le (Nat.le_of_ble_eq_true rfl) hN), zi_in (zi_add rfl rfl) (by omega) (by omega) (by omega)⟩, trivial⟩⟩ (z_steq rfl rfl ((zk_ias c m3 zA_66 (zi_add rfl rfl) (by unfold zR; omega) rfl).trans (by rw [hm6]))) ?_
  clear f5
  have f8 : (-2147483648 : Int) ≤ m6 18 5 ∧ m6 18 5 ≤ 2147483647 := hIm6.1 18 5
  obtain ⟨m9, hm9⟩ : ∃ q, q = zm_up m6 66 ((((m 23 8) * 4) + 2).toNat) (m6 18 5) := ⟨_, rfl⟩
  have hIm9 : zI c mM m9 := by rw [hm9]; exact zI_up hIm6 (by unfold zOk; omega) (show (-2147483648 : Int) ≤ (m6 18 5) ∧ (m6 18 5) ≤ 2147483647 by omega)
  have em9 : m9 66 ((((m 23 8) * 4) + 2).toNat) = (m6 18 5) := by rw [hm9]; exact zm_eq
  have tk10 : zN m m9 := by rw [hm9]; exact zN_up tk7 (by unfold zRow; omega)
  clear tk7
  refine zW.step (st1 := (41, [(some (.ref 23)), (some (.ref 18)), (some (.int (Int32.ofInt ((m 23 8) * 4))))], [], z_hup (zk c m6) 66 (.inl (0, 400, .inl (upd (fun j => Int32.ofInt (m6 66 j)) ((Int32.ofInt ((m 23 8) * 4)) + (Int32.ofInt 2)).toNatClampNeg (Int32.ofInt (m6 18 5))))))) (st2 := (41, [(some (.ref 23)), (some (.ref 18)), (some (.int (Int32.ofInt ((m 23 8) * 4))))], [], zk c m9)) ⟨[zo, zo, zo, zo, zo, zo, zo, (false, 0, none, zh0, some (.inl (0, 400, .inl (fun j => Int32.ofInt (m6 66 j)))))], _, rfl, ⟨trivial, (Nat.lt_of_lt_of_le (Nat.le_of_ble_eq_true rfl) hN), trivial, trivial, trivial, trivial, (Nat.lt_of_lt_of_le (Nat.le_of_ble_eq_true rfl) hN), ⟨zk_ra c m6 zA_66 (Nat.lt_of_lt_of_le (Nat.le_of_ble_eq_true rfl) hN), zi_in (zi_add rfl rfl) (by omega) (by omega) (by omega)⟩, trivial⟩⟩ (z_steq rfl rfl ((zk_ias c m6 zA_66 (zi_add rfl rfl) (by unfold zR; omega) rfl).trans (by rw [hm9]))) ?_
  clear f8
  have f11 : (-2147483648 : Int) ≤ m9 18 6 ∧ m9 18 6 ≤ 2147483647 := hIm9.1 18 6
  obtain ⟨m12, hm12⟩ : ∃ q, q = zm_up m9 66 ((((m 23 8) * 4) + 3).toNat) (m9 18 6) := ⟨_, rfl⟩
  have hIm12 : zI c mM m12 := by rw [hm12]; exact zI_up hIm9 (by unfold zOk; omega) (show (-2147483648 : Int) ≤ (m9 18 6) ∧ (m9 18 6) ≤ 2147483647 by omega)
  have em12 : m12 66 ((((m 23 8) * 4) + 3).toNat) = (m9 18 6) := by rw [hm12]; exact zm_eq
  have tk13 : zN m m12 := by rw [hm12]; exact zN_up tk10 (by unfold zRow; omega)
  clear tk10
  refine zW.step (st1 := (53, [(some (.ref 23)), (some (.ref 18)), (some (.int (Int32.ofInt ((m 23 8) * 4))))], [], z_hup (zk c m9) 66 (.inl (0, 400, .inl (upd (fun j => Int32.ofInt (m9 66 j)) ((Int32.ofInt ((m 23 8) * 4)) + (Int32.ofInt 3)).toNatClampNeg (Int32.ofInt (m9 18 6))))))) (st2 := (53, [(some (.ref 23)), (some (.ref 18)), (some (.int (Int32.ofInt ((m 23 8) * 4))))], [], zk c m12)) ⟨[zo, zo, zo, zo, zo, zo, zo, (false, 0, none, zh0, some (.inl (0, 400, .inl (fun j => Int32.ofInt (m9 66 j)))))], _, rfl, ⟨trivial, (Nat.lt_of_lt_of_le (Nat.le_of_ble_eq_true rfl) hN), trivial, trivial, trivial, trivial, (Nat.lt_of_lt_of_le (Nat.le_of_ble_eq_true rfl) hN), ⟨zk_ra c m9 zA_66 (Nat.lt_of_lt_of_le (Nat.le_of_ble_eq_true rfl) hN), zi_in (zi_add rfl rfl) (by omega) (by omega) (by omega)⟩, trivial⟩⟩ (z_steq rfl rfl ((zk_ias c m9 zA_66 (zi_add rfl rfl) (by unfold zR; omega) rfl).trans (by rw [hm12]))) ?_
  clear f11
  have f14 : (0 : Int) ≤ m12 23 8 ∧ m12 23 8 ≤ 99 := hIm12.1 23 8
  have f15 := ztm9 ((m12 23 8) + 1) 100
  have f16 := ztml ((m12 23 8) + 1) 100
  obtain ⟨m17, hm17⟩ : ∃ q, q = zm_up m12 23 8 (Int.tmod ((m12 23 8) + 1) 100) := ⟨_, rfl⟩
  have hIm17 : zI c mM m17 := by rw [hm17]; exact zI_up hIm12 (by unfold zOk; omega) (show (0 : Int) ≤ (Int.tmod ((m12 23 8) + 1) 100) ∧ (Int.tmod ((m12 23 8) + 1) 100) ≤ 99 by omega)
  have em17 : m17 23 8 = (Int.tmod ((m12 23 8) + 1) 100) := by rw [hm17]; exact zm_eq
  have tk18 : zN m m17 := by rw [hm17]; exact zN_up tk13 (by unfold zRow; omega)
  clear tk13
  refine zW.step (st1 := (66, [(some (.ref 23)), (some (.ref 18)), (some (.int (Int32.ofInt ((m 23 8) * 4))))], [], z_hup (zk c m12) 23 (.inr (5, [.ref 24, .ref 65, .ref 66, .ref 67, .int (Int32.ofInt (m12 23 4)), .int (Int32.ofInt (m12 23 5)), .int (Int32.ofInt (m12 23 6)), .int (Int32.ofInt (m12 23 7)), .int (((Int32.ofInt (m12 23 8)) + (Int32.ofInt 1)) - ((Int32.ofInt (m12 23 8)) + (Int32.ofInt 1)) / ((Int8.ofInt 100).toInt32) * ((Int8.ofInt 100).toInt32))])))) (st2 := (66, [(some (.ref 23)), (some (.ref 18)), (some (.int (Int32.ofInt ((m 23 8) * 4))))], [], zk c m17)) ⟨[zo, zo, zo, zo, zo, zo, zo, zo], _, rfl, ⟨trivial, trivial, (Nat.lt_of_lt_of_le (Nat.le_of_ble_eq_true rfl) hN), trivial, trivial, trivial, zi_nz (by decide : (Int8.ofInt 100).toInt32 = Int32.ofInt 100) (⟨by decide, by decide⟩ : zR 100) (by omega), ⟨(Nat.lt_of_lt_of_le (Nat.le_of_ble_eq_true rfl) hN), rfl, rfl⟩, trivial⟩⟩ (z_steq rfl rfl ((zk_up c m12 23 8 (Int.tmod ((m12 23 8) + 1) 100) _ ((congrArg (fun q => (.inr (5, [.ref 24, .ref 65, .ref 66, .ref 67, .int (Int32.ofInt (m12 23 4)), .int (Int32.ofInt (m12 23 5)), .int (Int32.ofInt (m12 23 6)), .int (Int32.ofInt (m12 23 7)), .int q]) : z_E)) (zi_rem (zi_add rfl rfl) (by decide : (Int8.ofInt 100).toInt32 = Int32.ofInt 100) (by unfold zR; omega) (⟨by decide, by decide⟩ : zR 100))).trans rfl)).trans (by rw [hm17]))) ?_
  clear f14 f15 f16 em17
  have f19 : (0 : Int) ≤ m17 23 7 ∧ m17 23 7 ≤ 100 := hIm17.1 23 7
  obtain ⟨m20, hm20⟩ : ∃ q, q = zm_up m17 23 7 (min 100 ((m17 23 7) + 1)) := ⟨_, rfl⟩
  have hIm20 : zI c mM m20 := by rw [hm20]; exact zI_up hIm17 (by unfold zOk; omega) (show (0 : Int) ≤ (min 100 ((m17 23 7) + 1)) ∧ (min 100 ((m17 23 7) + 1)) ≤ 100 by omega)
  have em20 : m20 23 7 = (min 100 ((m17 23 7) + 1)) := by rw [hm20]; exact zm_eq
  have tk21 : zN m m20 := by rw [hm20]; exact zN_up tk18 (by unfold zRow; omega)
  clear tk18
  refine zW.step (st1 := (81, [(some (.ref 23)), (some (.ref 18)), (some (.int (Int32.ofInt ((m 23 8) * 4))))], [], z_hup (zk c m17) 23 (.inr (5, [.ref 24, .ref 65, .ref 66, .ref 67, .int (Int32.ofInt (m17 23 4)), .int (Int32.ofInt (m17 23 5)), .int (Int32.ofInt (m17 23 6)), .int (if ((Int32.ofInt (m17 23 7)) + (Int32.ofInt 1)) < ((Int8.ofInt 100).toInt32) then ((Int32.ofInt (m17 23 7)) + (Int32.ofInt 1)) else ((Int8.ofInt 100).toInt32)), .int (Int32.ofInt (m17 23 8))])))) (st2 := (81, [(some (.ref 23)), (some (.ref 18)), (some (.int (Int32.ofInt ((m 23 8) * 4))))], [], zk c m20)) ⟨[zo, zo, zo, zo, zo, zo, zo, zo], _, rfl, ⟨trivial, trivial, trivial, (Nat.lt_of_lt_of_le (Nat.le_of_ble_eq_true rfl) hN), trivial, trivial, ⟨(Nat.le_of_ble_eq_true rfl), Nat.le_refl _, Nat.le_refl _⟩, ⟨(Nat.lt_of_lt_of_le (Nat.le_of_ble_eq_true rfl) hN), rfl, rfl⟩, trivial⟩⟩ (z_steq rfl rfl ((zk_up c m17 23 7 (min 100 ((m17 23 7) + 1)) _ ((congrArg (fun q => (.inr (5, [.ref 24, .ref 65, .ref 66, .ref 67, .int (Int32.ofInt (m17 23 4)), .int (Int32.ofInt (m17 23 5)), .int (Int32.ofInt (m17 23 6)), .int q, .int (Int32.ofInt (m17 23 8))]) : z_E)) (zi_min (by decide : (Int8.ofInt 100).toInt32 = Int32.ofInt 100) (zi_add rfl rfl) (⟨by decide, by decide⟩ : zR 100) (by unfold zR; omega))).trans rfl)).trans (by rw [hm20]))) ?_
  clear f19 em20
  exact zW.fin (zfin_v rfl rfl) ⟨m20, rfl, rfl, hIm20, tk21⟩

set_option maxRecDepth 100000 in
set_option maxHeartbeats 4000000 in
theorem S_X1_hold (zn : Bool) (d : Nat) {c : Nat × Nat} {mM : zM} (hN : 107 ≤ c.1) (hC : c.1 < z_RO) (hour : Int) (strikes : Int) (m : zM) (hIm : zI c mM m) (r_hour : -2147483648 ≤ hour ∧ hour ≤ 2147483647) (r_strikes : -2147483648 ≤ strikes ∧ strikes ≤ 2147483647) (hh : 0 ≤ hour ∧ hour ≤ 6) : zCi zn (d + 1) 41 [.ref 75, .int (Int32.ofInt hour), .int (Int32.ofInt strikes)] c m (fun (r : Int) (m1 : zM) => zI c mM m1 ∧ (-1 ≤ r ∧ r ≤ 6) ∧ zN m m1) := by
  refine zCi.of zu_X1_hold hC (Nat.le_of_ble_eq_true rfl) ?_
  show zW zn (d + 0) 41 c (0, [(some (.ref 75)), (some (.int (Int32.ofInt hour))), (some (.int (Int32.ofInt strikes)))], [], zk c m) (fun v h1 => ∃ (r : Int) (m1 : zM), v = some (.int (Int32.ofInt r)) ∧ h1 = zk c m1 ∧ zI c mM m1 ∧ (-1 ≤ r ∧ r ≤ 6) ∧ zN m m1)
  have f1 : (0 : Int) ≤ m 75 5 ∧ m 75 5 ≤ 6 := hIm.1 75 5
  by_cases b2 : (m 75 5) < 6
  · refine zW.step (st1 := (11, [(some (.ref 75)), (some (.int (Int32.ofInt hour))), (some (.int (Int32.ofInt strikes)))], [], zk c m)) (st2 := (11, [(some (.ref 75)), (some (.int (Int32.ofInt hour))), (some (.int (Int32.ofInt strikes)))], [], zk c m)) ⟨[zo, zo, zo, zt], _, rfl, ⟨trivial, (Nat.lt_of_lt_of_le (Nat.le_of_ble_eq_true rfl) hN), trivial, zbt ((zi_lt rfl (by decide : (Int8.ofInt 6).toInt32 = Int32.ofInt 6) (by unfold zR; omega) (⟨by decide, by decide⟩ : zR 6)).mpr b2), trivial⟩⟩ rfl ?_
    obtain ⟨m3, hm3⟩ : ∃ q, q = zm_up m 77 ((m 75 5).toNat) hour := ⟨_, rfl⟩
    have hIm3 : zI c mM m3 := by rw [hm3]; exact zI_up hIm (by unfold zOk; omega) (show (0 : Int) ≤ hour ∧ hour ≤ 6 by omega)
    have em3 : m3 77 ((m 75 5).toNat) = hour := by rw [hm3]; exact zm_eq
    have f4 : m3 75 5 = m 75 5 := by rw [hm3]; exact zm_ne (by omega)
    have tk5 : zN m m3 := by rw [hm3]; exact zN_up zN_rf (by unfold zRow; omega)
    refine zW.step (st1 := (21, [(some (.ref 75)), (some (.int (Int32.ofInt hour))), (some (.int (Int32.ofInt strikes)))], [], z_hup (zk c m) 77 (.inl (0, 6, .inl (upd (fun j => Int32.ofInt (m 77 j)) (Int32.ofInt (m 75 5)).toNatClampNeg (Int32.ofInt hour)))))) (st2 := (21, [(some (.ref 75)), (some (.int (Int32.ofInt hour))), (some (.int (Int32.ofInt strikes)))], [], zk c m3)) ⟨[zo, zo, zo, zo, zo, (false, 0, none, zh0, some (.inl (0, 6, .inl (fun j => Int32.ofInt (m 77 j)))))], _, rfl, ⟨trivial, (Nat.lt_of_lt_of_le (Nat.le_of_ble_eq_true rfl) hN), trivial, (Nat.lt_of_lt_of_le (Nat.le_of_ble_eq_true rfl) hN), trivial, ⟨zk_ra c m zA_77 (Nat.lt_of_lt_of_le (Nat.le_of_ble_eq_true rfl) hN), zi_in rfl (by omega) (by omega) (by omega)⟩, trivial⟩⟩ (z_steq rfl rfl ((zk_ias c m zA_77 rfl (by unfold zR; omega) rfl).trans (by rw [hm3]))) ?_
    have f6 : (0 : Int) ≤ m3 75 5 ∧ m3 75 5 ≤ 6 := hIm3.1 75 5
    obtain ⟨m7, hm7⟩ : ∃ q, q = zm_up m3 78 ((m3 75 5).toNat) strikes := ⟨_, rfl⟩
    have hIm7 : zI c mM m7 := by rw [hm7]; exact zI_up hIm3 (by unfold zOk; omega) (show (-2147483648 : Int) ≤ strikes ∧ strikes ≤ 2147483647 by omega)
    have em7 : m7 78 ((m3 75 5).toNat) = strikes := by rw [hm7]; exact zm_eq
    have f8 : m7 75 5 = m3 75 5 := by rw [hm7]; exact zm_ne (by omega)
    have tk9 : zN m m7 := by rw [hm7]; exact zN_up tk5 (by unfold zRow; omega)
    clear tk5
    refine zW.step (st1 := (31, [(some (.ref 75)), (some (.int (Int32.ofInt hour))), (some (.int (Int32.ofInt strikes)))], [], z_hup (zk c m3) 78 (.inl (0, 6, .inl (upd (fun j => Int32.ofInt (m3 78 j)) (Int32.ofInt (m3 75 5)).toNatClampNeg (Int32.ofInt strikes)))))) (st2 := (31, [(some (.ref 75)), (some (.int (Int32.ofInt hour))), (some (.int (Int32.ofInt strikes)))], [], zk c m7)) ⟨[zo, zo, zo, zo, zo, (false, 0, none, zh0, some (.inl (0, 6, .inl (fun j => Int32.ofInt (m3 78 j)))))], _, rfl, ⟨trivial, (Nat.lt_of_lt_of_le (Nat.le_of_ble_eq_true rfl) hN), trivial, (Nat.lt_of_lt_of_le (Nat.le_of_ble_eq_true rfl) hN), trivial, ⟨zk_ra c m3 zA_78 (Nat.lt_of_lt_of_le (Nat.le_of_ble_eq_true rfl) hN), zi_in rfl (by omega) (by omega) (by omega)⟩, trivial⟩⟩ (z_steq rfl rfl ((zk_ias c m3 zA_78 rfl (by unfold zR; omega) rfl).trans (by rw [hm7]))) ?_
    have f10 : (0 : Int) ≤ m7 75 5 ∧ m7 75 5 ≤ 6 := hIm7.1 75 5
    obtain ⟨m11, hm11⟩ : ∃ q, q = zm_up m7 75 5 ((m7 75 5) + 1) := ⟨_, rfl⟩
    have hIm11 : zI c mM m11 := by rw [hm11]; exact zI_up hIm7 (by unfold zOk; omega) (show (0 : Int) ≤ ((m7 75 5) + 1) ∧ ((m7 75 5) + 1) ≤ 6 by omega)
    have em11 : m11 75 5 = ((m7 75 5) + 1) := by rw [hm11]; exact zm_eq
    have tk12 : zN m m11 := by rw [hm11]; exact zN_up tk9 (by unfold zRow; omega)
    clear tk9
    refine zW.step (st1 := (41, [(some (.ref 75)), (some (.int (Int32.ofInt hour))), (some (.int (Int32.ofInt strikes)))], [], z_hup (zk c m7) 75 (.inr (1, [.ref 13, .ref 18, .ref 76, .ref 77, .ref 78, .int ((Int32.ofInt (m7 75 5)) + (Int32.ofInt 1))])))) (st2 := (41, [(some (.ref 75)), (some (.int (Int32.ofInt hour))), (some (.int (Int32.ofInt strikes)))], [], zk c m11)) ⟨[zo, zo, zo, zo, zo, zo], _, rfl, ⟨trivial, trivial, (Nat.lt_of_lt_of_le (Nat.le_of_ble_eq_true rfl) hN), trivial, trivial, ⟨(Nat.lt_of_lt_of_le (Nat.le_of_ble_eq_true rfl) hN), rfl, rfl⟩, trivial⟩⟩ (z_steq rfl rfl ((zk_up c m7 75 5 ((m7 75 5) + 1) _ ((congrArg (fun q => (.inr (1, [.ref 13, .ref 18, .ref 76, .ref 77, .ref 78, .int q]) : z_E)) (zi_add rfl rfl)).trans rfl)).trans (by rw [hm11]))) ?_
    have f13 : (0 : Int) ≤ m11 75 5 ∧ m11 75 5 ≤ 6 := hIm11.1 75 5
    refine zW.step (st1 := (45, [(some (.ref 75)), (some (.int (Int32.ofInt hour))), (some (.int (Int32.ofInt strikes)))], [.int (Int32.ofInt (m11 75 5))], zk c m11)) (st2 := (45, [(some (.ref 75)), (some (.int (Int32.ofInt hour))), (some (.int (Int32.ofInt strikes)))], [.int (Int32.ofInt (m11 75 5))], zk c m11)) ⟨[zo, zo], _, rfl, ⟨trivial, (Nat.lt_of_lt_of_le (Nat.le_of_ble_eq_true rfl) hN), trivial⟩⟩ rfl ?_
    exact zW.fin (zfin_i rfl rfl rfl) ⟨m11 75 5, m11, rfl, rfl, hIm11, (by omega), tk12⟩
  · refine zW.step (st1 := (9, [(some (.ref 75)), (some (.int (Int32.ofInt hour))), (some (.int (Int32.ofInt strikes)))], [], zk c m)) (st2 := (9, [(some (.ref 75)), (some (.int (Int32.ofInt hour))), (some (.int (Int32.ofInt strikes)))], [], zk c m)) ⟨[zo, zo, zo, zo], _, rfl, ⟨trivial, (Nat.lt_of_lt_of_le (Nat.le_of_ble_eq_true rfl) hN), trivial, zbf (fun q => b2 ((zi_lt rfl (by decide : (Int8.ofInt 6).toInt32 = Int32.ofInt 6) (by unfold zR; omega) (⟨by decide, by decide⟩ : zR 6)).mp q)), trivial⟩⟩ rfl ?_
    refine zW.step (st1 := (10, [(some (.ref 75)), (some (.int (Int32.ofInt hour))), (some (.int (Int32.ofInt strikes)))], [.int (Int32.ofInt (-1))], zk c m)) (st2 := (10, [(some (.ref 75)), (some (.int (Int32.ofInt hour))), (some (.int (Int32.ofInt strikes)))], [.int (Int32.ofInt (-1))], zk c m)) ⟨[zo], _, rfl, ⟨trivial, trivial⟩⟩ rfl ?_
    exact zW.fin (zfin_i rfl rfl rfl) ⟨(-1), m, rfl, rfl, hIm, (by omega), zN_rf⟩

set_option maxRecDepth 100000 in
set_option maxHeartbeats 4000000 in
theorem S_X11_hear (zn : Bool) (d : Nat) {c : Nat × Nat} {mM : zM} (hN : 107 ≤ c.1) (hC : c.1 < z_RO) (hour : Int) (strikes : Int) (m : zM) (hIm : zI c mM m) (r_hour : -2147483648 ≤ hour ∧ hour ≤ 2147483647) (r_strikes : -2147483648 ≤ strikes ∧ strikes ≤ 2147483647) : zCi zn (d + 2) 147 [.ref 0, .int (Int32.ofInt hour), .int (Int32.ofInt strikes)] c m (fun (r : Int) (m1 : zM) => zI c mM m1 ∧ (-1 ≤ r ∧ r ≤ 6) ∧ zN m m1) := by
  refine zCi.of zu_X11_hear hC (Nat.le_of_ble_eq_true rfl) ?_
  show zW zn (d + 1) 147 c (0, [(some (.ref 0)), (some (.int (Int32.ofInt hour))), (some (.int (Int32.ofInt strikes)))], [], zk c m) (fun v h1 => ∃ (r : Int) (m1 : zM), v = some (.int (Int32.ofInt r)) ∧ h1 = zk c m1 ∧ zI c mM m1 ∧ (-1 ≤ r ∧ r ≤ 6) ∧ zN m m1)
  have f1 : (0 : Int) ≤ m 0 12 ∧ m 0 12 ≤ 1 := hIm.1 0 12
  by_cases b2 : (m 0 12) = 0
  · refine zW.step (st1 := (29, [(some (.ref 0)), (some (.int (Int32.ofInt hour))), (some (.int (Int32.ofInt strikes)))], [], zk c m)) (st2 := (29, [(some (.ref 0)), (some (.int (Int32.ofInt hour))), (some (.int (Int32.ofInt strikes)))], [], zk c m)) ⟨[zo, zo, zt], _, rfl, ⟨trivial, (Nat.lt_of_lt_of_le (Nat.le_of_ble_eq_true rfl) hN), zbt ((zi_eq rfl (rfl : (0 : Int32) = Int32.ofInt 0) (by unfold zR; omega) (⟨by decide, by decide⟩ : zR 0)).mpr b2), trivial⟩⟩ rfl ?_
    refine zW.step (st1 := (30, [(some (.ref 0)), (some (.int (Int32.ofInt hour))), (some (.int (Int32.ofInt strikes)))], [.int (Int32.ofInt (-1))], zk c m)) (st2 := (30, [(some (.ref 0)), (some (.int (Int32.ofInt hour))), (some (.int (Int32.ofInt strikes)))], [.int (Int32.ofInt (-1))], zk c m)) ⟨[zo], _, rfl, ⟨trivial, trivial⟩⟩ rfl ?_
    exact zW.fin (zfin_i rfl rfl rfl) ⟨(-1), m, rfl, rfl, hIm, (by omega), zN_rf⟩
  · refine zW.step (st1 := (7, [(some (.ref 0)), (some (.int (Int32.ofInt hour))), (some (.int (Int32.ofInt strikes)))], [], zk c m)) (st2 := (7, [(some (.ref 0)), (some (.int (Int32.ofInt hour))), (some (.int (Int32.ofInt strikes)))], [], zk c m)) ⟨[zo, zo, zo], _, rfl, ⟨trivial, (Nat.lt_of_lt_of_le (Nat.le_of_ble_eq_true rfl) hN), zbf (fun q => b2 ((zi_eq rfl (rfl : (0 : Int32) = Int32.ofInt 0) (by unfold zR; omega) (⟨by decide, by decide⟩ : zR 0)).mp q)), trivial⟩⟩ rfl ?_
    by_cases b3 : hour < 1
    · refine zW.step (st1 := (29, [(some (.ref 0)), (some (.int (Int32.ofInt hour))), (some (.int (Int32.ofInt strikes)))], [], zk c m)) (st2 := (29, [(some (.ref 0)), (some (.int (Int32.ofInt hour))), (some (.int (Int32.ofInt strikes)))], [], zk c m)) ⟨[zo, zo, zt], _, rfl, ⟨trivial, trivial, zbt ((zi_lt rfl rfl (by unfold zR; omega) (⟨by decide, by decide⟩ : zR 1)).mpr b3), trivial⟩⟩ rfl ?_
      refine zW.step (st1 := (30, [(some (.ref 0)), (some (.int (Int32.ofInt hour))), (some (.int (Int32.ofInt strikes)))], [.int (Int32.ofInt (-1))], zk c m)) (st2 := (30, [(some (.ref 0)), (some (.int (Int32.ofInt hour))), (some (.int (Int32.ofInt strikes)))], [.int (Int32.ofInt (-1))], zk c m)) ⟨[zo], _, rfl, ⟨trivial, trivial⟩⟩ rfl ?_
      exact zW.fin (zfin_i rfl rfl rfl) ⟨(-1), m, rfl, rfl, hIm, (by omega), zN_rf⟩
    · refine zW.step (st1 := (12, [(some (.ref 0)), (some (.int (Int32.ofInt hour))), (some (.int (Int32.ofInt strikes)))], [], zk c m)) (st2 := (12, [(some (.ref 0)), (some (.int (Int32.ofInt hour))), (some (.int (Int32.ofInt strikes)))], [], zk c m)) ⟨[zo, zo, zo], _, rfl, ⟨trivial, trivial, zbf (fun q => b3 ((zi_lt rfl rfl (by unfold zR; omega) (⟨by decide, by decide⟩ : zR 1)).mp q)), trivial⟩⟩ rfl ?_
      by_cases b4 : 6 < hour
      · refine zW.step (st1 := (29, [(some (.ref 0)), (some (.int (Int32.ofInt hour))), (some (.int (Int32.ofInt strikes)))], [], zk c m)) (st2 := (29, [(some (.ref 0)), (some (.int (Int32.ofInt hour))), (some (.int (Int32.ofInt strikes)))], [], zk c m)) ⟨[zo, zo, zt], _, rfl, ⟨trivial, trivial, zbt ((zi_lt (by decide : (Int8.ofInt 6).toInt32 = Int32.ofInt 6) rfl (⟨by decide, by decide⟩ : zR 6) (by unfold zR; omega)).mpr b4), trivial⟩⟩ rfl ?_
        refine zW.step (st1 := (30, [(some (.ref 0)), (some (.int (Int32.ofInt hour))), (some (.int (Int32.ofInt strikes)))], [.int (Int32.ofInt (-1))], zk c m)) (st2 := (30, [(some (.ref 0)), (some (.int (Int32.ofInt hour))), (some (.int (Int32.ofInt strikes)))], [.int (Int32.ofInt (-1))], zk c m)) ⟨[zo], _, rfl, ⟨trivial, trivial⟩⟩ rfl ?_
        exact zW.fin (zfin_i rfl rfl rfl) ⟨(-1), m, rfl, rfl, hIm, (by omega), zN_rf⟩
      · refine zW.step (st1 := (18, [(some (.ref 0)), (some (.int (Int32.ofInt hour))), (some (.int (Int32.ofInt strikes)))], [], zk c m)) (st2 := (18, [(some (.ref 0)), (some (.int (Int32.ofInt hour))), (some (.int (Int32.ofInt strikes)))], [], zk c m)) ⟨[zo, zo, zo], _, rfl, ⟨trivial, trivial, zbf (fun q => b4 ((zi_lt (by decide : (Int8.ofInt 6).toInt32 = Int32.ofInt 6) rfl (⟨by decide, by decide⟩ : zR 6) (by unfold zR; omega)).mp q)), trivial⟩⟩ rfl ?_
        by_cases b5 : strikes < 0
        · refine zW.step (st1 := (29, [(some (.ref 0)), (some (.int (Int32.ofInt hour))), (some (.int (Int32.ofInt strikes)))], [], zk c m)) (st2 := (29, [(some (.ref 0)), (some (.int (Int32.ofInt hour))), (some (.int (Int32.ofInt strikes)))], [], zk c m)) ⟨[zo, zt], _, rfl, ⟨trivial, zbt ((zi_lt rfl (rfl : (0 : Int32) = Int32.ofInt 0) (by unfold zR; omega) (⟨by decide, by decide⟩ : zR 0)).mpr b5), trivial⟩⟩ rfl ?_
          refine zW.step (st1 := (30, [(some (.ref 0)), (some (.int (Int32.ofInt hour))), (some (.int (Int32.ofInt strikes)))], [.int (Int32.ofInt (-1))], zk c m)) (st2 := (30, [(some (.ref 0)), (some (.int (Int32.ofInt hour))), (some (.int (Int32.ofInt strikes)))], [.int (Int32.ofInt (-1))], zk c m)) ⟨[zo], _, rfl, ⟨trivial, trivial⟩⟩ rfl ?_
          exact zW.fin (zfin_i rfl rfl rfl) ⟨(-1), m, rfl, rfl, hIm, (by omega), zN_rf⟩
        · refine zW.step (st1 := (22, [(some (.ref 0)), (some (.int (Int32.ofInt hour))), (some (.int (Int32.ofInt strikes)))], [], zk c m)) (st2 := (22, [(some (.ref 0)), (some (.int (Int32.ofInt hour))), (some (.int (Int32.ofInt strikes)))], [], zk c m)) ⟨[zo, zo], _, rfl, ⟨trivial, zbf (fun q => b5 ((zi_lt rfl (rfl : (0 : Int32) = Int32.ofInt 0) (by unfold zR; omega) (⟨by decide, by decide⟩ : zR 0)).mp q)), trivial⟩⟩ rfl ?_
          by_cases b6 : strikes ≤ 999
          · refine zW.step (st1 := (31, [(some (.ref 0)), (some (.int (Int32.ofInt hour))), (some (.int (Int32.ofInt strikes)))], [], zk c m)) (st2 := (31, [(some (.ref 0)), (some (.int (Int32.ofInt hour))), (some (.int (Int32.ofInt strikes)))], [], zk c m)) ⟨[zo, zo, zt], _, rfl, ⟨trivial, trivial, zbt ((zi_le rfl (by decide : (Int16.ofInt 999).toInt32 = Int32.ofInt 999) (by unfold zR; omega) (⟨by decide, by decide⟩ : zR 999)).mpr b6), trivial⟩⟩ rfl ?_
            refine zW.step (st1 := (37, [(some (.ref 0)), (some (.int (Int32.ofInt hour))), (some (.int (Int32.ofInt strikes)))], [.int (Int32.ofInt strikes), .int (Int32.ofInt hour), .ref 75], zk c m)) (st2 := (37, [(some (.ref 0)), (some (.int (Int32.ofInt hour))), (some (.int (Int32.ofInt strikes)))], [.int (Int32.ofInt strikes), .int (Int32.ofInt hour), .ref 75], zk c m)) ⟨[zo, zo, zo, zo], _, rfl, ⟨trivial, (Nat.lt_of_lt_of_le (Nat.le_of_ble_eq_true rfl) hN), trivial, trivial, trivial⟩⟩ rfl ?_
            obtain ⟨r7, m7, hs7, hIm7, q_7, kN_7⟩ := S_X1_hold zn (d + 0) hN hC hour strikes m hIm (by omega) (by omega) (by omega)
            refine zW.step (st1 := (40, [(some (.ref 0)), (some (.int (Int32.ofInt hour))), (some (.int (Int32.ofInt strikes)))], [.int (Int32.ofInt r7)], zk c m7)) ⟨[zc (some (.int (Int32.ofInt r7))) (zk c m7)], _, rfl, ⟨⟨⟨(Nat.lt_of_lt_of_le (Nat.le_of_ble_eq_true rfl) hN), (Nat.le_of_ble_eq_true rfl)⟩, hs7, (Nat.le_of_ble_eq_true rfl), Nat.le_refl _, Nat.le_refl _, Nat.le_refl _, Nat.le_refl _⟩, trivial⟩⟩ rfl ?_
            have tk8 : zN m m7 := zN_tr zN_rf kN_7
            exact zW.fin (zfin_i rfl rfl rfl) ⟨r7, m7, rfl, rfl, hIm7, (by omega), tk8⟩
          · refine zW.step (st1 := (29, [(some (.ref 0)), (some (.int (Int32.ofInt hour))), (some (.int (Int32.ofInt strikes)))], [], zk c m)) (st2 := (29, [(some (.ref 0)), (some (.int (Int32.ofInt hour))), (some (.int (Int32.ofInt strikes)))], [], zk c m)) ⟨[zo, zo, zo], _, rfl, ⟨trivial, trivial, zbf (fun q => b6 ((zi_le rfl (by decide : (Int16.ofInt 999).toInt32 = Int32.ofInt 999) (by unfold zR; omega) (⟨by decide, by decide⟩ : zR 999)).mp q)), trivial⟩⟩ rfl ?_
            refine zW.step (st1 := (30, [(some (.ref 0)), (some (.int (Int32.ofInt hour))), (some (.int (Int32.ofInt strikes)))], [.int (Int32.ofInt (-1))], zk c m)) (st2 := (30, [(some (.ref 0)), (some (.int (Int32.ofInt hour))), (some (.int (Int32.ofInt strikes)))], [.int (Int32.ofInt (-1))], zk c m)) ⟨[zo], _, rfl, ⟨trivial, trivial⟩⟩ rfl ?_
            exact zW.fin (zfin_i rfl rfl rfl) ⟨(-1), m, rfl, rfl, hIm, (by omega), zN_rf⟩

set_option maxRecDepth 100000 in
set_option maxHeartbeats 4000000 in
theorem L_X1_lastHeard_4 (zn : Bool) (d : Nat) {c : Nat × Nat} {mM : zM} (hN : 107 ≤ c.1) (hC : c.1 < z_RO) (m : zM) (hIm : zI c mM m) (Q : Option Value → z_H → Prop) (K : ∀ (x1 : Int) (x2 : Int), 0 ≤ x2 ∧ x2 ≤ 6 → 0 ≤ x1 ∧ x1 ≤ 6 → zW zn (d + 0) 43 c (29, [(some (.ref 75)), (some (.int (Int32.ofInt x1))), (some (.int (Int32.ofInt x2)))], [], zk c m) Q) :
    ∀ (w : Nat) (x1 : Int) (x2 : Int), 0 ≤ x2 ∧ x2 ≤ 6 → 0 ≤ x1 ∧ x1 ≤ 6 → w = (6 - x2).toNat → zW zn (d + 0) 43 c (4, [(some (.ref 75)), (some (.int (Int32.ofInt x1))), (some (.int (Int32.ofInt x2)))], [], zk c m) Q := by
  intro w
  induction w using Nat.strongRecOn with | _ w ih => ?_
  intro x1 x2 i1 i2 hw
  have f1 : (0 : Int) ≤ m 75 5 ∧ m 75 5 ≤ 6 := hIm.1 75 5
  by_cases b2 : (m 75 5) ≤ x2
  · refine zW.step (st1 := (29, [(some (.ref 75)), (some (.int (Int32.ofInt x1))), (some (.int (Int32.ofInt x2)))], [], zk c m)) (st2 := (29, [(some (.ref 75)), (some (.int (Int32.ofInt x1))), (some (.int (Int32.ofInt x2)))], [], zk c m)) ⟨[zo, zo, zo, zt], _, rfl, ⟨trivial, trivial, (Nat.lt_of_lt_of_le (Nat.le_of_ble_eq_true rfl) hN), zbt ((zi_le rfl rfl (by unfold zR; omega) (by unfold zR; omega)).mpr b2), trivial⟩⟩ rfl ?_
    exact K x1 x2 (by omega) (by omega)
  · refine zW.step (st1 := (12, [(some (.ref 75)), (some (.int (Int32.ofInt x1))), (some (.int (Int32.ofInt x2)))], [], zk c m)) (st2 := (12, [(some (.ref 75)), (some (.int (Int32.ofInt x1))), (some (.int (Int32.ofInt x2)))], [], zk c m)) ⟨[zo, zo, zo, zo], _, rfl, ⟨trivial, trivial, (Nat.lt_of_lt_of_le (Nat.le_of_ble_eq_true rfl) hN), zbf (fun q => b2 ((zi_le rfl rfl (by unfold zR; omega) (by unfold zR; omega)).mp q)), trivial⟩⟩ rfl ?_
    have f3 : (0 : Int) ≤ m 77 x2.toNat ∧ m 77 x2.toNat ≤ 6 := hIm.1 77 x2.toNat
    refine zW.step (st1 := (4, [(some (.ref 75)), (some (.int (if (Int32.ofInt x1) < (Int32.ofInt (m 77 (Int32.ofInt x2).toNatClampNeg)) then (Int32.ofInt (m 77 (Int32.ofInt x2).toNatClampNeg)) else (Int32.ofInt x1)))), (some (.int ((Int32.ofInt x2) + Int32.ofInt 1)))], [], zk c m)) (st2 := (4, [(some (.ref 75)), (some (.int (Int32.ofInt (max x1 (m 77 x2.toNat))))), (some (.int (Int32.ofInt (x2 + 1))))], [], zk c m)) ⟨[zo, zo, zo, zo, (false, 0, none, zh0, some (.inl (0, 6, .inl (fun j => Int32.ofInt (m 77 j))))), zo, zo, zo, zo], _, rfl, ⟨trivial, trivial, (Nat.lt_of_lt_of_le (Nat.le_of_ble_eq_true rfl) hN), trivial, ⟨zk_ra c m zA_77 (Nat.lt_of_lt_of_le (Nat.le_of_ble_eq_true rfl) hN), zi_in rfl (by omega) (by omega) (by omega)⟩, ⟨(Nat.le_of_ble_eq_true rfl), Nat.le_refl _, Nat.le_refl _⟩, trivial, trivial, trivial, trivial⟩⟩ (z_steq (z_c1 rfl (z_c1 (z_si (zi_max rfl ((zk_rd (f := m 77) rfl (by unfold zR; omega)).trans rfl : Int32.ofInt (m 77 (Int32.ofInt x2).toNatClampNeg) = Int32.ofInt (m 77 x2.toNat)) (by unfold zR; omega) (by unfold zR; omega))) (z_c1 (z_si (zi_add rfl rfl)) rfl))) rfl rfl) ?_
    exact ih _ (by omega) (max x1 (m 77 x2.toNat)) (x2 + 1) (by omega) (by omega) rfl

set_option maxRecDepth 100000 in
set_option maxHeartbeats 4000000 in
theorem S_X1_lastHeard (zn : Bool) (d : Nat) {c : Nat × Nat} {mM : zM} (hN : 107 ≤ c.1) (hC : c.1 < z_RO) (m : zM) (hIm : zI c mM m) : zPi zn (d + 1) 43 [.ref 75] c m (fun (r : Int) => (0 ≤ r ∧ r ≤ 6)) := by
  refine zPi.of zu_X1_lastHeard hC (Nat.le_of_ble_eq_true rfl) ?_
  show zW zn (d + 0) 43 c (0, [(some (.ref 75)), none, none], [], zk c m) (fun v h1 => ∃ (r : Int), v = some (.int (Int32.ofInt r)) ∧ h1 = zk c m ∧ (0 ≤ r ∧ r ≤ 6))
  refine zW.step (st1 := (4, [(some (.ref 75)), (some (.int (Int32.ofInt 0))), (some (.int (Int32.ofInt 0)))], [], zk c m)) (st2 := (4, [(some (.ref 75)), (some (.int (Int32.ofInt 0))), (some (.int (Int32.ofInt 0)))], [], zk c m)) ⟨[zo, zo, zo, zo], _, rfl, ⟨trivial, trivial, trivial, trivial, trivial⟩⟩ rfl ?_
  refine L_X1_lastHeard_4 zn _ hN hC m hIm _ (fun x1_4 x2_4 i1_4 i2_4 => ?_) _ 0 0 (by omega) (by omega) rfl
  refine zW.step (st1 := (30, [(some (.ref 75)), (some (.int (Int32.ofInt x1_4))), (some (.int (Int32.ofInt x2_4)))], [.int (Int32.ofInt x1_4)], zk c m)) (st2 := (30, [(some (.ref 75)), (some (.int (Int32.ofInt x1_4))), (some (.int (Int32.ofInt x2_4)))], [.int (Int32.ofInt x1_4)], zk c m)) ⟨[zo], _, rfl, ⟨trivial, trivial⟩⟩ rfl ?_
  exact zW.fin (zfin_i rfl rfl rfl) ⟨x1_4, rfl, rfl, (by omega)⟩

set_option maxRecDepth 100000 in
set_option maxHeartbeats 4000000 in
theorem L_X1_agrees_2 (zn : Bool) (d : Nat) {c : Nat × Nat} {mM : zM} (hN : 107 ≤ c.1) (hC : c.1 < z_RO) (hour : Int) (r_hour : -2147483648 ≤ hour ∧ hour ≤ 2147483647) (m : zM) (hIm : zI c mM m) (Q : Option Value → z_H → Prop) (KR : ∀ v h1, (fun v h1 => ∃ (r : Int), v = some (.int (Int32.ofInt r)) ∧ h1 = zk c m ∧ (0 ≤ r ∧ r ≤ 1)) v h1 → Q v h1) (K : ∀ (x2 : Int), 0 ≤ x2 ∧ x2 ≤ 6 → zW zn (d + 0) 39 c (44, [(some (.ref 75)), (some (.int (Int32.ofInt hour))), (some (.int (Int32.ofInt x2)))], [], zk c m) Q) :
    ∀ (w : Nat) (x2 : Int), 0 ≤ x2 ∧ x2 ≤ 6 → w = (6 - x2).toNat → zW zn (d + 0) 39 c (2, [(some (.ref 75)), (some (.int (Int32.ofInt hour))), (some (.int (Int32.ofInt x2)))], [], zk c m) Q := by
  intro w
  induction w using Nat.strongRecOn with | _ w ih => ?_
  intro x2 i1 hw
  have f1 : (0 : Int) ≤ m 75 5 ∧ m 75 5 ≤ 6 := hIm.1 75 5
  by_cases b2 : (m 75 5) ≤ x2
  · refine zW.step (st1 := (44, [(some (.ref 75)), (some (.int (Int32.ofInt hour))), (some (.int (Int32.ofInt x2)))], [], zk c m)) (st2 := (44, [(some (.ref 75)), (some (.int (Int32.ofInt hour))), (some (.int (Int32.ofInt x2)))], [], zk c m)) ⟨[zo, zo, zo, zt], _, rfl, ⟨trivial, trivial, (Nat.lt_of_lt_of_le (Nat.le_of_ble_eq_true rfl) hN), zbt ((zi_le rfl rfl (by unfold zR; omega) (by unfold zR; omega)).mpr b2), trivial⟩⟩ rfl ?_
    exact K x2 (by omega)
  · refine zW.step (st1 := (10, [(some (.ref 75)), (some (.int (Int32.ofInt hour))), (some (.int (Int32.ofInt x2)))], [], zk c m)) (st2 := (10, [(some (.ref 75)), (some (.int (Int32.ofInt hour))), (some (.int (Int32.ofInt x2)))], [], zk c m)) ⟨[zo, zo, zo, zo], _, rfl, ⟨trivial, trivial, (Nat.lt_of_lt_of_le (Nat.le_of_ble_eq_true rfl) hN), zbf (fun q => b2 ((zi_le rfl rfl (by unfold zR; omega) (by unfold zR; omega)).mp q)), trivial⟩⟩ rfl ?_
    have f3 : (0 : Int) ≤ m 77 x2.toNat ∧ m 77 x2.toNat ≤ 6 := hIm.1 77 x2.toNat
    by_cases b4 : (m 77 x2.toNat) = hour
    · refine zW.step (st1 := (20, [(some (.ref 75)), (some (.int (Int32.ofInt hour))), (some (.int (Int32.ofInt x2)))], [], zk c m)) (st2 := (20, [(some (.ref 75)), (some (.int (Int32.ofInt hour))), (some (.int (Int32.ofInt x2)))], [], zk c m)) ⟨[zo, zo, zo, (false, 0, none, zh0, some (.inl (0, 6, .inl (fun j => Int32.ofInt (m 77 j))))), zo, zo], _, rfl, ⟨trivial, (Nat.lt_of_lt_of_le (Nat.le_of_ble_eq_true rfl) hN), trivial, ⟨zk_ra c m zA_77 (Nat.lt_of_lt_of_le (Nat.le_of_ble_eq_true rfl) hN), zi_in rfl (by omega) (by omega) (by omega)⟩, trivial, zbf (fun q => q ((zi_eq ((zk_rd (f := m 77) rfl (by unfold zR; omega)).trans rfl : Int32.ofInt (m 77 (Int32.ofInt x2).toNatClampNeg) = Int32.ofInt (m 77 x2.toNat)) rfl (by unfold zR; omega) (by unfold zR; omega)).mpr b4)), trivial⟩⟩ rfl ?_
      have f5 : (-2147483648 : Int) ≤ m 78 x2.toNat ∧ m 78 x2.toNat ≤ 2147483647 := hIm.1 78 x2.toNat
      have f6 : (-2147483648 : Int) ≤ m 18 4 ∧ m 18 4 ≤ 2147483647 := hIm.1 18 4
      by_cases b7 : (m 78 x2.toNat) = (m 18 4)
      · refine zW.step (st1 := (38, [(some (.ref 75)), (some (.int (Int32.ofInt hour))), (some (.int (Int32.ofInt x2)))], [], zk c m)) (st2 := (38, [(some (.ref 75)), (some (.int (Int32.ofInt hour))), (some (.int (Int32.ofInt x2)))], [], zk c m)) ⟨[zo, zo, zo, (false, 0, none, zh0, some (.inl (0, 6, .inl (fun j => Int32.ofInt (m 78 j))))), zo, zo, zo, zt], _, rfl, ⟨trivial, (Nat.lt_of_lt_of_le (Nat.le_of_ble_eq_true rfl) hN), trivial, ⟨zk_ra c m zA_78 (Nat.lt_of_lt_of_le (Nat.le_of_ble_eq_true rfl) hN), zi_in rfl (by omega) (by omega) (by omega)⟩, trivial, (Nat.lt_of_lt_of_le (Nat.le_of_ble_eq_true rfl) hN), (Nat.lt_of_lt_of_le (Nat.le_of_ble_eq_true rfl) hN), zbt ((zi_eq ((zk_rd (f := m 78) rfl (by unfold zR; omega)).trans rfl : Int32.ofInt (m 78 (Int32.ofInt x2).toNatClampNeg) = Int32.ofInt (m 78 x2.toNat)) rfl (by unfold zR; omega) (by unfold zR; omega)).mpr b7), trivial⟩⟩ rfl ?_
        refine zW.step (st1 := (2, [(some (.ref 75)), (some (.int (Int32.ofInt hour))), (some (.int ((Int32.ofInt x2) + Int32.ofInt 1)))], [], zk c m)) (st2 := (2, [(some (.ref 75)), (some (.int (Int32.ofInt hour))), (some (.int (Int32.ofInt (x2 + 1))))], [], zk c m)) ⟨[zo, zo], _, rfl, ⟨trivial, trivial, trivial⟩⟩ (z_steq (z_c1 rfl (z_c1 rfl (z_c1 (z_si (zi_add rfl rfl)) rfl))) rfl rfl) ?_
        exact ih _ (by omega) (x2 + 1) (by omega) rfl
      · refine zW.step (st1 := (36, [(some (.ref 75)), (some (.int (Int32.ofInt hour))), (some (.int (Int32.ofInt x2)))], [], zk c m)) (st2 := (36, [(some (.ref 75)), (some (.int (Int32.ofInt hour))), (some (.int (Int32.ofInt x2)))], [], zk c m)) ⟨[zo, zo, zo, (false, 0, none, zh0, some (.inl (0, 6, .inl (fun j => Int32.ofInt (m 78 j))))), zo, zo, zo, zo], _, rfl, ⟨trivial, (Nat.lt_of_lt_of_le (Nat.le_of_ble_eq_true rfl) hN), trivial, ⟨zk_ra c m zA_78 (Nat.lt_of_lt_of_le (Nat.le_of_ble_eq_true rfl) hN), zi_in rfl (by omega) (by omega) (by omega)⟩, trivial, (Nat.lt_of_lt_of_le (Nat.le_of_ble_eq_true rfl) hN), (Nat.lt_of_lt_of_le (Nat.le_of_ble_eq_true rfl) hN), zbf (fun q => b7 ((zi_eq ((zk_rd (f := m 78) rfl (by unfold zR; omega)).trans rfl : Int32.ofInt (m 78 (Int32.ofInt x2).toNatClampNeg) = Int32.ofInt (m 78 x2.toNat)) rfl (by unfold zR; omega) (by unfold zR; omega)).mp q)), trivial⟩⟩ rfl ?_
        refine zW.step (st1 := (37, [(some (.ref 75)), (some (.int (Int32.ofInt hour))), (some (.int (Int32.ofInt x2)))], [.int (Int32.ofInt 0)], zk c m)) (st2 := (37, [(some (.ref 75)), (some (.int (Int32.ofInt hour))), (some (.int (Int32.ofInt x2)))], [.int (Int32.ofInt 0)], zk c m)) ⟨[zo], _, rfl, ⟨trivial, trivial⟩⟩ rfl ?_
        exact zW.fin (zfin_i rfl rfl rfl) (KR _ _ ⟨0, rfl, rfl, (by omega)⟩)
    · refine zW.step (st1 := (38, [(some (.ref 75)), (some (.int (Int32.ofInt hour))), (some (.int (Int32.ofInt x2)))], [], zk c m)) (st2 := (38, [(some (.ref 75)), (some (.int (Int32.ofInt hour))), (some (.int (Int32.ofInt x2)))], [], zk c m)) ⟨[zo, zo, zo, (false, 0, none, zh0, some (.inl (0, 6, .inl (fun j => Int32.ofInt (m 77 j))))), zo, zt], _, rfl, ⟨trivial, (Nat.lt_of_lt_of_le (Nat.le_of_ble_eq_true rfl) hN), trivial, ⟨zk_ra c m zA_77 (Nat.lt_of_lt_of_le (Nat.le_of_ble_eq_true rfl) hN), zi_in rfl (by omega) (by omega) (by omega)⟩, trivial, zbt (fun q => b4 ((zi_eq ((zk_rd (f := m 77) rfl (by unfold zR; omega)).trans rfl : Int32.ofInt (m 77 (Int32.ofInt x2).toNatClampNeg) = Int32.ofInt (m 77 x2.toNat)) rfl (by unfold zR; omega) (by unfold zR; omega)).mp q)), trivial⟩⟩ rfl ?_
      refine zW.step (st1 := (2, [(some (.ref 75)), (some (.int (Int32.ofInt hour))), (some (.int ((Int32.ofInt x2) + Int32.ofInt 1)))], [], zk c m)) (st2 := (2, [(some (.ref 75)), (some (.int (Int32.ofInt hour))), (some (.int (Int32.ofInt (x2 + 1))))], [], zk c m)) ⟨[zo, zo], _, rfl, ⟨trivial, trivial, trivial⟩⟩ (z_steq (z_c1 rfl (z_c1 rfl (z_c1 (z_si (zi_add rfl rfl)) rfl))) rfl rfl) ?_
      exact ih _ (by omega) (x2 + 1) (by omega) rfl

set_option maxRecDepth 100000 in
set_option maxHeartbeats 4000000 in
theorem S_X1_agrees (zn : Bool) (d : Nat) {c : Nat × Nat} {mM : zM} (hN : 107 ≤ c.1) (hC : c.1 < z_RO) (hour : Int) (m : zM) (hIm : zI c mM m) (r_hour : -2147483648 ≤ hour ∧ hour ≤ 2147483647) : zPi zn (d + 1) 39 [.ref 75, .int (Int32.ofInt hour)] c m (fun (r : Int) => (0 ≤ r ∧ r ≤ 1)) := by
  refine zPi.of zu_X1_agrees hC (Nat.le_of_ble_eq_true rfl) ?_
  show zW zn (d + 0) 39 c (0, [(some (.ref 75)), (some (.int (Int32.ofInt hour))), none], [], zk c m) (fun v h1 => ∃ (r : Int), v = some (.int (Int32.ofInt r)) ∧ h1 = zk c m ∧ (0 ≤ r ∧ r ≤ 1))
  refine zW.step (st1 := (2, [(some (.ref 75)), (some (.int (Int32.ofInt hour))), (some (.int (Int32.ofInt 0)))], [], zk c m)) (st2 := (2, [(some (.ref 75)), (some (.int (Int32.ofInt hour))), (some (.int (Int32.ofInt 0)))], [], zk c m)) ⟨[zo, zo], _, rfl, ⟨trivial, trivial, trivial⟩⟩ rfl ?_
  refine L_X1_agrees_2 zn _ hN hC hour r_hour m hIm _ (fun v9 h9 hq9 => hq9) (fun x2_8 i1_8 => ?_) _ 0 (by omega) rfl
  refine zW.step (st1 := (45, [(some (.ref 75)), (some (.int (Int32.ofInt hour))), (some (.int (Int32.ofInt x2_8)))], [.int (Int32.ofInt 1)], zk c m)) (st2 := (45, [(some (.ref 75)), (some (.int (Int32.ofInt hour))), (some (.int (Int32.ofInt x2_8)))], [.int (Int32.ofInt 1)], zk c m)) ⟨[zo], _, rfl, ⟨trivial, trivial⟩⟩ rfl ?_
  exact zW.fin (zfin_i rfl rfl rfl) ⟨1, rfl, rfl, (by omega)⟩

set_option maxRecDepth 100000 in
set_option maxHeartbeats 4000000 in
theorem S_X0_draw (zn : Bool) (d : Nat) {c : Nat × Nat} {mM : zM} (hN : 107 ≤ c.1) (hC : c.1 < z_RO) (n : Int) (m : zM) (hIm : zI c mM m) (r_n : -2147483648 ≤ n ∧ n ≤ 2147483647) : zCi zn (d + 1) 36 [.ref 68, .int (Int32.ofInt n)] c m (fun (r : Int) (m1 : zM) => zI c mM m1 ∧ (-2147483648 ≤ r ∧ r ≤ 2147483647) ∧ (0 < n → 0 ≤ r ∧ r < n) ∧ zN m m1) := by
  refine zCi.of zu_X0_draw hC (Nat.le_of_ble_eq_true rfl) ?_
  show zW zn (d + 0) 36 c (0, [(some (.ref 68)), (some (.int (Int32.ofInt n)))], [], zk c m) (fun v h1 => ∃ (r : Int) (m1 : zM), v = some (.int (Int32.ofInt r)) ∧ h1 = zk c m1 ∧ zI c mM m1 ∧ (-2147483648 ≤ r ∧ r ≤ 2147483647) ∧ (0 < n → 0 ≤ r ∧ r < n) ∧ zN m m1)
  have f1 : (-9223372036854775808 : Int) ≤ m 68 1 ∧ m 68 1 ≤ 9223372036854775807 := hIm.1 68 1
  have f2 := zw8R (((m 68 1) * 6364136223846793005) + 1442695040888963407)
  obtain ⟨m3, hm3⟩ : ∃ q, q = zm_up m 68 1 (zw8 (((m 68 1) * 6364136223846793005) + 1442695040888963407)) := ⟨_, rfl⟩
  have hIm3 : zI c mM m3 := by rw [hm3]; exact zI_up hIm (by unfold zOk; omega) (show (-9223372036854775808 : Int) ≤ (zw8 (((m 68 1) * 6364136223846793005) + 1442695040888963407)) ∧ (zw8 (((m 68 1) * 6364136223846793005) + 1442695040888963407)) ≤ 9223372036854775807 by omega)
  have em3 : m3 68 1 = (zw8 (((m 68 1) * 6364136223846793005) + 1442695040888963407)) := by rw [hm3]; exact zm_eq
  have tk4 : zN m m3 := by rw [hm3]; exact zN_up zN_rf (by unfold zRow; omega)
  refine zW.step (st1 := (16, [(some (.ref 68)), (some (.int (Int32.ofInt n)))], [], z_hup (zk c m) 68 (.inr (0, [.int (Int32.ofInt (m 68 0)), .long (((Int64.ofInt (m 68 1)) * (6364136223846793005 : Int64)) + (1442695040888963407 : Int64))])))) (st2 := (16, [(some (.ref 68)), (some (.int (Int32.ofInt n)))], [], zk c m3)) ⟨[zo, zo, zo, zo, zo, zo, zo, zo], _, rfl, ⟨trivial, trivial, (Nat.lt_of_lt_of_le (Nat.le_of_ble_eq_true rfl) hN), trivial, trivial, trivial, trivial, ⟨(Nat.lt_of_lt_of_le (Nat.le_of_ble_eq_true rfl) hN), rfl, rfl⟩, trivial⟩⟩ (z_steq rfl rfl ((zk_up c m 68 1 (zw8 (((m 68 1) * 6364136223846793005) + 1442695040888963407)) _ ((congrArg (fun q => (.inr (0, [.int (Int32.ofInt (m 68 0)), .long q]) : z_E)) (Eq.trans (zl_add (zl_mul rfl (by decide : (6364136223846793005 : Int64) = Int64.ofInt 6364136223846793005)) (by decide : (1442695040888963407 : Int64) = Int64.ofInt 1442695040888963407)) (zw8_eq _))).trans rfl)).trans (by rw [hm3]))) ?_
  clear f1 f2 em3
  by_cases b5 : n ≤ 0
  · refine zW.step (st1 := (34, [(some (.ref 68)), (some (.int (Int32.ofInt n)))], [], zk c m3)) (st2 := (34, [(some (.ref 68)), (some (.int (Int32.ofInt n)))], [], zk c m3)) ⟨[zo, zt], _, rfl, ⟨trivial, zbt ((zi_le rfl (rfl : (0 : Int32) = Int32.ofInt 0) (by unfold zR; omega) (⟨by decide, by decide⟩ : zR 0)).mpr b5), trivial⟩⟩ rfl ?_
    refine zW.step (st1 := (35, [(some (.ref 68)), (some (.int (Int32.ofInt n)))], [.int (Int32.ofInt 0)], zk c m3)) (st2 := (35, [(some (.ref 68)), (some (.int (Int32.ofInt n)))], [.int (Int32.ofInt 0)], zk c m3)) ⟨[zo], _, rfl, ⟨trivial, trivial⟩⟩ rfl ?_
    exact zW.fin (zfin_i rfl rfl rfl) ⟨0, m3, rfl, rfl, hIm3, (by omega), (by omega), tk4⟩
  · refine zW.step (st1 := (20, [(some (.ref 68)), (some (.int (Int32.ofInt n)))], [], zk c m3)) (st2 := (20, [(some (.ref 68)), (some (.int (Int32.ofInt n)))], [], zk c m3)) ⟨[zo, zo], _, rfl, ⟨trivial, zbf (fun q => b5 ((zi_le rfl (rfl : (0 : Int32) = Int32.ofInt 0) (by unfold zR; omega) (⟨by decide, by decide⟩ : zR 0)).mp q)), trivial⟩⟩ rfl ?_
    have f6 : (-9223372036854775808 : Int) ≤ m3 68 1 ∧ m3 68 1 ≤ 9223372036854775807 := hIm3.1 68 1
    have f7 := zb_lushr33 (m3 68 1)
    have f8 := ztm9 (zb_lushr (m3 68 1) 33) n
    refine zW.step (st1 := (35, [(some (.ref 68)), (some (.int (Int32.ofInt n)))], [.int (((((Int64.ofInt (m3 68 1)).toUInt64 >>> (((Int8.ofInt 33).toInt32).toInt64.toUInt64 &&& Int64.toUInt64 63)).toInt64) - (((Int64.ofInt (m3 68 1)).toUInt64 >>> (((Int8.ofInt 33).toInt32).toInt64.toUInt64 &&& Int64.toUInt64 63)).toInt64) / ((Int32.ofInt n).toInt64) * ((Int32.ofInt n).toInt64)).toInt32)], zk c m3)) (st2 := (35, [(some (.ref 68)), (some (.int (Int32.ofInt n)))], [.int (Int32.ofInt (Int.tmod (zb_lushr (m3 68 1) 33) n))], zk c m3)) ⟨[zo, zo, zo, zo, zo, zo, zo, zo, zo], _, rfl, ⟨trivial, (Nat.lt_of_lt_of_le (Nat.le_of_ble_eq_true rfl) hN), trivial, trivial, trivial, trivial, zl_nz (zi_i2l rfl (by unfold zR; omega)) (by unfold zR8; omega) (by omega), trivial, trivial, trivial⟩⟩ (z_steq rfl (z_c1 (z_vi (zl_l2i (zl_rem (zl_ushr rfl (by decide : (Int8.ofInt 33).toInt32 = Int32.ofInt 33)) (zi_i2l rfl (by unfold zR; omega)) (by unfold zR8; omega) (by unfold zR8; omega)))) rfl) rfl) ?_
    exact zW.fin (zfin_i rfl rfl rfl) ⟨Int.tmod (zb_lushr (m3 68 1) 33) n, m3, rfl, rfl, hIm3, (by omega), (by omega), tk4⟩

set_option maxRecDepth 100000 in
set_option maxHeartbeats 4000000 in
theorem S_X1_roomOf (zn : Bool) (d : Nat) {c : Nat × Nat} {mM : zM} (hN : 107 ≤ c.1) (hC : c.1 < z_RO) (row : Int) (place : Int) (m : zM) (hIm : zI c mM m) (r_row : -2147483648 ≤ row ∧ row ≤ 2147483647) (r_place : -2147483648 ≤ place ∧ place ≤ 2147483647) : zPi zn (d + 2) 44 [.ref 75, .int (Int32.ofInt row), .int (Int32.ofInt place)] c m (fun (r : Int) => (-2147483648 ≤ r ∧ r ≤ 2147483647)) := by
  refine zPi.of zu_X1_roomOf hC (Nat.le_of_ble_eq_true rfl) ?_
  show zW zn (d + 1) 44 c (0, [(some (.ref 75)), (some (.int (Int32.ofInt row))), (some (.int (Int32.ofInt place))), none], [], zk c m) (fun v h1 => ∃ (r : Int), v = some (.int (Int32.ofInt r)) ∧ h1 = zk c m ∧ (-2147483648 ≤ r ∧ r ≤ 2147483647))
  have f1 : (0 : Int) ≤ m 13 3 ∧ m 13 3 ≤ 5 := hIm.1 13 3
  refine zW.step (st1 := (8, [(some (.ref 75)), (some (.int (Int32.ofInt row))), (some (.int (Int32.ofInt place))), none], [.int (Int32.ofInt place), .int (Int32.ofInt (m 13 3))], zk c m)) (st2 := (8, [(some (.ref 75)), (some (.int (Int32.ofInt row))), (some (.int (Int32.ofInt place))), none], [.int (Int32.ofInt place), .int (Int32.ofInt (m 13 3))], zk c m)) ⟨[zo, zo, zo, zo], _, rfl, ⟨trivial, (Nat.lt_of_lt_of_le (Nat.le_of_ble_eq_true rfl) hN), (Nat.lt_of_lt_of_le (Nat.le_of_ble_eq_true rfl) hN), trivial, trivial⟩⟩ rfl ?_
  obtain ⟨r2, hs2, q_2⟩ := S_X11_power zn (d + 0) hN hC (m 13 3) place m hIm (by omega) (by omega)
  refine zW.step (st1 := (11, [(some (.ref 75)), (some (.int (Int32.ofInt row))), (some (.int (Int32.ofInt place))), none], [.int (Int32.ofInt r2)], zk c m)) ⟨[zc (some (.int (Int32.ofInt r2))) (zk c m)], _, rfl, ⟨⟨(Nat.le_of_ble_eq_true rfl), hs2, (Nat.le_of_ble_eq_true rfl), Nat.le_refl _, Nat.le_refl _, Nat.le_refl _, Nat.le_refl _⟩, trivial⟩⟩ rfl ?_
  by_cases b3 : r2 ≤ 0
  · refine zW.step (st1 := (40, [(some (.ref 75)), (some (.int (Int32.ofInt row))), (some (.int (Int32.ofInt place))), (some (.int (Int32.ofInt r2)))], [], zk c m)) (st2 := (40, [(some (.ref 75)), (some (.int (Int32.ofInt row))), (some (.int (Int32.ofInt place))), (some (.int (Int32.ofInt r2)))], [], zk c m)) ⟨[zo, zo, zt], _, rfl, ⟨trivial, trivial, zbt ((zi_le rfl (rfl : (0 : Int32) = Int32.ofInt 0) (by unfold zR; omega) (⟨by decide, by decide⟩ : zR 0)).mpr b3), trivial⟩⟩ rfl ?_
    refine zW.step (st1 := (41, [(some (.ref 75)), (some (.int (Int32.ofInt row))), (some (.int (Int32.ofInt place))), (some (.int (Int32.ofInt r2)))], [.int (Int32.ofInt 0)], zk c m)) (st2 := (41, [(some (.ref 75)), (some (.int (Int32.ofInt row))), (some (.int (Int32.ofInt place))), (some (.int (Int32.ofInt r2)))], [.int (Int32.ofInt 0)], zk c m)) ⟨[zo], _, rfl, ⟨trivial, trivial⟩⟩ rfl ?_
    exact zW.fin (zfin_i rfl rfl rfl) ⟨0, rfl, rfl, (by omega)⟩
  · refine zW.step (st1 := (16, [(some (.ref 75)), (some (.int (Int32.ofInt row))), (some (.int (Int32.ofInt place))), (some (.int (Int32.ofInt r2)))], [], zk c m)) (st2 := (16, [(some (.ref 75)), (some (.int (Int32.ofInt row))), (some (.int (Int32.ofInt place))), (some (.int (Int32.ofInt r2)))], [], zk c m)) ⟨[zo, zo, zo], _, rfl, ⟨trivial, trivial, zbf (fun q => b3 ((zi_le rfl (rfl : (0 : Int32) = Int32.ofInt 0) (by unfold zR; omega) (⟨by decide, by decide⟩ : zR 0)).mp q)), trivial⟩⟩ rfl ?_
    by_cases b4 : (m 13 3) ≤ 0
    · refine zW.step (st1 := (40, [(some (.ref 75)), (some (.int (Int32.ofInt row))), (some (.int (Int32.ofInt place))), (some (.int (Int32.ofInt r2)))], [], zk c m)) (st2 := (40, [(some (.ref 75)), (some (.int (Int32.ofInt row))), (some (.int (Int32.ofInt place))), (some (.int (Int32.ofInt r2)))], [], zk c m)) ⟨[zo, zo, zo, zt], _, rfl, ⟨trivial, (Nat.lt_of_lt_of_le (Nat.le_of_ble_eq_true rfl) hN), (Nat.lt_of_lt_of_le (Nat.le_of_ble_eq_true rfl) hN), zbt ((zi_le rfl (rfl : (0 : Int32) = Int32.ofInt 0) (by unfold zR; omega) (⟨by decide, by decide⟩ : zR 0)).mpr b4), trivial⟩⟩ rfl ?_
      refine zW.step (st1 := (41, [(some (.ref 75)), (some (.int (Int32.ofInt row))), (some (.int (Int32.ofInt place))), (some (.int (Int32.ofInt r2)))], [.int (Int32.ofInt 0)], zk c m)) (st2 := (41, [(some (.ref 75)), (some (.int (Int32.ofInt row))), (some (.int (Int32.ofInt place))), (some (.int (Int32.ofInt r2)))], [.int (Int32.ofInt 0)], zk c m)) ⟨[zo], _, rfl, ⟨trivial, trivial⟩⟩ rfl ?_
      exact zW.fin (zfin_i rfl rfl rfl) ⟨0, rfl, rfl, (by omega)⟩
    · refine zW.step (st1 := (26, [(some (.ref 75)), (some (.int (Int32.ofInt row))), (some (.int (Int32.ofInt place))), (some (.int (Int32.ofInt r2)))], [], zk c m)) (st2 := (26, [(some (.ref 75)), (some (.int (Int32.ofInt row))), (some (.int (Int32.ofInt place))), (some (.int (Int32.ofInt r2)))], [], zk c m)) ⟨[zo, zo, zo, zo], _, rfl, ⟨trivial, (Nat.lt_of_lt_of_le (Nat.le_of_ble_eq_true rfl) hN), (Nat.lt_of_lt_of_le (Nat.le_of_ble_eq_true rfl) hN), zbf (fun q => b4 ((zi_le rfl (rfl : (0 : Int32) = Int32.ofInt 0) (by unfold zR; omega) (⟨by decide, by decide⟩ : zR 0)).mp q)), trivial⟩⟩ rfl ?_
      have f5 := ztd9 row r2
      have f6 := ztm9 (Int.tdiv row r2) (m 13 3)
      refine zW.step (st1 := (41, [(some (.ref 75)), (some (.int (Int32.ofInt row))), (some (.int (Int32.ofInt place))), (some (.int (Int32.ofInt r2)))], [.int (((Int32.ofInt row) / (Int32.ofInt r2)) - ((Int32.ofInt row) / (Int32.ofInt r2)) / (Int32.ofInt (m 13 3)) * (Int32.ofInt (m 13 3)))], zk c m)) (st2 := (41, [(some (.ref 75)), (some (.int (Int32.ofInt row))), (some (.int (Int32.ofInt place))), (some (.int (Int32.ofInt r2)))], [.int (Int32.ofInt (Int.tmod (Int.tdiv row r2) (m 13 3)))], zk c m)) ⟨[zo, zo, zo, zo, zo, zo, zo, zo], _, rfl, ⟨trivial, trivial, zi_nz rfl (by unfold zR; omega) (by omega), trivial, (Nat.lt_of_lt_of_le (Nat.le_of_ble_eq_true rfl) hN), (Nat.lt_of_lt_of_le (Nat.le_of_ble_eq_true rfl) hN), zi_nz rfl (by unfold zR; omega) (by omega), trivial, trivial⟩⟩ (z_steq rfl (z_c1 (z_vi (zi_rem (zi_div rfl rfl (by unfold zR; omega) (by unfold zR; omega)) rfl (by unfold zR; omega) (by unfold zR; omega))) rfl) rfl) ?_
      exact zW.fin (zfin_i rfl rfl rfl) ⟨Int.tmod (Int.tdiv row r2) (m 13 3), rfl, rfl, (by omega)⟩

set_option maxRecDepth 100000 in
set_option maxHeartbeats 4000000 in
theorem S_X2_begin (zn : Bool) (d : Nat) {c : Nat × Nat} {mM : zM} (hN : 107 ≤ c.1) (hC : c.1 < z_RO) (m : zM) (hIm : zI c mM m) : zCv zn (d + 1) 46 [.ref 69, .ref 17] c m (fun (m1 : zM) => zI c mM m1 ∧ (m1 70 184 = m 17 184) ∧ zF 0 m m1) := by
  refine zCv.of zu_X2_begin hC (Nat.le_of_ble_eq_true rfl) ?_
  show zW zn (d + 0) 46 c (0, [(some (.ref 69)), (some (.ref 17))], [], zk c m) (fun v h1 => ∃ (m1 : zM), v = none ∧ h1 = zk c m1 ∧ zI c mM m1 ∧ (m1 70 184 = m 17 184) ∧ zF 0 m m1)
  obtain ⟨m1, hm1⟩ : ∃ q, q = zm_cp m 70 17 188 := ⟨_, rfl⟩
  have hIm1 : zI c mM m1 := by rw [hm1]; exact zI_cp hIm (by omega) (fun i _ => zS_cp zS_70 zS_17 i)
  have tk2 : zF 0 m m1 := by rw [hm1]; exact zF_cp zF_rf (by unfold zQ; omega)
  have tk3 : m1 70 184 = m 17 184 := by rw [hm1]; exact zm_cp_eq (by decide)
  refine zW.step (st1 := (13, [(some (.ref 69)), (some (.ref 17))], [], z_hup (zk c m) 70 (.inl (0, 188, .inl (va_cpy (fun j => Int32.ofInt (m 17 j)) (fun j => Int32.ofInt (m 70 j)) (Int32.ofInt 0).toNatClampNeg (Int32.ofInt 0).toNatClampNeg ((Int16.ofInt 188).toInt32).toNatClampNeg))))) (st2 := (13, [(some (.ref 69)), (some (.ref 17))], [], zk c m1)) ⟨[zo, zo, zo, zo, zo, zo, (false, 0, none, (0, 0, fun _ => .inl (0, 188, .inl (fun j => Int32.ofInt (m 17 j)))), some (.inl (0, 188, .inl (fun j => Int32.ofInt (m 70 j)))))], _, rfl, ⟨trivial, trivial, trivial, (Nat.lt_of_lt_of_le (Nat.le_of_ble_eq_true rfl) hN), trivial, trivial, ⟨zk_ra c m zA_70 (Nat.lt_of_lt_of_le (Nat.le_of_ble_eq_true rfl) hN), zk_ra c m zA_17 (Nat.lt_of_lt_of_le (Nat.le_of_ble_eq_true rfl) hN), (by decide), (by decide), (by decide), (by decide), (by decide), (Nat.le_of_ble_eq_true rfl)⟩, trivial⟩⟩ (z_steq rfl rfl ((zk_acp c m zA_70 rfl rfl (by decide : (Int16.ofInt 188).toInt32 = Int32.ofInt 188) (⟨by decide, by decide⟩ : zR 188)).trans (by rw [hm1]; rfl))) ?_
  exact zW.fin (zfin_v rfl rfl) ⟨m1, rfl, rfl, hIm1, (by omega), tk2⟩

set_option maxRecDepth 100000 in
set_option maxHeartbeats 4000000 in
theorem L_X2_pass_2 (zn : Bool) (d : Nat) {c : Nat × Nat} {mM : zM} (hN : 107 ≤ c.1) (hC : c.1 < z_RO) (n : Int) (r_n : -2147483648 ≤ n ∧ n ≤ 2147483647) (hn : n ≤ 60) (m0 : zM) (Q : Option Value → z_H → Prop) (K : ∀ (x2 : Int) (m : zM), zI c mM m → 0 ≤ x2 ∧ x2 ≤ 60 → m 70 184 ≤ 999999000 + x2 → zF 0 m0 m → zW zn (d + 4) 55 c (24, [(some (.ref 69)), (some (.int (Int32.ofInt n))), (some (.int (Int32.ofInt x2)))], [], zk c m) Q) :
    ∀ (w : Nat) (x2 : Int) (m : zM), zI c mM m → 0 ≤ x2 ∧ x2 ≤ 60 → m 70 184 ≤ 999999000 + x2 → zF 0 m0 m → w = (60 - x2).toNat → zW zn (d + 4) 55 c (2, [(some (.ref 69)), (some (.int (Int32.ofInt n))), (some (.int (Int32.ofInt x2)))], [], zk c m) Q := by
  intro w
  induction w using Nat.strongRecOn with | _ w ih => ?_
  intro x2 m hIm i1 i2 tF hw
  by_cases b1 : n ≤ x2
  · refine zW.step (st1 := (24, [(some (.ref 69)), (some (.int (Int32.ofInt n))), (some (.int (Int32.ofInt x2)))], [], zk c m)) (st2 := (24, [(some (.ref 69)), (some (.int (Int32.ofInt n))), (some (.int (Int32.ofInt x2)))], [], zk c m)) ⟨[zo, zo, zt], _, rfl, ⟨trivial, trivial, zbt ((zi_le rfl rfl (by unfold zR; omega) (by unfold zR; omega)).mpr b1), trivial⟩⟩ rfl ?_
    exact K x2 m hIm (by omega) (by omega) tF
  · refine zW.step (st1 := (7, [(some (.ref 69)), (some (.int (Int32.ofInt n))), (some (.int (Int32.ofInt x2)))], [], zk c m)) (st2 := (7, [(some (.ref 69)), (some (.int (Int32.ofInt n))), (some (.int (Int32.ofInt x2)))], [], zk c m)) ⟨[zo, zo, zo], _, rfl, ⟨trivial, trivial, zbf (fun q => b1 ((zi_le rfl rfl (by unfold zR; omega) (by unfold zR; omega)).mp q)), trivial⟩⟩ rfl ?_
    refine zW.step (st1 := (15, [(some (.ref 69)), (some (.int (Int32.ofInt n))), (some (.int (Int32.ofInt x2)))], [.ref 70, .ref 18], zk c m)) (st2 := (15, [(some (.ref 69)), (some (.int (Int32.ofInt n))), (some (.int (Int32.ofInt x2)))], [.ref 70, .ref 18], zk c m)) ⟨[zo, zo, zo, zo], _, rfl, ⟨trivial, (Nat.lt_of_lt_of_le (Nat.le_of_ble_eq_true rfl) hN), trivial, (Nat.lt_of_lt_of_le (Nat.le_of_ble_eq_true rfl) hN), trivial⟩⟩ rfl ?_
    obtain ⟨m2, hs2, hIm2, hr_2, kF_2⟩ := S_X3_pass zn (d + 0) hN hC 70 m hIm zS_70 (by omega) (by omega)
    refine zW.step (st1 := (18, [(some (.ref 69)), (some (.int (Int32.ofInt n))), (some (.int (Int32.ofInt x2)))], [], zk c m2)) ⟨[zc (none) (zk c m2)], _, rfl, ⟨⟨⟨(Nat.lt_of_lt_of_le (Nat.le_of_ble_eq_true rfl) hN), (Nat.le_of_ble_eq_true rfl)⟩, hs2, (Nat.le_of_ble_eq_true rfl), Nat.le_refl _, Nat.le_refl _, Nat.le_refl _, Nat.le_refl _⟩, trivial⟩⟩ rfl ?_
    have tk3 : zF 0 m0 m2 := zF_tr tF kF_2 (by unfold zQ; omega)
    refine zW.step (st1 := (2, [(some (.ref 69)), (some (.int (Int32.ofInt n))), (some (.int ((Int32.ofInt x2) + Int32.ofInt 1)))], [], zk c m2)) (st2 := (2, [(some (.ref 69)), (some (.int (Int32.ofInt n))), (some (.int (Int32.ofInt (x2 + 1))))], [], zk c m2)) ⟨[zo, zo], _, rfl, ⟨trivial, trivial, trivial⟩⟩ (z_steq (z_c1 rfl (z_c1 rfl (z_c1 (z_si (zi_add rfl rfl)) rfl))) rfl rfl) ?_
    exact ih _ (by omega) (x2 + 1) m2 hIm2 (by omega) (by omega) tk3 rfl

set_option maxRecDepth 100000 in
set_option maxHeartbeats 4000000 in
theorem S_X2_pass (zn : Bool) (d : Nat) {c : Nat × Nat} {mM : zM} (hN : 107 ≤ c.1) (hC : c.1 < z_RO) (n : Int) (m : zM) (hIm : zI c mM m) (r_n : -2147483648 ≤ n ∧ n ≤ 2147483647) (hn : n ≤ 60) (h7 : m 70 184 ≤ 999999000) : zCv zn (d + 5) 55 [.ref 69, .int (Int32.ofInt n)] c m (fun (m1 : zM) => zI c mM m1 ∧ zF 0 m m1) := by
  refine zCv.of zu_X2_pass hC (Nat.le_of_ble_eq_true rfl) ?_
  show zW zn (d + 4) 55 c (0, [(some (.ref 69)), (some (.int (Int32.ofInt n))), none], [], zk c m) (fun v h1 => ∃ (m1 : zM), v = none ∧ h1 = zk c m1 ∧ zI c mM m1 ∧ zF 0 m m1)
  refine zW.step (st1 := (2, [(some (.ref 69)), (some (.int (Int32.ofInt n))), (some (.int (Int32.ofInt 0)))], [], zk c m)) (st2 := (2, [(some (.ref 69)), (some (.int (Int32.ofInt n))), (some (.int (Int32.ofInt 0)))], [], zk c m)) ⟨[zo, zo], _, rfl, ⟨trivial, trivial, trivial⟩⟩ rfl ?_
  refine L_X2_pass_2 zn _ hN hC n r_n hn m _ (fun x2_4 m_4 hIm_4 i1_4 i2_4 tF_4 => ?_) _ 0 m hIm (by omega) (by omega) zF_rf rfl
  exact zW.fin (zfin_v rfl rfl) ⟨m_4, rfl, rfl, hIm_4, tF_4⟩

