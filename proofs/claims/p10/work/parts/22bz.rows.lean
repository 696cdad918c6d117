/-! what methods do over memory, by program (wip/tools/gw): X11_moveIn, X11_text_0 -/
set_option maxRecDepth 100000 in
set_option maxHeartbeats 4000000 in
theorem S_X11_moveIn (zn : Bool) (d : Nat) {c : Nat × Nat} {mM : zM} (hN : 107 ≤ c.1) (hC : c.1 < z_RO) (t9 : Int) (m : zM) (hIm : zI c mM m) (ht : 0 ≤ t9 ∧ t9 ≤ 999999000) (hH : zH t9 m) : zCi zn (d + 3) 163 [.ref 0] c m (fun (r : Int) (m1 : zM) => zI c mM m1 ∧ (-2147483648 ≤ r ∧ r ≤ 2147483647) ∧ zH (t9) m1) := by
  refine zCi.of zu_X11_moveIn hC (Nat.le_of_ble_eq_true rfl) ?_
  show zW zn (d + 2) 163 c (0, [(some (.ref 0))], [], zk c m) (fun v h1 => ∃ (r : Int) (m1 : zM), v = some (.int (Int32.ofInt r)) ∧ h1 = zk c m1 ∧ zI c mM m1 ∧ (-2147483648 ≤ r ∧ r ≤ 2147483647) ∧ zH (t9) m1)
  refine zW.step (st1 := (11, [(some (.ref 0))], [.ref 4, .ref 13], zk c m)) (st2 := (11, [(some (.ref 0))], [.ref 4, .ref 13], zk c m)) ⟨[zo, zo, zo, zo, zo], _, rfl, ⟨trivial, (Nat.lt_of_lt_of_le (Nat.le_of_ble_eq_true rfl) hN), trivial, (Nat.lt_of_lt_of_le (Nat.le_of_ble_eq_true rfl) hN), (Nat.lt_of_lt_of_le (Nat.le_of_ble_eq_true rfl) hN), trivial⟩⟩ rfl ?_
  obtain ⟨m1, hs1, hIm1, kN_1⟩ := S_X6_copy zn (d + 1) hN hC m hIm
  refine zW.step (st1 := (14, [(some (.ref 0))], [], zk c m1)) ⟨[zc (none) (zk c m1)], _, rfl, ⟨⟨⟨(Nat.lt_of_lt_of_le (Nat.le_of_ble_eq_true rfl) hN), (Nat.le_of_ble_eq_true rfl)⟩, hs1, (Nat.le_of_ble_eq_true rfl), Nat.le_refl _, Nat.le_refl _, Nat.le_refl _, Nat.le_refl _⟩, trivial⟩⟩ rfl ?_
  have tk2 : zH t9 m1 := zH_N hH kN_1
  obtain ⟨m3, hm3⟩ : ∃ q, q = zm_cp m1 17 8 188 := ⟨_, rfl⟩
  have hIm3 : zI c mM m3 := by rw [hm3]; exact zI_cp hIm1 (by omega) (fun i _ => zS_cp zS_17 zS_8 i)
  have tk4 : zH t9 m3 := by rw [hm3]; exact zH_cp tk2 (Or.inr (Or.inr (tk2 8 (by unfold zQ; omega))))
  refine zW.step (st1 := (33, [(some (.ref 0))], [], z_hup (zk c m1) 17 (.inl (0, 188, .inl (va_cpy (fun j => Int32.ofInt (m1 8 j)) (fun j => Int32.ofInt (m1 17 j)) (Int32.ofInt 0).toNatClampNeg (Int32.ofInt 0).toNatClampNeg ((Int16.ofInt 188).toInt32).toNatClampNeg))))) (st2 := (33, [(some (.ref 0))], [], zk c m3)) ⟨[zo, zo, zo, zo, zo, zo, zo, zo, (false, 0, none, (0, 0, fun _ => .inl (0, 188, .inl (fun j => Int32.ofInt (m1 8 j)))), some (.inl (0, 188, .inl (fun j => Int32.ofInt (m1 17 j)))))], _, rfl, ⟨trivial, (Nat.lt_of_lt_of_le (Nat.le_of_ble_eq_true rfl) hN), (Nat.lt_of_lt_of_le (Nat.le_of_ble_eq_true rfl) hN), trivial, trivial, (Nat.lt_of_lt_of_le (Nat.le_of_ble_eq_true rfl) hN), trivial, trivial, ⟨zk_ra c m1 zA_17 (Nat.lt_of_lt_of_le (Nat.le_of_ble_eq_true rfl) hN), zk_ra c m1 zA_8 (Nat.lt_of_lt_of_le (Nat.le_of_ble_eq_true rfl) hN), (by decide), (by decide), (by decide), (by decide), (by decide), (Nat.le_of_ble_eq_true rfl)⟩, trivial⟩⟩ (z_steq rfl rfl ((zk_acp c m1 zA_17 rfl rfl (by decide : (Int16.ofInt 188).toInt32 = Int32.ofInt 188) (⟨by decide, by decide⟩ : zR 188)).trans (by rw [hm3]; rfl))) ?_
  refine zW.step (st1 := (37, [(some (.ref 0))], [.ref 23], zk c m3)) (st2 := (37, [(some (.ref 0))], [.ref 23], zk c m3)) ⟨[zo, zo], _, rfl, ⟨trivial, (Nat.lt_of_lt_of_le (Nat.le_of_ble_eq_true rfl) hN), trivial⟩⟩ rfl ?_
  obtain ⟨m5, hs5, hIm5, kN_5⟩ := S_X5_forget zn (d + 1) hN hC m3 hIm3
  refine zW.step (st1 := (40, [(some (.ref 0))], [], zk c m5)) ⟨[zc (none) (zk c m5)], _, rfl, ⟨⟨⟨(Nat.lt_of_lt_of_le (Nat.le_of_ble_eq_true rfl) hN), (Nat.le_of_ble_eq_true rfl)⟩, hs5, (Nat.le_of_ble_eq_true rfl), Nat.le_refl _, Nat.le_refl _, Nat.le_refl _, Nat.le_refl _⟩, trivial⟩⟩ rfl ?_
  have tk6 : zH t9 m5 := zH_N tk4 kN_5
  obtain ⟨m7, hm7⟩ : ∃ q, q = zm_up m5 75 5 0 := ⟨_, rfl⟩
  have hIm7 : zI c mM m7 := by rw [hm7]; exact zI_up hIm5 (by unfold zOk; omega) (show (0 : Int) ≤ 0 ∧ 0 ≤ 6 by omega)
  have em7 : m7 75 5 = 0 := by rw [hm7]; exact zm_eq
  have tk8 : zH t9 m7 := by rw [hm7]; exact zH_up tk6 (by unfold zQ; omega)
  clear tk6
  refine zW.step (st1 := (48, [(some (.ref 0))], [], z_hup (zk c m5) 75 (.inr (1, [.ref 13, .ref 18, .ref 76, .ref 77, .ref 78, .int (Int32.ofInt 0)])))) (st2 := (48, [(some (.ref 0))], [], zk c m7)) ⟨[zo, zo, zo, zo], _, rfl, ⟨trivial, (Nat.lt_of_lt_of_le (Nat.le_of_ble_eq_true rfl) hN), trivial, ⟨(Nat.lt_of_lt_of_le (Nat.le_of_ble_eq_true rfl) hN), rfl, rfl⟩, trivial⟩⟩ (z_steq rfl rfl ((zk_up c m5 75 5 0 _ rfl).trans (by rw [hm7]))) ?_
  obtain ⟨m9, hm9⟩ : ∃ q, q = zm_up m7 0 12 1 := ⟨_, rfl⟩
  have hIm9 : zI c mM m9 := by rw [hm9]; exact zI_up hIm7 (by unfold zOk; omega) (show (0 : Int) ≤ 1 ∧ 1 ≤ 1 by omega)
  have em9 : m9 0 12 = 1 := by rw [hm9]; exact zm_eq
  have tk10 : zH t9 m9 := by rw [hm9]; exact zH_up tk8 (by unfold zQ; omega)
  clear tk8
  refine zW.step (st1 := (53, [(some (.ref 0))], [], z_hup (zk c m7) 0 (.inr (11, [.ref 1, .ref 3, .ref 10, .ref 12, .ref 13, .ref 17, .ref 18, .ref 23, .ref 68, .ref 69, .ref 73, .ref 75, .int (Int32.ofInt 1), .int (Int32.ofInt (m7 0 13)), .int (Int32.ofInt (m7 0 14))])))) (st2 := (53, [(some (.ref 0))], [], zk c m9)) ⟨[zo, zo, zo], _, rfl, ⟨trivial, trivial, ⟨(Nat.lt_of_lt_of_le (Nat.le_of_ble_eq_true rfl) hN), (z_narZ rfl (by omega)), rfl⟩, trivial⟩⟩ (z_steq rfl rfl ((zk_up c m7 0 12 1 _ rfl).trans (by rw [hm9]))) ?_
  clear em7
  obtain ⟨m11, hm11⟩ : ∃ q, q = zm_up m9 1 1 0 := ⟨_, rfl⟩
  have hIm11 : zI c mM m11 := by rw [hm11]; exact zI_up hIm9 (by unfold zOk; omega) (show (0 : Int) ≤ 0 ∧ 0 ≤ 240 by omega)
  have em11 : m11 1 1 = 0 := by rw [hm11]; exact zm_eq
  have tk12 : zH t9 m11 := by rw [hm11]; exact zH_up tk10 (by unfold zQ; omega)
  clear tk10
  refine zW.step (st1 := (61, [(some (.ref 0))], [], z_hup (zk c m9) 1 (.inr (8, [.ref 2, .int (Int32.ofInt 0), .int (Int32.ofInt (m9 1 2)), .int (Int32.ofInt (m9 1 3))])))) (st2 := (61, [(some (.ref 0))], [], zk c m11)) ⟨[zo, zo, zo, zo], _, rfl, ⟨trivial, (Nat.lt_of_lt_of_le (Nat.le_of_ble_eq_true rfl) hN), trivial, ⟨(Nat.lt_of_lt_of_le (Nat.le_of_ble_eq_true rfl) hN), rfl, rfl⟩, trivial⟩⟩ (z_steq rfl rfl ((zk_up c m9 1 1 0 _ rfl).trans (by rw [hm11]))) ?_
  clear em9
  have f13 : (0 : Int) ≤ m11 17 185 ∧ m11 17 185 ≤ 10 := zr_c hIm11 zS_17
  refine zW.step (st1 := (69, [(some (.ref 0))], [.int (Int32.ofInt (m11 17 ((Int16.ofInt 185).toInt32).toNatClampNeg))], zk c m11)) (st2 := (69, [(some (.ref 0))], [.int (Int32.ofInt (m11 17 185))], zk c m11)) ⟨[zo, zo, zo, (false, 0, none, zh0, some (.inl (0, 188, .inl (fun j => Int32.ofInt (m11 17 j)))))], _, rfl, ⟨trivial, (Nat.lt_of_lt_of_le (Nat.le_of_ble_eq_true rfl) hN), trivial, ⟨zk_ra c m11 zA_17 (Nat.lt_of_lt_of_le (Nat.le_of_ble_eq_true rfl) hN), zi_in (by decide : (Int16.ofInt 185).toInt32 = Int32.ofInt 185) (by omega) (by omega) (by omega)⟩, trivial⟩⟩ (z_steq rfl (z_c1 (z_vi ((zk_rd (f := m11 17) (by decide : (Int16.ofInt 185).toInt32 = Int32.ofInt 185) (⟨by decide, by decide⟩ : zR 185)).trans rfl : Int32.ofInt (m11 17 ((Int16.ofInt 185).toInt32).toNatClampNeg) = Int32.ofInt (m11 17 185))) rfl) rfl) ?_
  exact zW.fin (zfin_i rfl rfl rfl) ⟨m11 17 185, m11, rfl, rfl, hIm11, (by omega), (zH_le tk12 (by omega))⟩

set_option maxRecDepth 100000 in
set_option maxHeartbeats 4000000 in
theorem S_X11_text_0 (zn : Bool) (d : Nat) {c : Nat × Nat} {mM : zM} (hN : 107 ≤ c.1) (hC : c.1 < z_RO) (sort : Int) (t9 : Int) (m : zM) (hIm : zI c mM m) (r_sort : -2147483648 ≤ sort ∧ sort ≤ 2147483647) (ht : 0 ≤ t9 ∧ t9 ≤ 999999000) (hH : zH t9 m) (s0 : sort ≠ 1) : zCi zn (d + 9) 180 [.ref 0, .int (Int32.ofInt sort)] c m (fun (r : Int) (m1 : zM) => zI c mM m1 ∧ (-2147483648 ≤ r ∧ r ≤ 2147483647) ∧ zH (t9) m1) := by
  refine zCi.of zu_X11_text hC (Nat.le_of_ble_eq_true rfl) ?_
  show zW zn (d + 8) 180 c (0, [(some (.ref 0)), (some (.int (Int32.ofInt sort)))], [], zk c m) (fun v h1 => ∃ (r : Int) (m1 : zM), v = some (.int (Int32.ofInt r)) ∧ h1 = zk c m1 ∧ zI c mM m1 ∧ (-2147483648 ≤ r ∧ r ≤ 2147483647) ∧ zH (t9) m1)
  by_cases b1 : sort = 0
  · refine zW.step (st1 := (4, [(some (.ref 0)), (some (.int (Int32.ofInt sort)))], [], zk c m)) (st2 := (4, [(some (.ref 0)), (some (.int (Int32.ofInt sort)))], [], zk c m)) ⟨[zo, zo], _, rfl, ⟨trivial, zbf (fun q => q ((zi_eq rfl (rfl : (0 : Int32) = Int32.ofInt 0) (by unfold zR; omega) (⟨by decide, by decide⟩ : zR 0)).mpr b1)), trivial⟩⟩ rfl ?_
    refine zW.step (st1 := (8, [(some (.ref 0)), (some (.int (Int32.ofInt sort)))], [.ref 3], zk c m)) (st2 := (8, [(some (.ref 0)), (some (.int (Int32.ofInt sort)))], [.ref 3], zk c m)) ⟨[zo, zo], _, rfl, ⟨trivial, (Nat.lt_of_lt_of_le (Nat.le_of_ble_eq_true rfl) hN), trivial⟩⟩ rfl ?_
    obtain ⟨r2, m2, hs2, hIm2, q_2, kH_2⟩ := S_X4_read zn (d + 0) hN hC t9 m hIm (by omega) hH
    refine zW.step (st1 := (11, [(some (.ref 0)), (some (.int (Int32.ofInt sort)))], [.int (Int32.ofInt r2)], zk c m2)) ⟨[zc (some (.int (Int32.ofInt r2))) (zk c m2)], _, rfl, ⟨⟨⟨(Nat.lt_of_lt_of_le (Nat.le_of_ble_eq_true rfl) hN), (Nat.le_of_ble_eq_true rfl)⟩, hs2, (Nat.le_of_ble_eq_true rfl), Nat.le_refl _, Nat.le_refl _, Nat.le_refl _, Nat.le_refl _⟩, trivial⟩⟩ rfl ?_
    have tk3 : zH t9 m2 := kH_2
    by_cases b4 : r2 = (-1)
    · refine zW.step (st1 := (15, [(some (.ref 0)), (some (.int (Int32.ofInt sort)))], [], zk c m2)) (st2 := (15, [(some (.ref 0)), (some (.int (Int32.ofInt sort)))], [], zk c m2)) ⟨[zo, zo], _, rfl, ⟨trivial, zbf (fun q => q ((zi_eq rfl rfl (by unfold zR; omega) (⟨by decide, by decide⟩ : zR (-1))).mpr b4)), trivial⟩⟩ rfl ?_
      refine zW.step (st1 := (16, [(some (.ref 0)), (some (.int (Int32.ofInt sort)))], [.ref 0], zk c m2)) (st2 := (16, [(some (.ref 0)), (some (.int (Int32.ofInt sort)))], [.ref 0], zk c m2)) ⟨[zo], _, rfl, ⟨trivial, trivial⟩⟩ rfl ?_
      obtain ⟨r5, m5, hs5, hIm5, q_5, kH_5⟩ := S_X11_moveIn zn (d + 5) hN hC t9 m2 hIm2 (by omega) tk3
      refine zW.step (st1 := (19, [(some (.ref 0)), (some (.int (Int32.ofInt sort)))], [.int (Int32.ofInt r5)], zk c m5)) ⟨[zc (some (.int (Int32.ofInt r5))) (zk c m5)], _, rfl, ⟨⟨⟨(Nat.lt_of_lt_of_le (Nat.le_of_ble_eq_true rfl) hN), (Nat.le_of_ble_eq_true rfl)⟩, hs5, (Nat.le_of_ble_eq_true rfl), Nat.le_refl _, Nat.le_refl _, Nat.le_refl _, Nat.le_refl _⟩, trivial⟩⟩ rfl ?_
      have tk6 : zH t9 m5 := kH_5
      refine zW.step (st1 := (23, [(some (.ref 0)), (some (.int (Int32.ofInt sort)))], [.int (Int32.ofInt r5)], zk c m5)) (st2 := (23, [(some (.ref 0)), (some (.int (Int32.ofInt sort)))], [.int (Int32.ofInt r5)], zk c m5)) ⟨[zo], _, rfl, ⟨trivial, trivial⟩⟩ rfl ?_
      exact zW.fin (zfin_i rfl rfl rfl) ⟨r5, m5, rfl, rfl, hIm5, (by omega), (zH_le tk6 (by omega))⟩
    · refine zW.step (st1 := (22, [(some (.ref 0)), (some (.int (Int32.ofInt sort)))], [], zk c m2)) (st2 := (22, [(some (.ref 0)), (some (.int (Int32.ofInt sort)))], [], zk c m2)) ⟨[zo, zt], _, rfl, ⟨trivial, zbt (fun q => b4 ((zi_eq rfl rfl (by unfold zR; omega) (⟨by decide, by decide⟩ : zR (-1))).mp q)), trivial⟩⟩ rfl ?_
      refine zW.step (st1 := (23, [(some (.ref 0)), (some (.int (Int32.ofInt sort)))], [.int (Int32.ofInt (-1))], zk c m2)) (st2 := (23, [(some (.ref 0)), (some (.int (Int32.ofInt sort)))], [.int (Int32.ofInt (-1))], zk c m2)) ⟨[zo], _, rfl, ⟨trivial, trivial⟩⟩ rfl ?_
      exact zW.fin (zfin_i rfl rfl rfl) ⟨(-1), m2, rfl, rfl, hIm2, (by omega), (zH_le tk3 (by omega))⟩
  · refine zW.step (st1 := (24, [(some (.ref 0)), (some (.int (Int32.ofInt sort)))], [], zk c m)) (st2 := (24, [(some (.ref 0)), (some (.int (Int32.ofInt sort)))], [], zk c m)) ⟨[zo, zt], _, rfl, ⟨trivial, zbt (fun q => b1 ((zi_eq rfl (rfl : (0 : Int32) = Int32.ofInt 0) (by unfold zR; omega) (⟨by decide, by decide⟩ : zR 0)).mp q)), trivial⟩⟩ rfl ?_
    by_cases b7 : sort = 1
    · refine zW.step (st1 := (29, [(some (.ref 0)), (some (.int (Int32.ofInt sort)))], [], zk c m)) (st2 := (29, [(some (.ref 0)), (some (.int (Int32.ofInt sort)))], [], zk c m)) ⟨[zo, zo, zo], _, rfl, ⟨trivial, trivial, zbf (fun q => q ((zi_eq rfl rfl (by unfold zR; omega) (⟨by decide, by decide⟩ : zR 1)).mpr b7)), trivial⟩⟩ rfl ?_
      exfalso; omega
    · refine zW.step (st1 := (57, [(some (.ref 0)), (some (.int (Int32.ofInt sort)))], [], zk c m)) (st2 := (57, [(some (.ref 0)), (some (.int (Int32.ofInt sort)))], [], zk c m)) ⟨[zo, zo, zt], _, rfl, ⟨trivial, trivial, zbt (fun q => b7 ((zi_eq rfl rfl (by unfold zR; omega) (⟨by decide, by decide⟩ : zR 1)).mp q)), trivial⟩⟩ rfl ?_
      refine zW.step (st1 := (58, [(some (.ref 0)), (some (.int (Int32.ofInt sort)))], [.int (Int32.ofInt (-1))], zk c m)) (st2 := (58, [(some (.ref 0)), (some (.int (Int32.ofInt sort)))], [.int (Int32.ofInt (-1))], zk c m)) ⟨[zo], _, rfl, ⟨trivial, trivial⟩⟩ rfl ?_
      exact zW.fin (zfin_i rfl rfl rfl) ⟨(-1), m, rfl, rfl, hIm, (by omega), (zH_le hH (by omega))⟩

