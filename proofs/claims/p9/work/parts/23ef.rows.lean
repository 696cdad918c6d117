/-! texts, by program (wip/tools/gw5): X4_onePerson_F -/
set_option maxRecDepth 100000 in
set_option maxHeartbeats 4000000 in
theorem S_X4_onePerson_F (zn : Bool) (d : Nat) {c : Nat × Nat} {mM : zM} (hN : 107 ≤ c.1) (hC : c.1 < z_RO) (a9 : Int) (m : zM) (hIm : zI c mM m) (ha9 : m 1 2 = a9) (hb9 : 0 ≤ a9 ∧ a9 ≤ mM 1 1) (hr : m 4 4 ≤ 5) : zCi zn (d + 6) 78 [.ref 3] c m (fun (r : Int) (m1 : zM) => zI c mM m1 ∧ (0 ≤ r ∧ r ≤ 1) ∧ (r = (zcl_p (mM 2) (mM 1 1) a9 (zWc m)).1 ∧ m1 1 2 = (zcl_p (mM 2) (mM 1 1) a9 (zWc m)).2.1) ∧ (r = 1 → zWc m1 = (zcl_p (mM 2) (mM 1 1) a9 (zWc m)).2.2) ∧ (a9 ≤ m1 1 2 ∧ m1 1 2 ≤ mM 1 1) ∧ (m1 8 185 = m 8 185) ∧ zN m m1 ∧ zD9 (fun p i => (p = 1 ∧ (i = 2 ∨ i = 3)) ∨ (4 ≤ p ∧ p ≤ 9)) m m1) := by
  refine zCi.of zu_X4_onePerson hC (Nat.le_of_ble_eq_true rfl) ?_
  show zW zn (d + 5) 78 c (0, [(some (.ref 3)), none], [], zk c m) (fun v h1 => ∃ (r : Int) (m1 : zM), v = some (.int (Int32.ofInt r)) ∧ h1 = zk c m1 ∧ zI c mM m1 ∧ (0 ≤ r ∧ r ≤ 1) ∧ (r = (zcl_p (mM 2) (mM 1 1) a9 (zWc m)).1 ∧ m1 1 2 = (zcl_p (mM 2) (mM 1 1) a9 (zWc m)).2.1) ∧ (r = 1 → zWc m1 = (zcl_p (mM 2) (mM 1 1) a9 (zWc m)).2.2) ∧ (a9 ≤ m1 1 2 ∧ m1 1 2 ≤ mM 1 1) ∧ (m1 8 185 = m 8 185) ∧ zN m m1 ∧ zD9 (fun p i => (p = 1 ∧ (i = 2 ∨ i = 3)) ∨ (4 ≤ p ∧ p ≤ 9)) m m1)
  have f1 : (0 : Int) ≤ m 1 1 ∧ m 1 1 ≤ 240 := hIm.1 1 1
  have f2 : (0 : Int) ≤ m 1 2 ∧ m 1 2 ≤ 240 := hIm.1 1 2
  have f3 : (0 : Int) ≤ m 4 3 ∧ m 4 3 ≤ 5 := hIm.1 4 3
  have f4 : (0 : Int) ≤ m 4 4 ∧ m 4 4 ≤ 6 := hIm.1 4 4
  have f5 : (0 : Int) ≤ m 8 185 ∧ m 8 185 ≤ 10 := zr_c hIm zS_8
  have q6 := zn_c hIm
  obtain ⟨m7, hm7⟩ : ∃ q, q = zm_up m 9 0 2 := ⟨_, rfl⟩
  have hIm7 : zI c mM m7 := by rw [hm7]; exact zI_up hIm (zOk_p (by decide)) (show (-2147483648 : Int) ≤ 2 ∧ 2 ≤ 2147483647 by omega)
  have em7 : m7 9 0 = 2 := by rw [hm7]; exact zm_eq
  have f8 : m7 1 1 = m 1 1 := by rw [hm7]; exact zm_ne (by omega)
  have f9 : m7 1 2 = m 1 2 := by rw [hm7]; exact zm_ne (by omega)
  have f10 : m7 4 3 = m 4 3 := by rw [hm7]; exact zm_ne (by omega)
  have f11 : m7 4 4 = m 4 4 := by rw [hm7]; exact zm_ne (by omega)
  have f12 : m7 8 185 = m 8 185 := by rw [hm7]; exact zm_ne (by omega)
  have tk13 : zN m m7 := by rw [hm7]; exact zN_up zN_rf (by unfold zRow; omega)
  have tk14 : zD9 (fun p i => (p = 1 ∧ (i = 2 ∨ i = 3)) ∨ (4 ≤ p ∧ p ≤ 9)) m m7 := by rw [hm7]; exact zD9_up zD9_rf (by first | rfl | omega | (dsimp only; omega))
  refine zW.step (st1 := (7, [(some (.ref 3)), none], [], z_hup (zk c m) 9 (.inl (0, 7, .inl (upd (fun j => Int32.ofInt (m 9 j)) (Int32.ofInt 0).toNatClampNeg (Int32.ofInt 2)))))) (st2 := (7, [(some (.ref 3)), none], [], zk c m7)) ⟨[zo, zo, zo, zo, (false, 0, none, zh0, some (.inl (0, 7, .inl (fun j => Int32.ofInt (m 9 j)))))], _, rfl, ⟨trivial, (Nat.lt_of_lt_of_le (Nat.le_of_ble_eq_true rfl) hN), trivial, trivial, ⟨zk_ra c m zA_9 (Nat.lt_of_lt_of_le (Nat.le_of_ble_eq_true rfl) hN), zi_in rfl (by omega) (by omega) (by omega)⟩, trivial⟩⟩ (z_steq rfl rfl ((zk_ias c m zA_9 rfl (⟨by decide, by decide⟩ : zR 0) rfl).trans (by rw [hm7]; rfl))) ?_
  obtain ⟨m15, hm15⟩ : ∃ q, q = zm_up m7 9 1 0 := ⟨_, rfl⟩
  have hIm15 : zI c mM m15 := by rw [hm15]; exact zI_up hIm7 (zOk_p (by decide)) (show (-2147483648 : Int) ≤ 0 ∧ 0 ≤ 2147483647 by omega)
  have em15 : m15 9 1 = 0 := by rw [hm15]; exact zm_eq
  have f16 : m15 1 1 = m7 1 1 := by rw [hm15]; exact zm_ne (by omega)
  have f17 : m15 1 2 = m7 1 2 := by rw [hm15]; exact zm_ne (by omega)
  have f18 : m15 4 3 = m7 4 3 := by rw [hm15]; exact zm_ne (by omega)
  have f19 : m15 4 4 = m7 4 4 := by rw [hm15]; exact zm_ne (by omega)
  have f20 : m15 8 185 = m7 8 185 := by rw [hm15]; exact zm_ne (by omega)
  have tk21 : zN m m15 := by rw [hm15]; exact zN_up tk13 (by unfold zRow; omega)
  have tk22 : zD9 (fun p i => (p = 1 ∧ (i = 2 ∨ i = 3)) ∨ (4 ≤ p ∧ p ≤ 9)) m m15 := by rw [hm15]; exact zD9_up tk14 (by first | rfl | omega | (dsimp only; omega))
  clear tk13 tk14
  refine zW.step (st1 := (14, [(some (.ref 3)), none], [], z_hup (zk c m7) 9 (.inl (0, 7, .inl (upd (fun j => Int32.ofInt (m7 9 j)) (Int32.ofInt 1).toNatClampNeg (Int32.ofInt 0)))))) (st2 := (14, [(some (.ref 3)), none], [], zk c m15)) ⟨[zo, zo, zo, zo, (false, 0, none, zh0, some (.inl (0, 7, .inl (fun j => Int32.ofInt (m7 9 j)))))], _, rfl, ⟨trivial, (Nat.lt_of_lt_of_le (Nat.le_of_ble_eq_true rfl) hN), trivial, trivial, ⟨zk_ra c m7 zA_9 (Nat.lt_of_lt_of_le (Nat.le_of_ble_eq_true rfl) hN), zi_in rfl (by omega) (by omega) (by omega)⟩, trivial⟩⟩ (z_steq rfl rfl ((zk_ias c m7 zA_9 rfl (⟨by decide, by decide⟩ : zR 1) rfl).trans (by rw [hm15]; rfl))) ?_
  refine zW.step (st1 := (23, [(some (.ref 3)), none], [.ref (z_RO + 207), .ref (z_RO + 206), .ref (z_RO + 2), .ref 3], zk c m15)) (st2 := (23, [(some (.ref 3)), none], [.ref (z_RO + 207), .ref (z_RO + 206), .ref (z_RO + 2), .ref 3], zk c m15)) ⟨[zo, zo, zo, zo], _, rfl, ⟨trivial, trivial, trivial, trivial, trivial⟩⟩ rfl ?_
  obtain ⟨r23, m23, hs23, hIm23, z_23, p_23, w_23, b_23, kN_23, kD_23⟩ := S_X4_takesItems_2F zn (d + 0) hN hC a9 m15 hIm15 (by omega) (by omega)
  refine zW.step (st1 := (26, [(some (.ref 3)), none], [.int (Int32.ofInt r23)], zk c m23)) ⟨[zc (some (.int (Int32.ofInt r23))) (zk c m23)], _, rfl, ⟨⟨⟨(Nat.lt_of_lt_of_le (Nat.le_of_ble_eq_true rfl) hN), (Nat.le_of_ble_eq_true rfl)⟩, hs23, (Nat.le_of_ble_eq_true rfl), Nat.le_refl _, Nat.le_refl _, Nat.le_refl _, Nat.le_refl _⟩, trivial⟩⟩ rfl ?_
  have f24 : (0 : Int) ≤ m23 1 1 ∧ m23 1 1 ≤ 240 := hIm23.1 1 1
  have f25 : m23 1 1 = m15 1 1 := kD_23 1 1 (by omega)
  have f26 : (0 : Int) ≤ m23 1 2 ∧ m23 1 2 ≤ 240 := hIm23.1 1 2
  have f27 : (0 : Int) ≤ m23 4 3 ∧ m23 4 3 ≤ 5 := hIm23.1 4 3
  have f28 : m23 4 3 = m15 4 3 := kD_23 4 3 (by omega)
  have f29 : (0 : Int) ≤ m23 4 4 ∧ m23 4 4 ≤ 6 := hIm23.1 4 4
  have f30 : m23 4 4 = m15 4 4 := kD_23 4 4 (by omega)
  have f31 : (0 : Int) ≤ m23 8 185 ∧ m23 8 185 ≤ 10 := zr_c hIm23 zS_8
  have f32 : m23 8 185 = m15 8 185 := kD_23 8 185 (by omega)
  have tk33 : zN m m23 := zN_tr tk21 kN_23
  have tk34 : zD9 (fun p i => (p = 1 ∧ (i = 2 ∨ i = 3)) ∨ (4 ≤ p ∧ p ≤ 9)) m m23 := zD9_tr tk22 (zD9_mo kD_23 (fun p i w => by have w2 : (p = 1 ∧ (i = 2 ∨ i = 3)) ∨ p = 9 := w; show (p = 1 ∧ (i = 2 ∨ i = 3)) ∨ (4 ≤ p ∧ p ≤ 9); omega))
  have q35 := zip_e (mM 2) (mM 1 1) a9 (v := m15 9) (by rw [hm15, zm_ne (Or.inr (by decide)), hm7]; exact zm_eq) (by rw [hm15]; exact zm_eq)
  by_cases b36 : r23 = 0
  · refine zW.step (st1 := (29, [(some (.ref 3)), none], [], zk c m23)) (st2 := (29, [(some (.ref 3)), none], [], zk c m23)) ⟨[zo], _, rfl, ⟨zbf (fun q => q ((zi_eq rfl (rfl : (0 : Int32) = Int32.ofInt 0) (by unfold zR; omega) (⟨by decide, by decide⟩ : zR 0)).mpr b36)), trivial⟩⟩ rfl ?_
    have q37 := zcl_p_0 (mM 2) (mM 1 1) a9 (zWc m) (by omega)
    refine zW.step (st1 := (30, [(some (.ref 3)), none], [.int (Int32.ofInt 0)], zk c m23)) (st2 := (30, [(some (.ref 3)), none], [.int (Int32.ofInt 0)], zk c m23)) ⟨[zo], _, rfl, ⟨trivial, trivial⟩⟩ rfl ?_
    exact zW.fin (zfin_i rfl rfl rfl) ⟨0, m23, rfl, rfl, hIm23, (by omega), (by omega), (by intro h; exact absurd h (by decide)), (by omega), (by omega), tk33, tk34⟩
  · refine zW.step (st1 := (31, [(some (.ref 3)), none], [], zk c m23)) (st2 := (31, [(some (.ref 3)), none], [], zk c m23)) ⟨[zt], _, rfl, ⟨zbt (fun q => b36 ((zi_eq rfl (rfl : (0 : Int32) = Int32.ofInt 0) (by unfold zR; omega) (⟨by decide, by decide⟩ : zR 0)).mp q)), trivial⟩⟩ rfl ?_
    have f38 : (-2147483648 : Int) ≤ m23 9 0 ∧ m23 9 0 ≤ 2147483647 := hIm23.1 9 0
    obtain ⟨m39, hm39⟩ : ∃ q, q = zm_up m23 8 ((160 + (m23 4 4)).toNat) (m23 9 0) := ⟨_, rfl⟩
    have hIm39 : zI c mM m39 := by rw [hm39]; exact zI_up hIm23 (zOk_p (by decide)) (zrw_i zS_8 (by omega) (show (-2147483648 : Int) ≤ (m23 9 0) ∧ (m23 9 0) ≤ 2147483647 by omega))
    have em39 : m39 8 ((160 + (m23 4 4)).toNat) = (m23 9 0) := by rw [hm39]; exact zm_eq
    have f40 : m39 4 4 = m23 4 4 := by rw [hm39]; exact zm_ne (by omega)
    have f41 : m39 1 1 = m23 1 1 := by rw [hm39]; exact zm_ne (by omega)
    have f42 : m39 1 2 = m23 1 2 := by rw [hm39]; exact zm_ne (by omega)
    have f43 : m39 4 3 = m23 4 3 := by rw [hm39]; exact zm_ne (by omega)
    have f44 : m39 8 185 = m23 8 185 := by rw [hm39]; exact zm_ne (by omega)
    have tk45 : zN m m39 := by rw [hm39]; exact zN_up tk33 (by unfold zRow; omega)
    have tk46 : zD9 (fun p i => (p = 1 ∧ (i = 2 ∨ i = 3)) ∨ (4 ≤ p ∧ p ≤ 9)) m m39 := by rw [hm39]; exact zD9_up tk34 (by first | rfl | omega | (dsimp only; omega))
    clear tk33 tk34
    refine zW.step (st1 := (55, [(some (.ref 3)), (some (.int (Int32.ofInt (m23 4 4))))], [], z_hup (zk c m23) 8 (.inl (0, 188, .inl (upd (fun j => Int32.ofInt (m23 8 j)) (((Int16.ofInt 160).toInt32) + (Int32.ofInt (m23 4 4))).toNatClampNeg (Int32.ofInt (m23 9 (Int32.ofInt 0).toNatClampNeg))))))) (st2 := (55, [(some (.ref 3)), (some (.int (Int32.ofInt (m23 4 4))))], [], zk c m39)) ⟨[zo, zo, zo, zo, zo, zo, zo, zo, zo, zo, zo, zo, (false, 0, none, zh0, some (.inl (0, 7, .inl (fun j => Int32.ofInt (m23 9 j))))), (false, 0, none, zh0, some (.inl (0, 188, .inl (fun j => Int32.ofInt (m23 8 j)))))], _, rfl, ⟨trivial, (Nat.lt_of_lt_of_le (Nat.le_of_ble_eq_true rfl) hN), (Nat.lt_of_lt_of_le (Nat.le_of_ble_eq_true rfl) hN), trivial, trivial, (Nat.lt_of_lt_of_le (Nat.le_of_ble_eq_true rfl) hN), trivial, trivial, trivial, trivial, (Nat.lt_of_lt_of_le (Nat.le_of_ble_eq_true rfl) hN), trivial, ⟨zk_ra c m23 zA_9 (Nat.lt_of_lt_of_le (Nat.le_of_ble_eq_true rfl) hN), zi_in rfl (by omega) (by omega) (by omega)⟩, ⟨zk_ra c m23 zA_8 (Nat.lt_of_lt_of_le (Nat.le_of_ble_eq_true rfl) hN), zi_in (zi_add (by decide : (Int16.ofInt 160).toInt32 = Int32.ofInt 160) rfl) (by omega) (by omega) (by omega)⟩, trivial⟩⟩ (z_steq rfl rfl ((zk_ias c m23 zA_8 (zi_add (by decide : (Int16.ofInt 160).toInt32 = Int32.ofInt 160) rfl) (by unfold zR; omega) ((zk_rd (f := m23 9) rfl (⟨by decide, by decide⟩ : zR 0)).trans rfl : Int32.ofInt (m23 9 (Int32.ofInt 0).toNatClampNeg) = Int32.ofInt (m23 9 0))).trans (by rw [hm39]))) ?_
    have f47 : (-2147483648 : Int) ≤ m39 9 1 ∧ m39 9 1 ≤ 2147483647 := hIm39.1 9 1
    obtain ⟨m48, hm48⟩ : ∃ q, q = zm_up m39 8 ((166 + (m23 4 4)).toNat) (m39 9 1) := ⟨_, rfl⟩
    have hIm48 : zI c mM m48 := by rw [hm48]; exact zI_up hIm39 (zOk_p (by decide)) (zrw_i zS_8 (by omega) (show (-2147483648 : Int) ≤ (m39 9 1) ∧ (m39 9 1) ≤ 2147483647 by omega))
    have em48 : m48 8 ((166 + (m23 4 4)).toNat) = (m39 9 1) := by rw [hm48]; exact zm_eq
    have f49 : m48 4 4 = m39 4 4 := by rw [hm48]; exact zm_ne (by omega)
    have f50 : m48 1 1 = m39 1 1 := by rw [hm48]; exact zm_ne (by omega)
    have f51 : m48 1 2 = m39 1 2 := by rw [hm48]; exact zm_ne (by omega)
    have f52 : m48 4 3 = m39 4 3 := by rw [hm48]; exact zm_ne (by omega)
    have f53 : m48 8 185 = m39 8 185 := by rw [hm48]; exact zm_ne (by omega)
    have tk54 : zN m m48 := by rw [hm48]; exact zN_up tk45 (by unfold zRow; omega)
    have tk55 : zD9 (fun p i => (p = 1 ∧ (i = 2 ∨ i = 3)) ∨ (4 ≤ p ∧ p ≤ 9)) m m48 := by rw [hm48]; exact zD9_up tk46 (by first | rfl | omega | (dsimp only; omega))
    clear tk45 tk46
    refine zW.step (st1 := (71, [(some (.ref 3)), (some (.int (Int32.ofInt (m23 4 4))))], [], z_hup (zk c m39) 8 (.inl (0, 188, .inl (upd (fun j => Int32.ofInt (m39 8 j)) (((Int16.ofInt 166).toInt32) + (Int32.ofInt (m23 4 4))).toNatClampNeg (Int32.ofInt (m39 9 (Int32.ofInt 1).toNatClampNeg))))))) (st2 := (71, [(some (.ref 3)), (some (.int (Int32.ofInt (m23 4 4))))], [], zk c m48)) ⟨[zo, zo, zo, zo, zo, zo, zo, zo, (false, 0, none, zh0, some (.inl (0, 7, .inl (fun j => Int32.ofInt (m39 9 j))))), (false, 0, none, zh0, some (.inl (0, 188, .inl (fun j => Int32.ofInt (m39 8 j)))))], _, rfl, ⟨trivial, (Nat.lt_of_lt_of_le (Nat.le_of_ble_eq_true rfl) hN), trivial, trivial, trivial, trivial, (Nat.lt_of_lt_of_le (Nat.le_of_ble_eq_true rfl) hN), trivial, ⟨zk_ra c m39 zA_9 (Nat.lt_of_lt_of_le (Nat.le_of_ble_eq_true rfl) hN), zi_in rfl (by omega) (by omega) (by omega)⟩, ⟨zk_ra c m39 zA_8 (Nat.lt_of_lt_of_le (Nat.le_of_ble_eq_true rfl) hN), zi_in (zi_add (by decide : (Int16.ofInt 166).toInt32 = Int32.ofInt 166) rfl) (by omega) (by omega) (by omega)⟩, trivial⟩⟩ (z_steq rfl rfl ((zk_ias c m39 zA_8 (zi_add (by decide : (Int16.ofInt 166).toInt32 = Int32.ofInt 166) rfl) (by unfold zR; omega) ((zk_rd (f := m39 9) rfl (⟨by decide, by decide⟩ : zR 1)).trans rfl : Int32.ofInt (m39 9 (Int32.ofInt 1).toNatClampNeg) = Int32.ofInt (m39 9 1))).trans (by rw [hm48]))) ?_
    obtain ⟨m56, hm56⟩ : ∃ q, q = zm_up m48 8 ((178 + (m23 4 4)).toNat) (-1) := ⟨_, rfl⟩
    have hIm56 : zI c mM m56 := by rw [hm56]; exact zI_up hIm48 (zOk_p (by decide)) (zrw_i zS_8 (by omega) (show (-2147483648 : Int) ≤ (-1) ∧ (-1) ≤ 2147483647 by omega))
    have em56 : m56 8 ((178 + (m23 4 4)).toNat) = (-1) := by rw [hm56]; exact zm_eq
    have f57 : m56 4 4 = m48 4 4 := by rw [hm56]; exact zm_ne (by omega)
    have f58 : m56 1 1 = m48 1 1 := by rw [hm56]; exact zm_ne (by omega)
    have f59 : m56 1 2 = m48 1 2 := by rw [hm56]; exact zm_ne (by omega)
    have f60 : m56 4 3 = m48 4 3 := by rw [hm56]; exact zm_ne (by omega)
    have f61 : m56 8 185 = m48 8 185 := by rw [hm56]; exact zm_ne (by omega)
    have tk62 : zN m m56 := by rw [hm56]; exact zN_up tk54 (by unfold zRow; omega)
    have tk63 : zD9 (fun p i => (p = 1 ∧ (i = 2 ∨ i = 3)) ∨ (4 ≤ p ∧ p ≤ 9)) m m56 := by rw [hm56]; exact zD9_up tk55 (by first | rfl | omega | (dsimp only; omega))
    clear tk54 tk55
    refine zW.step (st1 := (82, [(some (.ref 3)), (some (.int (Int32.ofInt (m23 4 4))))], [], z_hup (zk c m48) 8 (.inl (0, 188, .inl (upd (fun j => Int32.ofInt (m48 8 j)) (((Int16.ofInt 178).toInt32) + (Int32.ofInt (m23 4 4))).toNatClampNeg (Int32.ofInt (-1))))))) (st2 := (82, [(some (.ref 3)), (some (.int (Int32.ofInt (m23 4 4))))], [], zk c m56)) ⟨[zo, zo, zo, zo, zo, zo, (false, 0, none, zh0, some (.inl (0, 188, .inl (fun j => Int32.ofInt (m48 8 j)))))], _, rfl, ⟨trivial, (Nat.lt_of_lt_of_le (Nat.le_of_ble_eq_true rfl) hN), trivial, trivial, trivial, trivial, ⟨zk_ra c m48 zA_8 (Nat.lt_of_lt_of_le (Nat.le_of_ble_eq_true rfl) hN), zi_in (zi_add (by decide : (Int16.ofInt 178).toInt32 = Int32.ofInt 178) rfl) (by omega) (by omega) (by omega)⟩, trivial⟩⟩ (z_steq rfl rfl ((zk_ias c m48 zA_8 (zi_add (by decide : (Int16.ofInt 178).toInt32 = Int32.ofInt 178) rfl) (by unfold zR; omega) rfl).trans (by rw [hm56]))) ?_
    obtain ⟨m64, hm64⟩ : ∃ q, q = zm_up m56 7 ((m23 4 4).toNat) 0 := ⟨_, rfl⟩
    have hIm64 : zI c mM m64 := by rw [hm64]; exact zI_up hIm56 (zOk_p (by decide)) (show (0 : Int) ≤ 0 ∧ 0 ≤ 8 by omega)
    have em64 : m64 7 ((m23 4 4).toNat) = 0 := by rw [hm64]; exact zm_eq
    have f65 : m64 4 4 = m56 4 4 := by rw [hm64]; exact zm_ne (by omega)
    have f66 : m64 1 1 = m56 1 1 := by rw [hm64]; exact zm_ne (by omega)
    have f67 : m64 1 2 = m56 1 2 := by rw [hm64]; exact zm_ne (by omega)
    have f68 : m64 4 3 = m56 4 3 := by rw [hm64]; exact zm_ne (by omega)
    have f69 : m64 8 185 = m56 8 185 := by rw [hm64]; exact zm_ne (by omega)
    have tk70 : zN m m64 := by rw [hm64]; exact zN_up tk62 (by unfold zRow; omega)
    have tk71 : zD9 (fun p i => (p = 1 ∧ (i = 2 ∨ i = 3)) ∨ (4 ≤ p ∧ p ≤ 9)) m m64 := by rw [hm64]; exact zD9_up tk63 (by first | rfl | omega | (dsimp only; omega))
    clear tk62 tk63
    refine zW.step (st1 := (92, [(some (.ref 3)), (some (.int (Int32.ofInt (m23 4 4))))], [], z_hup (zk c m56) 7 (.inl (0, 6, .inl (upd (fun j => Int32.ofInt (m56 7 j)) (Int32.ofInt (m23 4 4)).toNatClampNeg (Int32.ofInt 0)))))) (st2 := (92, [(some (.ref 3)), (some (.int (Int32.ofInt (m23 4 4))))], [], zk c m64)) ⟨[zo, zo, zo, zo, zo, (false, 0, none, zh0, some (.inl (0, 6, .inl (fun j => Int32.ofInt (m56 7 j)))))], _, rfl, ⟨trivial, (Nat.lt_of_lt_of_le (Nat.le_of_ble_eq_true rfl) hN), (Nat.lt_of_lt_of_le (Nat.le_of_ble_eq_true rfl) hN), trivial, trivial, ⟨zk_ra c m56 zA_7 (Nat.lt_of_lt_of_le (Nat.le_of_ble_eq_true rfl) hN), zi_in rfl (by omega) (by omega) (by omega)⟩, trivial⟩⟩ (z_steq rfl rfl ((zk_ias c m56 zA_7 rfl (by unfold zR; omega) rfl).trans (by rw [hm64]))) ?_
    have f72 : (0 : Int) ≤ m64 4 4 ∧ m64 4 4 ≤ 6 := hIm64.1 4 4
    obtain ⟨m73, hm73⟩ : ∃ q, q = zm_up m64 4 4 ((m64 4 4) + 1) := ⟨_, rfl⟩
    have hIm73 : zI c mM m73 := by rw [hm73]; exact zI_up hIm64 (zOk_p (by decide)) (show (0 : Int) ≤ ((m64 4 4) + 1) ∧ ((m64 4 4) + 1) ≤ 6 by omega)
    have em73 : m73 4 4 = ((m64 4 4) + 1) := by rw [hm73]; exact zm_eq
    have f74 : m73 1 1 = m64 1 1 := by rw [hm73]; exact zm_ne (by omega)
    have f75 : m73 1 2 = m64 1 2 := by rw [hm73]; exact zm_ne (by omega)
    have f76 : m73 4 3 = m64 4 3 := by rw [hm73]; exact zm_ne (by omega)
    have f77 : m73 8 185 = m64 8 185 := by rw [hm73]; exact zm_ne (by omega)
    have tk78 : zN m m73 := by rw [hm73]; exact zN_up tk70 (by unfold zRow; omega)
    have tk79 : zD9 (fun p i => (p = 1 ∧ (i = 2 ∨ i = 3)) ∨ (4 ≤ p ∧ p ≤ 9)) m m73 := by rw [hm73]; exact zD9_up tk71 (by first | rfl | omega | (dsimp only; omega))
    clear tk70 tk71
    refine zW.step (st1 := (105, [(some (.ref 3)), (some (.int (Int32.ofInt (m23 4 4))))], [], z_hup (zk c m64) 4 (.inr (6, [.ref 5, .ref 6, .ref 7, .int (Int32.ofInt (m64 4 3)), .int ((Int32.ofInt (m64 4 4)) + (Int32.ofInt 1))])))) (st2 := (105, [(some (.ref 3)), (some (.int (Int32.ofInt (m23 4 4))))], [], zk c m73)) ⟨[zo, zo, zo, zo, zo, zo, zo], _, rfl, ⟨trivial, (Nat.lt_of_lt_of_le (Nat.le_of_ble_eq_true rfl) hN), trivial, (Nat.lt_of_lt_of_le (Nat.le_of_ble_eq_true rfl) hN), trivial, trivial, ⟨(Nat.lt_of_lt_of_le (Nat.le_of_ble_eq_true rfl) hN), rfl, rfl⟩, trivial⟩⟩ (z_steq rfl rfl ((zk_up c m64 4 4 ((m64 4 4) + 1) _ ((congrArg (fun q => (.inr (6, [.ref 5, .ref 6, .ref 7, .int (Int32.ofInt (m64 4 3)), .int q]) : z_E)) (zi_add rfl rfl)).trans rfl)).trans (by rw [hm73]))) ?_
    have g0 := congrFun (w_23 (by omega)) 0
    have g1 := congrFun (w_23 (by omega)) 1
    have b1 : m39 = zm_up m23 8 (160 + (m 4 4).toNat) ((zipn (mM 2) (mM 1 1) a9).2.2 0) := by rw [hm39]; exact zupc (by omega) (g0.trans q35.2.2.1)
    have k9 : m39 9 1 = m23 9 1 := by rw [hm39]; exact zm_ne (Or.inl (by decide))
    have b2 : m48 = zm_up m39 8 (166 + (m 4 4).toNat) ((zipn (mM 2) (mM 1 1) a9).2.2 1) := by rw [hm48]; exact zupc (by omega) (k9.trans (g1.trans q35.2.2.2))
    have b3 : m56 = zm_up m48 8 (178 + (m 4 4).toNat) (-1) := by rw [hm56]; exact zupc (by omega) (by omega)
    have b4 : m64 = zm_up m56 7 (m 4 4).toNat 0 := by rw [hm64]; exact zupc (by omega) (by omega)
    have b5 : m73 = zm_up m64 4 4 ((((m 4 4).toNat : Nat) : Int) + 1) := by rw [hm73]; exact zupc rfl (by omega)
    have g4 : zWc m23 = zWc m := (zWc_D kD_23).trans (by rw [hm15, zWc_9, hm7, zWc_9])
    have g5 : zWc m73 = zcl_q (zWc m) (zipn (mM 2) (mM 1 1) a9).2.2 := (zWc_person2 (v := (zipn (mM 2) (mM 1 1) a9).2.2) (by omega) (by omega) (by omega) b1 b2 b3 b4 b5).trans (by rw [g4])
    have g6 := zWc_person3 (mB := m) (M1 := m) b3 b4 b5
    clear g0 g1 k9 b1 b2 b3 b4 b5
    have q81 := ztk_f (mM 2) (mM 1 1) 58 (zipn (mM 2) (mM 1 1) a9).2.1
    refine zW.step (st1 := (111, [(some (.ref 3)), (some (.int (Int32.ofInt (m23 4 4))))], [.int ((Int8.ofInt 58).toInt32), .ref 1], zk c m73)) (st2 := (111, [(some (.ref 3)), (some (.int (Int32.ofInt (m23 4 4))))], [.int (Int32.ofInt 58), .ref 1], zk c m73)) ⟨[zo, zo, zo], _, rfl, ⟨trivial, (Nat.lt_of_lt_of_le (Nat.le_of_ble_eq_true rfl) hN), trivial, trivial⟩⟩ (z_steq rfl (z_c1 (z_vi (by decide : (Int8.ofInt 58).toInt32 = Int32.ofInt 58)) rfl) rfl) ?_
    obtain ⟨r82, m82, hs82, hIm82, z_82, p_82, b_82, kN_82, kD_82⟩ := S_X8_takes_F zn (d + 2) hN hC 58 ((zipn (mM 2) (mM 1 1) a9).2.1) m73 hIm73 (by omega) (by omega) (by omega) (by omega)
    refine zW.step (st1 := (114, [(some (.ref 3)), (some (.int (Int32.ofInt (m23 4 4))))], [.int (Int32.ofInt r82)], zk c m82)) ⟨[zc (some (.int (Int32.ofInt r82))) (zk c m82)], _, rfl, ⟨⟨⟨(Nat.lt_of_lt_of_le (Nat.le_of_ble_eq_true rfl) hN), (Nat.le_of_ble_eq_true rfl)⟩, hs82, (Nat.le_of_ble_eq_true rfl), Nat.le_refl _, Nat.le_refl _, Nat.le_refl _, Nat.le_refl _⟩, trivial⟩⟩ rfl ?_
    have f83 : (0 : Int) ≤ m82 1 1 ∧ m82 1 1 ≤ 240 := hIm82.1 1 1
    have f84 : m82 1 1 = m73 1 1 := kD_82 1 1 (by omega)
    have f85 : (0 : Int) ≤ m82 1 2 ∧ m82 1 2 ≤ 240 := hIm82.1 1 2
    have f86 : (0 : Int) ≤ m82 4 3 ∧ m82 4 3 ≤ 5 := hIm82.1 4 3
    have f87 : m82 4 3 = m73 4 3 := kD_82 4 3 (by omega)
    have f88 : (0 : Int) ≤ m82 4 4 ∧ m82 4 4 ≤ 6 := hIm82.1 4 4
    have f89 : m82 4 4 = m73 4 4 := kD_82 4 4 (by omega)
    have f90 : (0 : Int) ≤ m82 8 185 ∧ m82 8 185 ≤ 10 := zr_c hIm82 zS_8
    have f91 : m82 8 185 = m73 8 185 := kD_82 8 185 (by omega)
    have tk92 : zN m m82 := zN_tr tk78 kN_82
    have tk93 : zD9 (fun p i => (p = 1 ∧ (i = 2 ∨ i = 3)) ∨ (4 ≤ p ∧ p ≤ 9)) m m82 := zD9_tr tk79 (zD9_mo kD_82 (fun p i w => by have w2 : p = 1 ∧ (i = 2 ∨ i = 3) := w; show (p = 1 ∧ (i = 2 ∨ i = 3)) ∨ (4 ≤ p ∧ p ≤ 9); omega))
    by_cases b94 : r82 = 0
    · refine zW.step (st1 := (125, [(some (.ref 3)), (some (.int (Int32.ofInt (m23 4 4))))], [], zk c m82)) (st2 := (125, [(some (.ref 3)), (some (.int (Int32.ofInt (m23 4 4))))], [], zk c m82)) ⟨[zt], _, rfl, ⟨zbt ((zi_eq rfl (rfl : (0 : Int32) = Int32.ofInt 0) (by unfold zR; omega) (⟨by decide, by decide⟩ : zR 0)).mpr b94), trivial⟩⟩ rfl ?_
      have q95 := zcl_p_1 (mM 2) (mM 1 1) a9 (zWc m) (by omega) (by omega)
      refine zW.step (st1 := (126, [(some (.ref 3)), (some (.int (Int32.ofInt (m23 4 4))))], [.int (Int32.ofInt 1)], zk c m82)) (st2 := (126, [(some (.ref 3)), (some (.int (Int32.ofInt (m23 4 4))))], [.int (Int32.ofInt 1)], zk c m82)) ⟨[zo], _, rfl, ⟨trivial, trivial⟩⟩ rfl ?_
      exact zW.fin (zfin_i rfl rfl rfl) ⟨1, m82, rfl, rfl, hIm82, (by omega), (by omega), (by intro _; rw [q95.2.2, ← g5]; exact zWc_D1 kD_82), (by omega), (by omega), tk92, tk93⟩
    · refine zW.step (st1 := (117, [(some (.ref 3)), (some (.int (Int32.ofInt (m23 4 4))))], [], zk c m82)) (st2 := (117, [(some (.ref 3)), (some (.int (Int32.ofInt (m23 4 4))))], [], zk c m82)) ⟨[zo], _, rfl, ⟨zbf (fun q => b94 ((zi_eq rfl (rfl : (0 : Int32) = Int32.ofInt 0) (by unfold zR; omega) (⟨by decide, by decide⟩ : zR 0)).mp q)), trivial⟩⟩ rfl ?_
      have q96 := show zwa (mM 2) (mM 1 1) a9 = (ztk (mM 2) (mM 1 1) 58 (zipn (mM 2) (mM 1 1) a9).2.1).2 from rfl
      refine zW.step (st1 := (119, [(some (.ref 3)), (some (.int (Int32.ofInt (m23 4 4))))], [.int (Int32.ofInt (m23 4 4)), .ref 3], zk c m82)) (st2 := (119, [(some (.ref 3)), (some (.int (Int32.ofInt (m23 4 4))))], [.int (Int32.ofInt (m23 4 4)), .ref 3], zk c m82)) ⟨[zo, zo], _, rfl, ⟨trivial, trivial, trivial⟩⟩ rfl ?_
      obtain ⟨r97, m97, hs97, hIm97, z_97, p_97, w_97, f6_97, b_97, kN_97, kD_97⟩ := S_X4_takesWay_F zn (d + 2) hN hC (m23 4 4) (zwa (mM 2) (mM 1 1) a9) m82 hIm82 (by omega) (by omega) (by omega) (by omega)
      refine zW.step (st1 := (122, [(some (.ref 3)), (some (.int (Int32.ofInt (m23 4 4))))], [.int (Int32.ofInt r97)], zk c m97)) ⟨[zc (some (.int (Int32.ofInt r97))) (zk c m97)], _, rfl, ⟨⟨⟨(Nat.lt_of_lt_of_le (Nat.le_of_ble_eq_true rfl) hN), (Nat.le_of_ble_eq_true rfl)⟩, hs97, (Nat.le_of_ble_eq_true rfl), Nat.le_refl _, Nat.le_refl _, Nat.le_refl _, Nat.le_refl _⟩, trivial⟩⟩ rfl ?_
      have f98 : (0 : Int) ≤ m97 1 1 ∧ m97 1 1 ≤ 240 := hIm97.1 1 1
      have f99 : m97 1 1 = m82 1 1 := kD_97 1 1 (by omega)
      have f100 : (0 : Int) ≤ m97 1 2 ∧ m97 1 2 ≤ 240 := hIm97.1 1 2
      have f101 : (0 : Int) ≤ m97 4 3 ∧ m97 4 3 ≤ 5 := hIm97.1 4 3
      have f102 : m97 4 3 = m82 4 3 := kD_97 4 3 (by omega)
      have f103 : (0 : Int) ≤ m97 4 4 ∧ m97 4 4 ≤ 6 := hIm97.1 4 4
      have f104 : m97 4 4 = m82 4 4 := kD_97 4 4 (by omega)
      have f105 : (0 : Int) ≤ m97 8 185 ∧ m97 8 185 ≤ 10 := zr_c hIm97 zS_8
      have f106 : m97 8 185 = m82 8 185 := kD_97 8 185 (by omega)
      have tk107 : zN m m97 := zN_tr tk92 kN_97
      have tk108 : zD9 (fun p i => (p = 1 ∧ (i = 2 ∨ i = 3)) ∨ (4 ≤ p ∧ p ≤ 9)) m m97 := zD9_tr tk93 (zD9_mo kD_97 (fun p i w => by have w2 : (p = 1 ∧ (i = 2 ∨ i = 3)) ∨ (6 ≤ p ∧ p ≤ 7) := w; show (p = 1 ∧ (i = 2 ∨ i = 3)) ∨ (4 ≤ p ∧ p ≤ 9); omega))
      have q109 := (fun h => zcl_p_2 (mM 2) (mM 1 1) a9 (zWc m) (by omega) (by omega) h : (zwz (mM 2) (mM 1 1) (zwa (mM 2) (mM 1 1) a9)).1 = 0 → _)
      have q110 := (fun h => ⟨(zcl_p_3 (mM 2) (mM 1 1) a9 (zWc m) (m 4 4).toNat ((zWc_30 m).trans (by omega)) (by omega) (by omega) h).1, (zcl_p_3 (mM 2) (mM 1 1) a9 (zWc m) (m 4 4).toNat ((zWc_30 m).trans (by omega)) (by omega) (by omega) h).2.1⟩ : (zwz (mM 2) (mM 1 1) (zwa (mM 2) (mM 1 1) a9)).1 ≠ 0 → (zcl_p (mM 2) (mM 1 1) a9 (zWc m)).1 = 1 ∧ (zcl_p (mM 2) (mM 1 1) a9 (zWc m)).2.1 = (zwz (mM 2) (mM 1 1) (zwa (mM 2) (mM 1 1) a9)).2.1)
      refine zW.step (st1 := (126, [(some (.ref 3)), (some (.int (Int32.ofInt (m23 4 4))))], [.int (Int32.ofInt r97)], zk c m97)) (st2 := (126, [(some (.ref 3)), (some (.int (Int32.ofInt (m23 4 4))))], [.int (Int32.ofInt r97)], zk c m97)) ⟨[zo], _, rfl, ⟨trivial, trivial⟩⟩ rfl ?_
      exact zW.fin (zfin_i rfl rfl (z_narZ rfl (by omega))) ⟨r97, m97, rfl, rfl, hIm97, (by omega), (by omega), (by intro h; have e5 : zWc m82 = zcl_q (zWc m) (zipn (mM 2) (mM 1 1) a9).2.2 := (zWc_D1 kD_82).trans g5; have eN : (m23 4 4).toNat = (m 4 4).toNat := (by omega); have wN := w_97 h; have fN := f6_97; rw [eN] at wN fN; rw [(zcl_p_3 (mM 2) (mM 1 1) a9 (zWc m) (m 4 4).toNat ((zWc_30 m).trans (by omega)) (by omega) (by omega) (by omega)).2.2, ← e5]; exact zWc_way2 (by have k1 := kD_82 4 4 (by omega); omega) ((kD_82 7 _ (by omega)).trans g6.1) kD_97 wN fN), (by omega), (by omega), tk107, tk108⟩

