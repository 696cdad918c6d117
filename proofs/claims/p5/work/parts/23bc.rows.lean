/-! texts, by program (wip/tools/gw5): J0_indexOf_7cf53_3F, J0_indexOf_0f7a4_3F, X10_emit_F, X10_atom_GF -/
set_option maxRecDepth 100000 in
set_option maxHeartbeats 4000000 in
theorem S_J0_indexOf_7cf53_3F (zn : Bool) (d : Nat) {c : Nat × Nat} {mM : zM} (hN : 107 ≤ c.1) (hC : c.1 < z_RO) (ch : Int) (fr : Int) (m : zM) (hIm : zI c mM m) (r_ch : -2147483648 ≤ ch ∧ ch ≤ 2147483647) (r_fr : -2147483648 ≤ fr ∧ fr ≤ 2147483647) (hc : 0 ≤ ch ∧ ch ≤ 255) (hf : fr = 0) : zPi zn (d + 3) 7 [.ref (z_RO + 3), .int (Int32.ofInt ch), .int (Int32.ofInt fr)] c m (fun (r : Int) => (-1 ≤ r ∧ r < 6) ∧ (r = zix zLs3 0 ch)) := by
  refine zPi.of zu_J0_indexOf_7cf53 hC (Nat.le_of_ble_eq_true rfl) ?_
  show zW zn (d + 2) 7 c (0, [(some (.ref (z_RO + 3))), (some (.int (Int32.ofInt ch))), (some (.int (Int32.ofInt fr)))], [], zk c m) (fun v h1 => ∃ (r : Int), v = some (.int (Int32.ofInt r)) ∧ h1 = zk c m ∧ (-1 ≤ r ∧ r < 6) ∧ (r = zix zLs3 0 ch))
  refine zW.step (st1 := (1, [(some (.ref (z_RO + 3))), (some (.int (Int32.ofInt ch))), (some (.int (Int32.ofInt fr)))], [.ref (z_RO + 3)], zk c m)) (st2 := (1, [(some (.ref (z_RO + 3))), (some (.int (Int32.ofInt ch))), (some (.int (Int32.ofInt fr)))], [.ref (z_RO + 3)], zk c m)) ⟨[zo], _, rfl, ⟨trivial, trivial⟩⟩ rfl ?_
  obtain ⟨r1, hs1, q_1⟩ := S_J0_isLatin1_aae02_3 zn (d + 1) hN hC m hIm
  subst q_1
  refine zW.step (st1 := (4, [(some (.ref (z_RO + 3))), (some (.int (Int32.ofInt ch))), (some (.int (Int32.ofInt fr)))], [.int (Int32.ofInt 1)], zk c m)) ⟨[zc (some (.int (Int32.ofInt 1))) (zk c m)], _, rfl, ⟨⟨(Nat.le_of_ble_eq_true rfl), hs1, (Nat.le_of_ble_eq_true rfl), Nat.le_refl _, Nat.le_refl _, Nat.le_refl _, Nat.le_refl _⟩, trivial⟩⟩ rfl ?_
  have b2 : ¬ ((1 : Int) = 0) := by omega
  refine zW.step (st1 := (7, [(some (.ref (z_RO + 3))), (some (.int (Int32.ofInt ch))), (some (.int (Int32.ofInt fr)))], [], zk c m)) (st2 := (7, [(some (.ref (z_RO + 3))), (some (.int (Int32.ofInt ch))), (some (.int (Int32.ofInt fr)))], [], zk c m)) ⟨[zo], _, rfl, ⟨zbf (fun q => b2 ((zi_eq (by decide : Int32.ofInt 1 = Int32.ofInt 1) (rfl : (0 : Int32) = Int32.ofInt 0) (⟨by decide, by decide⟩ : zR 1) (⟨by decide, by decide⟩ : zR 0)).mp q)), trivial⟩⟩ rfl ?_
  refine zW.step (st1 := (14, [(some (.ref (z_RO + 3))), (some (.int (Int32.ofInt ch))), (some (.int (Int32.ofInt fr)))], [.ref (z_RO + 3), .int (Int32.ofInt fr), .int (Int32.ofInt ch), .ref (z_RO + 103)], zk c m)) (st2 := (14, [(some (.ref (z_RO + 3))), (some (.int (Int32.ofInt ch))), (some (.int (Int32.ofInt fr)))], [.ref (z_RO + 3), .int (Int32.ofInt fr), .int (Int32.ofInt ch), .ref (z_RO + 103)], zk c m)) ⟨[zo, zo, zo, zo, zo], _, rfl, ⟨trivial, trivial, trivial, trivial, trivial, trivial⟩⟩ rfl ?_
  obtain ⟨r3, hs3, q_3⟩ := S_J0_length_8abf5_3 zn (d + 0) hN hC m hIm
  subst q_3
  refine zW.step (st1 := (17, [(some (.ref (z_RO + 3))), (some (.int (Int32.ofInt ch))), (some (.int (Int32.ofInt fr)))], [.int (Int32.ofInt 6), .int (Int32.ofInt fr), .int (Int32.ofInt ch), .ref (z_RO + 103)], zk c m)) ⟨[zc (some (.int (Int32.ofInt 6))) (zk c m)], _, rfl, ⟨⟨(Nat.le_of_ble_eq_true rfl), hs3, (Nat.le_of_ble_eq_true rfl), Nat.le_refl _, Nat.le_refl _, Nat.le_refl _, Nat.le_refl _⟩, trivial⟩⟩ rfl ?_
  obtain ⟨r4, hs4, q_4, f_4⟩ := S_J1_indexOf_4cfef_103F zn (d + 0) hN hC ch fr 6 m hIm (by omega) (by omega) (by omega) (by omega) (by omega) (by omega)
  refine zW.step (st1 := (20, [(some (.ref (z_RO + 3))), (some (.int (Int32.ofInt ch))), (some (.int (Int32.ofInt fr)))], [.int (Int32.ofInt r4)], zk c m)) ⟨[zc (some (.int (Int32.ofInt r4))) (zk c m)], _, rfl, ⟨⟨(Nat.le_of_ble_eq_true rfl), hs4, (Nat.le_of_ble_eq_true rfl), Nat.le_refl _, Nat.le_refl _, Nat.le_refl _, Nat.le_refl _⟩, trivial⟩⟩ rfl ?_
  refine zW.step (st1 := (36, [(some (.ref (z_RO + 3))), (some (.int (Int32.ofInt ch))), (some (.int (Int32.ofInt fr)))], [.int (Int32.ofInt r4)], zk c m)) (st2 := (36, [(some (.ref (z_RO + 3))), (some (.int (Int32.ofInt ch))), (some (.int (Int32.ofInt fr)))], [.int (Int32.ofInt r4)], zk c m)) ⟨[zo], _, rfl, ⟨trivial, trivial⟩⟩ rfl ?_
  exact zW.fin (zfin_i rfl rfl rfl) ⟨r4, rfl, rfl, (by omega), (by omega)⟩

set_option maxRecDepth 100000 in
set_option maxHeartbeats 4000000 in
theorem S_J0_indexOf_0f7a4_3F (zn : Bool) (d : Nat) {c : Nat × Nat} {mM : zM} (hN : 107 ≤ c.1) (hC : c.1 < z_RO) (ch : Int) (m : zM) (hIm : zI c mM m) (r_ch : -2147483648 ≤ ch ∧ ch ≤ 2147483647) (hc : 0 ≤ ch ∧ ch ≤ 255) : zPi zn (d + 4) 6 [.ref (z_RO + 3), .int (Int32.ofInt ch)] c m (fun (r : Int) => (-1 ≤ r ∧ r < 6) ∧ (r = zix zLs3 0 ch)) := by
  refine zPi.of zu_J0_indexOf_0f7a4 hC (Nat.le_of_ble_eq_true rfl) ?_
  show zW zn (d + 3) 6 c (0, [(some (.ref (z_RO + 3))), (some (.int (Int32.ofInt ch)))], [], zk c m) (fun v h1 => ∃ (r : Int), v = some (.int (Int32.ofInt r)) ∧ h1 = zk c m ∧ (-1 ≤ r ∧ r < 6) ∧ (r = zix zLs3 0 ch))
  refine zW.step (st1 := (3, [(some (.ref (z_RO + 3))), (some (.int (Int32.ofInt ch)))], [.int (Int32.ofInt 0), .int (Int32.ofInt ch), .ref (z_RO + 3)], zk c m)) (st2 := (3, [(some (.ref (z_RO + 3))), (some (.int (Int32.ofInt ch)))], [.int (Int32.ofInt 0), .int (Int32.ofInt ch), .ref (z_RO + 3)], zk c m)) ⟨[zo, zo, zo], _, rfl, ⟨trivial, trivial, trivial, trivial⟩⟩ rfl ?_
  obtain ⟨r1, hs1, q_1, f_1⟩ := S_J0_indexOf_7cf53_3F zn (d + 0) hN hC ch 0 m hIm (by omega) (by omega) (by omega) (by omega)
  refine zW.step (st1 := (6, [(some (.ref (z_RO + 3))), (some (.int (Int32.ofInt ch)))], [.int (Int32.ofInt r1)], zk c m)) ⟨[zc (some (.int (Int32.ofInt r1))) (zk c m)], _, rfl, ⟨⟨(Nat.le_of_ble_eq_true rfl), hs1, (Nat.le_of_ble_eq_true rfl), Nat.le_refl _, Nat.le_refl _, Nat.le_refl _, Nat.le_refl _⟩, trivial⟩⟩ rfl ?_
  exact zW.fin (zfin_i rfl rfl rfl) ⟨r1, rfl, rfl, (by omega), (by omega)⟩

set_option maxRecDepth 100000 in
set_option maxHeartbeats 4000000 in
theorem S_X10_emit_F (zn : Bool) (d : Nat) {c : Nat × Nat} {mM : zM} (hN : 107 ≤ c.1) (hC : c.1 < z_RO) (sign : Int) (operand : Int) (a9 : Int) (m : zM) (hIm : zI c mM m) (r_sign : -2147483648 ≤ sign ∧ sign ≤ 2147483647) (r_operand : -2147483648 ≤ operand ∧ operand ≤ 2147483647) (hs : 0 ≤ sign ∧ sign ≤ 31) (ho : 0 ≤ operand ∧ operand ≤ 99999) (ha9 : m 1 2 = a9) : zCi zn (d + 1) 119 [.ref 10, .int (Int32.ofInt sign), .int (Int32.ofInt operand)] c m (fun (r : Int) (m1 : zM) => zI c mM m1 ∧ (0 ≤ r ∧ r ≤ 1) ∧ (m1 10 2 ≤ m 10 2 + 1 ∧ m1 1 2 = m 1 2) ∧ (r = 1) ∧ (m1 1 2 = a9) ∧ zN m m1) := by
  refine zCi.of zu_X10_emit hC (Nat.le_of_ble_eq_true rfl) ?_
  show zW zn (d + 0) 119 c (0, [(some (.ref 10)), (some (.int (Int32.ofInt sign))), (some (.int (Int32.ofInt operand)))], [], zk c m) (fun v h1 => ∃ (r : Int) (m1 : zM), v = some (.int (Int32.ofInt r)) ∧ h1 = zk c m1 ∧ zI c mM m1 ∧ (0 ≤ r ∧ r ≤ 1) ∧ (m1 10 2 ≤ m 10 2 + 1 ∧ m1 1 2 = m 1 2) ∧ (r = 1) ∧ (m1 1 2 = a9) ∧ zN m m1)
  have f1 : (0 : Int) ≤ m 1 1 ∧ m 1 1 ≤ 240 := hIm.1 1 1
  have f2 : (0 : Int) ≤ m 1 2 ∧ m 1 2 ≤ 240 := hIm.1 1 2
  have f3 : (0 : Int) ≤ m 10 2 ∧ m 10 2 ≤ 240 := hIm.1 10 2
  by_cases b4 : 240 ≤ (m 10 2)
  · refine zW.step (st1 := (37, [(some (.ref 10)), (some (.int (Int32.ofInt sign))), (some (.int (Int32.ofInt operand)))], [], zk c m)) (st2 := (37, [(some (.ref 10)), (some (.int (Int32.ofInt sign))), (some (.int (Int32.ofInt operand)))], [], zk c m)) ⟨[zo, zo, zo, zo, zo, zt], _, rfl, ⟨trivial, (Nat.lt_of_lt_of_le (Nat.le_of_ble_eq_true rfl) hN), trivial, (Nat.lt_of_lt_of_le (Nat.le_of_ble_eq_true rfl) hN), (Nat.lt_of_lt_of_le (Nat.le_of_ble_eq_true rfl) hN), zbt ((zi_le (by decide : Int32.ofNat 240 = Int32.ofInt 240) rfl (⟨by decide, by decide⟩ : zR 240) (by unfold zR; omega)).mpr b4), trivial⟩⟩ rfl ?_
    refine zW.step (st1 := (38, [(some (.ref 10)), (some (.int (Int32.ofInt sign))), (some (.int (Int32.ofInt operand)))], [.int (Int32.ofInt 1)], zk c m)) (st2 := (38, [(some (.ref 10)), (some (.int (Int32.ofInt sign))), (some (.int (Int32.ofInt operand)))], [.int (Int32.ofInt 1)], zk c m)) ⟨[zo], _, rfl, ⟨trivial, trivial⟩⟩ rfl ?_
    exact zW.fin (zfin_i rfl rfl rfl) ⟨1, m, rfl, rfl, hIm, (by omega), (by omega), (by omega), (by omega), zN_rf⟩
  · refine zW.step (st1 := (12, [(some (.ref 10)), (some (.int (Int32.ofInt sign))), (some (.int (Int32.ofInt operand)))], [], zk c m)) (st2 := (12, [(some (.ref 10)), (some (.int (Int32.ofInt sign))), (some (.int (Int32.ofInt operand)))], [], zk c m)) ⟨[zo, zo, zo, zo, zo, zo], _, rfl, ⟨trivial, (Nat.lt_of_lt_of_le (Nat.le_of_ble_eq_true rfl) hN), trivial, (Nat.lt_of_lt_of_le (Nat.le_of_ble_eq_true rfl) hN), (Nat.lt_of_lt_of_le (Nat.le_of_ble_eq_true rfl) hN), zbf (fun q => b4 ((zi_le (by decide : Int32.ofNat 240 = Int32.ofInt 240) rfl (⟨by decide, by decide⟩ : zR 240) (by unfold zR; omega)).mp q)), trivial⟩⟩ rfl ?_
    have f5 : (-2147483648 : Int) ≤ zb_shl sign 14 ∧ zb_shl sign 14 ≤ 2147483647 := zb_shlR sign 14
    have f6 := zb_shl14 sign
    have f7 : (-2147483648 : Int) ≤ zb_or (zb_shl sign 14) operand ∧ zb_or (zb_shl sign 14) operand ≤ 2147483647 := zb_orR (zb_shl sign 14) operand
    have f8 := zb_or_f (zb_shl sign 14) operand
    obtain ⟨m9, hm9⟩ : ∃ q, q = zm_up m 11 ((m 10 2).toNat) (zb_or (zb_shl sign 14) operand) := ⟨_, rfl⟩
    have hIm9 : zI c mM m9 := by rw [hm9]; exact zI_up hIm (zOk_p (by decide)) (show (0 : Int) ≤ (zb_or (zb_shl sign 14) operand) ∧ (zb_or (zb_shl sign 14) operand) ≤ 2147483647 by omega)
    have em9 : m9 11 ((m 10 2).toNat) = (zb_or (zb_shl sign 14) operand) := by rw [hm9]; exact zm_eq
    have f10 : m9 10 2 = m 10 2 := by rw [hm9]; exact zm_ne (by omega)
    have f11 : m9 1 1 = m 1 1 := by rw [hm9]; exact zm_ne (by omega)
    have f12 : m9 1 2 = m 1 2 := by rw [hm9]; exact zm_ne (by omega)
    have tk13 : zN m m9 := by rw [hm9]; exact zN_up zN_rf (by unfold zRow; omega)
    refine zW.step (st1 := (27, [(some (.ref 10)), (some (.int (Int32.ofInt sign))), (some (.int (Int32.ofInt operand)))], [], z_hup (zk c m) 11 (.inl (0, 240, .inl (upd (fun j => Int32.ofInt (m 11 j)) (Int32.ofInt (m 10 2)).toNatClampNeg (((Int32.ofInt sign) <<< (((Int8.ofInt 14).toInt32) &&& 31)) ||| (Int32.ofInt operand))))))) (st2 := (27, [(some (.ref 10)), (some (.int (Int32.ofInt sign))), (some (.int (Int32.ofInt operand)))], [], zk c m9)) ⟨[zo, zo, zo, zo, zo, zo, zo, zo, zo, (false, 0, none, zh0, some (.inl (0, 240, .inl (fun j => Int32.ofInt (m 11 j)))))], _, rfl, ⟨trivial, (Nat.lt_of_lt_of_le (Nat.le_of_ble_eq_true rfl) hN), trivial, (Nat.lt_of_lt_of_le (Nat.le_of_ble_eq_true rfl) hN), trivial, trivial, trivial, trivial, trivial, ⟨zk_ra c m zA_11 (Nat.lt_of_lt_of_le (Nat.le_of_ble_eq_true rfl) hN), zi_in rfl (by omega) (by omega) (by omega)⟩, trivial⟩⟩ (z_steq rfl rfl ((zk_ias c m zA_11 rfl (by unfold zR; omega) (zi_or (zi_shl rfl (by decide : (Int8.ofInt 14).toInt32 = Int32.ofInt 14)) rfl)).trans (by rw [hm9]))) ?_
    have f14 : (0 : Int) ≤ m9 10 2 ∧ m9 10 2 ≤ 240 := hIm9.1 10 2
    obtain ⟨m15, hm15⟩ : ∃ q, q = zm_up m9 10 2 ((m9 10 2) + 1) := ⟨_, rfl⟩
    have hIm15 : zI c mM m15 := by rw [hm15]; exact zI_up hIm9 (zOk_p (by decide)) (show (0 : Int) ≤ ((m9 10 2) + 1) ∧ ((m9 10 2) + 1) ≤ 240 by omega)
    have em15 : m15 10 2 = ((m9 10 2) + 1) := by rw [hm15]; exact zm_eq
    have f16 : m15 1 1 = m9 1 1 := by rw [hm15]; exact zm_ne (by omega)
    have f17 : m15 1 2 = m9 1 2 := by rw [hm15]; exact zm_ne (by omega)
    have tk18 : zN m m15 := by rw [hm15]; exact zN_up tk13 (by unfold zRow; omega)
    clear tk13
    refine zW.step (st1 := (37, [(some (.ref 10)), (some (.int (Int32.ofInt sign))), (some (.int (Int32.ofInt operand)))], [], z_hup (zk c m9) 10 (.inr (10, [.ref 1, .ref 11, .int ((Int32.ofInt (m9 10 2)) + (Int32.ofInt 1)), .int (Int32.ofInt (m9 10 3))])))) (st2 := (37, [(some (.ref 10)), (some (.int (Int32.ofInt sign))), (some (.int (Int32.ofInt operand)))], [], zk c m15)) ⟨[zo, zo, zo, zo, zo, zo], _, rfl, ⟨trivial, trivial, (Nat.lt_of_lt_of_le (Nat.le_of_ble_eq_true rfl) hN), trivial, trivial, ⟨(Nat.lt_of_lt_of_le (Nat.le_of_ble_eq_true rfl) hN), rfl, rfl⟩, trivial⟩⟩ (z_steq rfl rfl ((zk_up c m9 10 2 ((m9 10 2) + 1) _ ((congrArg (fun q => (.inr (10, [.ref 1, .ref 11, .int q, .int (Int32.ofInt (m9 10 3))]) : z_E)) (zi_add rfl rfl)).trans rfl)).trans (by rw [hm15]))) ?_
    refine zW.step (st1 := (38, [(some (.ref 10)), (some (.int (Int32.ofInt sign))), (some (.int (Int32.ofInt operand)))], [.int (Int32.ofInt 1)], zk c m15)) (st2 := (38, [(some (.ref 10)), (some (.int (Int32.ofInt sign))), (some (.int (Int32.ofInt operand)))], [.int (Int32.ofInt 1)], zk c m15)) ⟨[zo], _, rfl, ⟨trivial, trivial⟩⟩ rfl ?_
    exact zW.fin (zfin_i rfl rfl rfl) ⟨1, m15, rfl, rfl, hIm15, (by omega), (by omega), (by omega), (by omega), tk18⟩

set_option maxRecDepth 100000 in
set_option maxHeartbeats 4000000 in
theorem S_X10_atom_GF (zn : Bool) (d : Nat) {c : Nat × Nat} {mM : zM} (hN : 107 ≤ c.1) (hC : c.1 < z_RO) (a9 : Int) (Lv : Int) (h_sum : Lv ≤ 5 → ∀ (a9 : Int) (m : zM) (hIm : zI c mM m) (ha9 : m 1 2 = a9) (hb9 : 0 ≤ a9 ∧ a9 ≤ mM 1 1), zCi zn (d + 4) 122 [.ref 10, .int (Int32.ofInt (Lv + 1))] c m (fun (r : Int) (m1 : zM) => zI c mM m1 ∧ (0 ≤ r ∧ r ≤ 1) ∧ (r = (zt_sum (mM 2) (mM 1 1) ((6 : Int) - (Lv + 1)).toNat a9).1 ∧ m1 1 2 = (zt_sum (mM 2) (mM 1 1) ((6 : Int) - (Lv + 1)).toNat a9).2) ∧ (a9 ≤ m1 1 2 ∧ m1 1 2 ≤ mM 1 1 ∧ (r = 1 → a9 < m1 1 2)) ∧ zN m m1)) (m : zM) (hIm : zI c mM m) (hLv : 0 ≤ Lv ∧ Lv ≤ 6) (ha9 : m 1 2 = a9) (hb9 : 0 ≤ a9 ∧ a9 ≤ mM 1 1) : zCi zn (d + 5) 115 [.ref 10, .int (Int32.ofInt Lv)] c m (fun (r : Int) (m1 : zM) => zI c mM m1 ∧ (0 ≤ r ∧ r ≤ 1) ∧ (r = (zt_atom (mM 2) (mM 1 1) (zt_in (mM 2) (mM 1 1) ((6 : Int) - Lv).toNat) a9).1 ∧ m1 1 2 = (zt_atom (mM 2) (mM 1 1) (zt_in (mM 2) (mM 1 1) ((6 : Int) - Lv).toNat) a9).2) ∧ (a9 ≤ m1 1 2 ∧ m1 1 2 ≤ mM 1 1 ∧ (r = 1 → a9 < m1 1 2)) ∧ zN m m1) := by
  refine zCi.of zu_X10_atom hC (Nat.le_of_ble_eq_true rfl) ?_
  show zW zn (d + 4) 115 c (0, [(some (.ref 10)), (some (.int (Int32.ofInt Lv))), none, none], [], zk c m) (fun v h1 => ∃ (r : Int) (m1 : zM), v = some (.int (Int32.ofInt r)) ∧ h1 = zk c m1 ∧ zI c mM m1 ∧ (0 ≤ r ∧ r ≤ 1) ∧ (r = (zt_atom (mM 2) (mM 1 1) (zt_in (mM 2) (mM 1 1) ((6 : Int) - Lv).toNat) a9).1 ∧ m1 1 2 = (zt_atom (mM 2) (mM 1 1) (zt_in (mM 2) (mM 1 1) ((6 : Int) - Lv).toNat) a9).2) ∧ (a9 ≤ m1 1 2 ∧ m1 1 2 ≤ mM 1 1 ∧ (r = 1 → a9 < m1 1 2)) ∧ zN m m1)
  have f1 : (0 : Int) ≤ m 1 1 ∧ m 1 1 ≤ 240 := hIm.1 1 1
  have f2 : (0 : Int) ≤ m 1 2 ∧ m 1 2 ≤ 240 := hIm.1 1 2
  have f3 : (0 : Int) ≤ m 10 2 ∧ m 10 2 ≤ 240 := hIm.1 10 2
  have q4 := zn_c hIm
  refine zW.step (st1 := (4, [(some (.ref 10)), (some (.int (Int32.ofInt Lv))), none, none], [.ref 1], zk c m)) (st2 := (4, [(some (.ref 10)), (some (.int (Int32.ofInt Lv))), none, none], [.ref 1], zk c m)) ⟨[zo, zo], _, rfl, ⟨trivial, (Nat.lt_of_lt_of_le (Nat.le_of_ble_eq_true rfl) hN), trivial⟩⟩ rfl ?_
  obtain ⟨r5, m5, hs5, hIm5, z_5, f_5, p_5, b_5, l_5, c3_5, kN_5, kD_5⟩ := S_X8_next_F zn (d + 2) hN hC a9 m hIm (by omega) (by omega)
  refine zW.step (st1 := (7, [(some (.ref 10)), (some (.int (Int32.ofInt Lv))), none, none], [.int (Int32.ofInt r5)], zk c m5)) ⟨[zc (some (.int (Int32.ofInt r5))) (zk c m5)], _, rfl, ⟨⟨⟨(Nat.lt_of_lt_of_le (Nat.le_of_ble_eq_true rfl) hN), (Nat.le_of_ble_eq_true rfl)⟩, hs5, (Nat.le_of_ble_eq_true rfl), Nat.le_refl _, Nat.le_refl _, Nat.le_refl _, Nat.le_refl _⟩, trivial⟩⟩ rfl ?_
  have f6 : (0 : Int) ≤ m5 1 1 ∧ m5 1 1 ≤ 240 := hIm5.1 1 1
  have f7 : (0 : Int) ≤ m5 1 2 ∧ m5 1 2 ≤ 240 := hIm5.1 1 2
  have f8 : (0 : Int) ≤ m5 10 2 ∧ m5 10 2 ≤ 240 := hIm5.1 10 2
  have tk9 : zN m m5 := zN_tr zN_rf kN_5
  by_cases b10 : r5 = 91
  · refine zW.step (st1 := (14, [(some (.ref 10)), (some (.int (Int32.ofInt Lv))), (some (.int (Int32.ofInt r5))), none], [], zk c m5)) (st2 := (14, [(some (.ref 10)), (some (.int (Int32.ofInt Lv))), (some (.int (Int32.ofInt r5))), none], [], zk c m5)) ⟨[zo, zo, zo, zo], _, rfl, ⟨trivial, trivial, trivial, zbf (fun q => q ((zi_eq rfl (by decide : (Int8.ofInt 91).toInt32 = Int32.ofInt 91) (by unfold zR; omega) (⟨by decide, by decide⟩ : zR 91)).mpr b10)), trivial⟩⟩ rfl ?_
    by_cases b11 : Lv = 6
    · refine zW.step (st1 := (20, [(some (.ref 10)), (some (.int (Int32.ofInt Lv))), (some (.int (Int32.ofInt r5))), none], [], zk c m5)) (st2 := (20, [(some (.ref 10)), (some (.int (Int32.ofInt Lv))), (some (.int (Int32.ofInt r5))), none], [], zk c m5)) ⟨[zo, zo, zo], _, rfl, ⟨trivial, trivial, zbf (fun q => q ((zi_eq rfl (by decide : (Int8.ofInt 6).toInt32 = Int32.ofInt 6) (by unfold zR; omega) (⟨by decide, by decide⟩ : zR 6)).mpr b11)), trivial⟩⟩ rfl ?_
      have q12 := zt_atom_d0 (mM 2) (mM 1 1) a9 Lv (by omega) (by omega)
      refine zW.step (st1 := (21, [(some (.ref 10)), (some (.int (Int32.ofInt Lv))), (some (.int (Int32.ofInt r5))), none], [.int (Int32.ofInt 0)], zk c m5)) (st2 := (21, [(some (.ref 10)), (some (.int (Int32.ofInt Lv))), (some (.int (Int32.ofInt r5))), none], [.int (Int32.ofInt 0)], zk c m5)) ⟨[zo], _, rfl, ⟨trivial, trivial⟩⟩ rfl ?_
      exact zW.fin (zfin_i rfl rfl rfl) ⟨0, m5, rfl, rfl, hIm5, (by omega), (by omega), (by omega), tk9⟩
    · refine zW.step (st1 := (22, [(some (.ref 10)), (some (.int (Int32.ofInt Lv))), (some (.int (Int32.ofInt r5))), none], [], zk c m5)) (st2 := (22, [(some (.ref 10)), (some (.int (Int32.ofInt Lv))), (some (.int (Int32.ofInt r5))), none], [], zk c m5)) ⟨[zo, zo, zt], _, rfl, ⟨trivial, trivial, zbt (fun q => b11 ((zi_eq rfl (by decide : (Int8.ofInt 6).toInt32 = Int32.ofInt 6) (by unfold zR; omega) (⟨by decide, by decide⟩ : zR 6)).mp q)), trivial⟩⟩ rfl ?_
      have q13 := zt_atom_br (mM 2) (mM 1 1) a9 Lv (by omega) (by omega)
      obtain ⟨m14, hm14⟩ : ∃ q, q = zm_up m5 1 2 ((m5 1 2) + 1) := ⟨_, rfl⟩
      have hIm14 : zI c mM m14 := by rw [hm14]; exact zI_up hIm5 (by unfold zOk; decide) (show (0 : Int) ≤ ((m5 1 2) + 1) ∧ ((m5 1 2) + 1) ≤ 240 by omega)
      have em14 : m14 1 2 = ((m5 1 2) + 1) := by rw [hm14]; exact zm_eq
      have f15 : m14 1 1 = m5 1 1 := by rw [hm14]; exact zm_ne (by omega)
      have f16 : m14 10 2 = m5 10 2 := by rw [hm14]; exact zm_ne (by omega)
      have tk17 : zN m m14 := by rw [hm14]; exact zN_up tk9 (by unfold zRow; omega)
      clear tk9
      refine zW.step (st1 := (35, [(some (.ref 10)), (some (.int (Int32.ofInt Lv))), (some (.int (Int32.ofInt r5))), none], [], z_hup (zk c m5) 1 (.inr (8, [.ref 2, .int (Int32.ofInt (m5 1 1)), .int ((Int32.ofInt (m5 1 2)) + (Int32.ofInt 1)), .int (Int32.ofInt (m5 1 3))])))) (st2 := (35, [(some (.ref 10)), (some (.int (Int32.ofInt Lv))), (some (.int (Int32.ofInt r5))), none], [], zk c m14)) ⟨[zo, zo, zo, zo, zo, zo, zo], _, rfl, ⟨trivial, (Nat.lt_of_lt_of_le (Nat.le_of_ble_eq_true rfl) hN), trivial, (Nat.lt_of_lt_of_le (Nat.le_of_ble_eq_true rfl) hN), trivial, trivial, ⟨(Nat.lt_of_lt_of_le (Nat.le_of_ble_eq_true rfl) hN), rfl, rfl⟩, trivial⟩⟩ (z_steq rfl rfl ((zk_up c m5 1 2 ((m5 1 2) + 1) _ ((congrArg (fun q => (.inr (8, [.ref 2, .int (Int32.ofInt (m5 1 1)), .int q, .int (Int32.ofInt (m5 1 3))]) : z_E)) (zi_add rfl rfl)).trans rfl)).trans (by rw [hm14]))) ?_
      refine zW.step (st1 := (39, [(some (.ref 10)), (some (.int (Int32.ofInt Lv))), (some (.int (Int32.ofInt r5))), none], [.int ((Int32.ofInt Lv) + (Int32.ofInt 1)), .ref 10], zk c m14)) (st2 := (39, [(some (.ref 10)), (some (.int (Int32.ofInt Lv))), (some (.int (Int32.ofInt r5))), none], [.int (Int32.ofInt (Lv + 1)), .ref 10], zk c m14)) ⟨[zo, zo, zo, zo], _, rfl, ⟨trivial, trivial, trivial, trivial, trivial⟩⟩ (z_steq rfl (z_c1 (z_vi (zi_add rfl rfl)) rfl) rfl) ?_
      obtain ⟨r18, m18, hs18, hIm18, z_18, p_18, b_18, kN_18⟩ := h_sum (by omega) (((znx (mM 2) (mM 1 1) a9)) + 1) m14 hIm14 (by omega) (by omega)
      refine zW.step (st1 := (42, [(some (.ref 10)), (some (.int (Int32.ofInt Lv))), (some (.int (Int32.ofInt r5))), none], [.int (Int32.ofInt r18)], zk c m18)) ⟨[zc (some (.int (Int32.ofInt r18))) (zk c m18)], _, rfl, ⟨⟨⟨(Nat.lt_of_lt_of_le (Nat.le_of_ble_eq_true rfl) hN), (Nat.le_of_ble_eq_true rfl)⟩, hs18, (Nat.le_of_ble_eq_true rfl), Nat.le_refl _, Nat.le_refl _, Nat.le_refl _, Nat.le_refl _⟩, trivial⟩⟩ rfl ?_
      have f19 : (0 : Int) ≤ m18 1 1 ∧ m18 1 1 ≤ 240 := hIm18.1 1 1
      have f20 : (0 : Int) ≤ m18 1 2 ∧ m18 1 2 ≤ 240 := hIm18.1 1 2
      have f21 : (0 : Int) ≤ m18 10 2 ∧ m18 10 2 ≤ 240 := hIm18.1 10 2
      have tk22 : zN m m18 := zN_tr tk17 kN_18
      by_cases b23 : r18 = 0
      · refine zW.step (st1 := (61, [(some (.ref 10)), (some (.int (Int32.ofInt Lv))), (some (.int (Int32.ofInt r5))), none], [], zk c m18)) (st2 := (61, [(some (.ref 10)), (some (.int (Int32.ofInt Lv))), (some (.int (Int32.ofInt r5))), none], [], zk c m18)) ⟨[zt], _, rfl, ⟨zbt ((zi_eq rfl (rfl : (0 : Int32) = Int32.ofInt 0) (by unfold zR; omega) (⟨by decide, by decide⟩ : zR 0)).mpr b23), trivial⟩⟩ rfl ?_
        refine zW.step (st1 := (62, [(some (.ref 10)), (some (.int (Int32.ofInt Lv))), (some (.int (Int32.ofInt r5))), none], [.int (Int32.ofInt 0)], zk c m18)) (st2 := (62, [(some (.ref 10)), (some (.int (Int32.ofInt Lv))), (some (.int (Int32.ofInt r5))), none], [.int (Int32.ofInt 0)], zk c m18)) ⟨[zo], _, rfl, ⟨trivial, trivial⟩⟩ rfl ?_
        exact zW.fin (zfin_i rfl rfl rfl) ⟨0, m18, rfl, rfl, hIm18, (by omega), (by omega), (by omega), tk22⟩
      · refine zW.step (st1 := (45, [(some (.ref 10)), (some (.int (Int32.ofInt Lv))), (some (.int (Int32.ofInt r5))), none], [], zk c m18)) (st2 := (45, [(some (.ref 10)), (some (.int (Int32.ofInt Lv))), (some (.int (Int32.ofInt r5))), none], [], zk c m18)) ⟨[zo], _, rfl, ⟨zbf (fun q => b23 ((zi_eq rfl (rfl : (0 : Int32) = Int32.ofInt 0) (by unfold zR; omega) (⟨by decide, by decide⟩ : zR 0)).mp q)), trivial⟩⟩ rfl ?_
        refine zW.step (st1 := (51, [(some (.ref 10)), (some (.int (Int32.ofInt Lv))), (some (.int (Int32.ofInt r5))), none], [.int ((Int8.ofInt 93).toInt32), .ref 1], zk c m18)) (st2 := (51, [(some (.ref 10)), (some (.int (Int32.ofInt Lv))), (some (.int (Int32.ofInt r5))), none], [.int (Int32.ofInt 93), .ref 1], zk c m18)) ⟨[zo, zo, zo], _, rfl, ⟨trivial, (Nat.lt_of_lt_of_le (Nat.le_of_ble_eq_true rfl) hN), trivial, trivial⟩⟩ (z_steq rfl (z_c1 (z_vi (by decide : (Int8.ofInt 93).toInt32 = Int32.ofInt 93)) rfl) rfl) ?_
        obtain ⟨r24, m24, hs24, hIm24, z_24, p_24, b_24, kN_24, kD_24⟩ := S_X8_takes_F zn (d + 1) hN hC 93 ((zt_sum (mM 2) (mM 1 1) ((6 : Int) - (Lv + 1)).toNat (((znx (mM 2) (mM 1 1) a9)) + 1)).2) m18 hIm18 (by omega) (by omega) (by omega) (by omega)
        refine zW.step (st1 := (54, [(some (.ref 10)), (some (.int (Int32.ofInt Lv))), (some (.int (Int32.ofInt r5))), none], [.int (Int32.ofInt r24)], zk c m24)) ⟨[zc (some (.int (Int32.ofInt r24))) (zk c m24)], _, rfl, ⟨⟨⟨(Nat.lt_of_lt_of_le (Nat.le_of_ble_eq_true rfl) hN), (Nat.le_of_ble_eq_true rfl)⟩, hs24, (Nat.le_of_ble_eq_true rfl), Nat.le_refl _, Nat.le_refl _, Nat.le_refl _, Nat.le_refl _⟩, trivial⟩⟩ rfl ?_
        have f25 : (0 : Int) ≤ m24 1 1 ∧ m24 1 1 ≤ 240 := hIm24.1 1 1
        have f26 : (0 : Int) ≤ m24 1 2 ∧ m24 1 2 ≤ 240 := hIm24.1 1 2
        have f27 : (0 : Int) ≤ m24 10 2 ∧ m24 10 2 ≤ 240 := hIm24.1 10 2
        have tk28 : zN m m24 := zN_tr tk22 kN_24
        by_cases b29 : r24 = 0
        · refine zW.step (st1 := (61, [(some (.ref 10)), (some (.int (Int32.ofInt Lv))), (some (.int (Int32.ofInt r5))), none], [], zk c m24)) (st2 := (61, [(some (.ref 10)), (some (.int (Int32.ofInt Lv))), (some (.int (Int32.ofInt r5))), none], [], zk c m24)) ⟨[zt], _, rfl, ⟨zbt ((zi_eq rfl (rfl : (0 : Int32) = Int32.ofInt 0) (by unfold zR; omega) (⟨by decide, by decide⟩ : zR 0)).mpr b29), trivial⟩⟩ rfl ?_
          refine zW.step (st1 := (62, [(some (.ref 10)), (some (.int (Int32.ofInt Lv))), (some (.int (Int32.ofInt r5))), none], [.int (Int32.ofInt 0)], zk c m24)) (st2 := (62, [(some (.ref 10)), (some (.int (Int32.ofInt Lv))), (some (.int (Int32.ofInt r5))), none], [.int (Int32.ofInt 0)], zk c m24)) ⟨[zo], _, rfl, ⟨trivial, trivial⟩⟩ rfl ?_
          exact zW.fin (zfin_i rfl rfl rfl) ⟨0, m24, rfl, rfl, hIm24, (by omega), (by omega), (by omega), tk28⟩
        · refine zW.step (st1 := (57, [(some (.ref 10)), (some (.int (Int32.ofInt Lv))), (some (.int (Int32.ofInt r5))), none], [], zk c m24)) (st2 := (57, [(some (.ref 10)), (some (.int (Int32.ofInt Lv))), (some (.int (Int32.ofInt r5))), none], [], zk c m24)) ⟨[zo], _, rfl, ⟨zbf (fun q => b29 ((zi_eq rfl (rfl : (0 : Int32) = Int32.ofInt 0) (by unfold zR; omega) (⟨by decide, by decide⟩ : zR 0)).mp q)), trivial⟩⟩ rfl ?_
          refine zW.step (st1 := (62, [(some (.ref 10)), (some (.int (Int32.ofInt Lv))), (some (.int (Int32.ofInt r5))), none], [.int (Int32.ofInt 1)], zk c m24)) (st2 := (62, [(some (.ref 10)), (some (.int (Int32.ofInt Lv))), (some (.int (Int32.ofInt r5))), none], [.int (Int32.ofInt 1)], zk c m24)) ⟨[zo, zo], _, rfl, ⟨trivial, trivial, trivial⟩⟩ rfl ?_
          exact zW.fin (zfin_i rfl rfl rfl) ⟨1, m24, rfl, rfl, hIm24, (by omega), (by omega), (by omega), tk28⟩
  · refine zW.step (st1 := (63, [(some (.ref 10)), (some (.int (Int32.ofInt Lv))), (some (.int (Int32.ofInt r5))), none], [], zk c m5)) (st2 := (63, [(some (.ref 10)), (some (.int (Int32.ofInt Lv))), (some (.int (Int32.ofInt r5))), none], [], zk c m5)) ⟨[zo, zo, zo, zt], _, rfl, ⟨trivial, trivial, trivial, zbt (fun q => b10 ((zi_eq rfl (by decide : (Int8.ofInt 91).toInt32 = Int32.ofInt 91) (by unfold zR; omega) (⟨by decide, by decide⟩ : zR 91)).mp q)), trivial⟩⟩ rfl ?_
    refine zW.step (st1 := (64, [(some (.ref 10)), (some (.int (Int32.ofInt Lv))), (some (.int (Int32.ofInt r5))), none], [.int (Int32.ofInt r5)], zk c m5)) (st2 := (64, [(some (.ref 10)), (some (.int (Int32.ofInt Lv))), (some (.int (Int32.ofInt r5))), none], [.int (Int32.ofInt r5)], zk c m5)) ⟨[zo], _, rfl, ⟨trivial, trivial⟩⟩ rfl ?_
    obtain ⟨r30, hs30, z_30, q_30⟩ := S_X8_isDigit zn (d + 3) hN hC r5 m5 hIm5 (by omega)
    refine zW.step (st1 := (67, [(some (.ref 10)), (some (.int (Int32.ofInt Lv))), (some (.int (Int32.ofInt r5))), none], [.int (Int32.ofInt r30)], zk c m5)) ⟨[zc (some (.int (Int32.ofInt r30))) (zk c m5)], _, rfl, ⟨⟨(Nat.le_of_ble_eq_true rfl), hs30, (Nat.le_of_ble_eq_true rfl), Nat.le_refl _, Nat.le_refl _, Nat.le_refl _, Nat.le_refl _⟩, trivial⟩⟩ rfl ?_
    by_cases b31 : r30 = 0
    · refine zW.step (st1 := (102, [(some (.ref 10)), (some (.int (Int32.ofInt Lv))), (some (.int (Int32.ofInt r5))), none], [], zk c m5)) (st2 := (102, [(some (.ref 10)), (some (.int (Int32.ofInt Lv))), (some (.int (Int32.ofInt r5))), none], [], zk c m5)) ⟨[zt], _, rfl, ⟨zbt ((zi_eq rfl (rfl : (0 : Int32) = Int32.ofInt 0) (by unfold zR; omega) (⟨by decide, by decide⟩ : zR 0)).mpr b31), trivial⟩⟩ rfl ?_
      have q32 := zix_3_b (zpk (mM 2) (mM 1 1) (znx (mM 2) (mM 1 1) a9))
      by_cases b33 : r5 = (-1)
      · refine zW.step (st1 := (107, [(some (.ref 10)), (some (.int (Int32.ofInt Lv))), (some (.int (Int32.ofInt r5))), none], [], zk c m5)) (st2 := (107, [(some (.ref 10)), (some (.int (Int32.ofInt Lv))), (some (.int (Int32.ofInt r5))), none], [], zk c m5)) ⟨[zo, zo, zo], _, rfl, ⟨trivial, trivial, zbf (fun q => q ((zi_eq rfl rfl (by unfold zR; omega) (⟨by decide, by decide⟩ : zR (-1))).mpr b33)), trivial⟩⟩ rfl ?_
        have q34 := trivial
        have b35 : ((-1) : Int) = (-1) := by omega
        refine zW.step (st1 := (124, [(some (.ref 10)), (some (.int (Int32.ofInt Lv))), (some (.int (Int32.ofInt r5))), (some (.int (Int32.ofInt (-1))))], [], zk c m5)) (st2 := (124, [(some (.ref 10)), (some (.int (Int32.ofInt Lv))), (some (.int (Int32.ofInt r5))), (some (.int (Int32.ofInt (-1))))], [], zk c m5)) ⟨[zo, zo, zo, zo, zo, zo], _, rfl, ⟨trivial, trivial, trivial, trivial, trivial, zbf (fun q => q ((zi_eq rfl rfl (⟨by decide, by decide⟩ : zR (-1)) (⟨by decide, by decide⟩ : zR (-1))).mpr b35)), trivial⟩⟩ rfl ?_
        have q36 := zt_atom_no (mM 2) (mM 1 1) a9 (zt_in (mM 2) (mM 1 1) ((6 : Int) - Lv).toNat) (by omega) (by omega) (by omega)
        refine zW.step (st1 := (125, [(some (.ref 10)), (some (.int (Int32.ofInt Lv))), (some (.int (Int32.ofInt r5))), (some (.int (Int32.ofInt (-1))))], [.int (Int32.ofInt 0)], zk c m5)) (st2 := (125, [(some (.ref 10)), (some (.int (Int32.ofInt Lv))), (some (.int (Int32.ofInt r5))), (some (.int (Int32.ofInt (-1))))], [.int (Int32.ofInt 0)], zk c m5)) ⟨[zo], _, rfl, ⟨trivial, trivial⟩⟩ rfl ?_
        exact zW.fin (zfin_i rfl rfl rfl) ⟨0, m5, rfl, rfl, hIm5, (by omega), (by omega), (by omega), tk9⟩
      · refine zW.step (st1 := (111, [(some (.ref 10)), (some (.int (Int32.ofInt Lv))), (some (.int (Int32.ofInt r5))), none], [], zk c m5)) (st2 := (111, [(some (.ref 10)), (some (.int (Int32.ofInt Lv))), (some (.int (Int32.ofInt r5))), none], [], zk c m5)) ⟨[zo, zo, zt], _, rfl, ⟨trivial, trivial, zbt (fun q => b33 ((zi_eq rfl rfl (by unfold zR; omega) (⟨by decide, by decide⟩ : zR (-1))).mp q)), trivial⟩⟩ rfl ?_
        refine zW.step (st1 := (115, [(some (.ref 10)), (some (.int (Int32.ofInt Lv))), (some (.int (Int32.ofInt r5))), none], [.int (((Int32.ofInt r5).toUInt32 % 65536).toInt32), .ref (z_RO + 3)], zk c m5)) (st2 := (115, [(some (.ref 10)), (some (.int (Int32.ofInt Lv))), (some (.int (Int32.ofInt r5))), none], [.int (Int32.ofInt (r5 % 65536)), .ref (z_RO + 3)], zk c m5)) ⟨[zo, zo, zo], _, rfl, ⟨trivial, trivial, trivial, trivial⟩⟩ (z_steq rfl (z_c1 (z_vi (zi_i2c rfl)) rfl) rfl) ?_
        obtain ⟨r37, hs37, q_37, f_37⟩ := S_J0_indexOf_0f7a4_3F zn (d + 0) hN hC (r5 % 65536) m5 hIm5 (by omega) (by omega)
        refine zW.step (st1 := (118, [(some (.ref 10)), (some (.int (Int32.ofInt Lv))), (some (.int (Int32.ofInt r5))), none], [.int (Int32.ofInt r37)], zk c m5)) ⟨[zc (some (.int (Int32.ofInt r37))) (zk c m5)], _, rfl, ⟨⟨(Nat.le_of_ble_eq_true rfl), hs37, (Nat.le_of_ble_eq_true rfl), Nat.le_refl _, Nat.le_refl _, Nat.le_refl _, Nat.le_refl _⟩, trivial⟩⟩ rfl ?_
        have q38 := congrArg (zix zLs3 0) (show r5 % 65536 = zpk (mM 2) (mM 1 1) (znx (mM 2) (mM 1 1) a9) by omega)
        by_cases b39 : r37 = (-1)
        · refine zW.step (st1 := (124, [(some (.ref 10)), (some (.int (Int32.ofInt Lv))), (some (.int (Int32.ofInt r5))), (some (.int (Int32.ofInt r37)))], [], zk c m5)) (st2 := (124, [(some (.ref 10)), (some (.int (Int32.ofInt Lv))), (some (.int (Int32.ofInt r5))), (some (.int (Int32.ofInt r37)))], [], zk c m5)) ⟨[zo, zo, zo, zo], _, rfl, ⟨trivial, trivial, trivial, zbf (fun q => q ((zi_eq rfl rfl (by unfold zR; omega) (⟨by decide, by decide⟩ : zR (-1))).mpr b39)), trivial⟩⟩ rfl ?_
          have q40 := zt_atom_no (mM 2) (mM 1 1) a9 (zt_in (mM 2) (mM 1 1) ((6 : Int) - Lv).toNat) (by omega) (by omega) (by omega)
          refine zW.step (st1 := (125, [(some (.ref 10)), (some (.int (Int32.ofInt Lv))), (some (.int (Int32.ofInt r5))), (some (.int (Int32.ofInt r37)))], [.int (Int32.ofInt 0)], zk c m5)) (st2 := (125, [(some (.ref 10)), (some (.int (Int32.ofInt Lv))), (some (.int (Int32.ofInt r5))), (some (.int (Int32.ofInt r37)))], [.int (Int32.ofInt 0)], zk c m5)) ⟨[zo], _, rfl, ⟨trivial, trivial⟩⟩ rfl ?_
          exact zW.fin (zfin_i rfl rfl rfl) ⟨0, m5, rfl, rfl, hIm5, (by omega), (by omega), (by omega), tk9⟩
        · refine zW.step (st1 := (126, [(some (.ref 10)), (some (.int (Int32.ofInt Lv))), (some (.int (Int32.ofInt r5))), (some (.int (Int32.ofInt r37)))], [], zk c m5)) (st2 := (126, [(some (.ref 10)), (some (.int (Int32.ofInt Lv))), (some (.int (Int32.ofInt r5))), (some (.int (Int32.ofInt r37)))], [], zk c m5)) ⟨[zo, zo, zo, zt], _, rfl, ⟨trivial, trivial, trivial, zbt (fun q => b39 ((zi_eq rfl rfl (by unfold zR; omega) (⟨by decide, by decide⟩ : zR (-1))).mp q)), trivial⟩⟩ rfl ?_
          have q41 := zt_atom_le (mM 2) (mM 1 1) a9 (zt_in (mM 2) (mM 1 1) ((6 : Int) - Lv).toNat) (by omega) (by omega) (by omega)
          obtain ⟨m42, hm42⟩ : ∃ q, q = zm_up m5 1 2 ((m5 1 2) + 1) := ⟨_, rfl⟩
          have hIm42 : zI c mM m42 := by rw [hm42]; exact zI_up hIm5 (by unfold zOk; decide) (show (0 : Int) ≤ ((m5 1 2) + 1) ∧ ((m5 1 2) + 1) ≤ 240 by omega)
          have em42 : m42 1 2 = ((m5 1 2) + 1) := by rw [hm42]; exact zm_eq
          have f43 : m42 1 1 = m5 1 1 := by rw [hm42]; exact zm_ne (by omega)
          have f44 : m42 10 2 = m5 10 2 := by rw [hm42]; exact zm_ne (by omega)
          have tk45 : zN m m42 := by rw [hm42]; exact zN_up tk9 (by unfold zRow; omega)
          clear tk9
          refine zW.step (st1 := (139, [(some (.ref 10)), (some (.int (Int32.ofInt Lv))), (some (.int (Int32.ofInt r5))), (some (.int (Int32.ofInt r37)))], [], z_hup (zk c m5) 1 (.inr (8, [.ref 2, .int (Int32.ofInt (m5 1 1)), .int ((Int32.ofInt (m5 1 2)) + (Int32.ofInt 1)), .int (Int32.ofInt (m5 1 3))])))) (st2 := (139, [(some (.ref 10)), (some (.int (Int32.ofInt Lv))), (some (.int (Int32.ofInt r5))), (some (.int (Int32.ofInt r37)))], [], zk c m42)) ⟨[zo, zo, zo, zo, zo, zo, zo], _, rfl, ⟨trivial, (Nat.lt_of_lt_of_le (Nat.le_of_ble_eq_true rfl) hN), trivial, (Nat.lt_of_lt_of_le (Nat.le_of_ble_eq_true rfl) hN), trivial, trivial, ⟨(Nat.lt_of_lt_of_le (Nat.le_of_ble_eq_true rfl) hN), rfl, rfl⟩, trivial⟩⟩ (z_steq rfl rfl ((zk_up c m5 1 2 ((m5 1 2) + 1) _ ((congrArg (fun q => (.inr (8, [.ref 2, .int (Int32.ofInt (m5 1 1)), .int q, .int (Int32.ofInt (m5 1 3))]) : z_E)) (zi_add rfl rfl)).trans rfl)).trans (by rw [hm42]))) ?_
          have f46 : (0 : Int) ≤ m42 10 3 ∧ m42 10 3 ≤ 1 := hIm42.1 10 3
          by_cases b47 : r5 = 112
          · refine zW.step (st1 := (150, [(some (.ref 10)), (some (.int (Int32.ofInt Lv))), (some (.int (Int32.ofInt r5))), (some (.int (Int32.ofInt r37)))], [.int (Int32.ofInt (m42 10 3)), .ref 10], zk c m42)) (st2 := (150, [(some (.ref 10)), (some (.int (Int32.ofInt Lv))), (some (.int (Int32.ofInt r5))), (some (.int (Int32.ofInt r37)))], [.int (Int32.ofInt (m42 10 3)), .ref 10], zk c m42)) ⟨[zo, zo, zo, zo, zo, zo], _, rfl, ⟨trivial, trivial, (Nat.lt_of_lt_of_le (Nat.le_of_ble_eq_true rfl) hN), trivial, trivial, zbf (fun q => q ((zi_eq rfl (by decide : (Int8.ofInt 112).toInt32 = Int32.ofInt 112) (by unfold zR; omega) (⟨by decide, by decide⟩ : zR 112)).mpr b47)), trivial⟩⟩ rfl ?_
            have f48 : (0 : Int) ≤ m42 1 1 ∧ m42 1 1 ≤ 240 := hIm42.1 1 1
            have f49 : (0 : Int) ≤ m42 1 2 ∧ m42 1 2 ≤ 240 := hIm42.1 1 2
            have f50 : (0 : Int) ≤ m42 10 2 ∧ m42 10 2 ≤ 240 := hIm42.1 10 2
            have f51 : (-2147483648 : Int) ≤ zb_or (m42 10 3) 1 ∧ zb_or (m42 10 3) 1 ≤ 2147483647 := zb_orR (m42 10 3) 1
            have f52 := zb_or_f (m42 10 3) 1
            have f53 := zb_or_b (m42 10 3) 1
            obtain ⟨m54, hm54⟩ : ∃ q, q = zm_up m42 10 3 (zb_or (m42 10 3) 1) := ⟨_, rfl⟩
            have hIm54 : zI c mM m54 := by rw [hm54]; exact zI_up hIm42 (zOk_p (by decide)) (show (0 : Int) ≤ (zb_or (m42 10 3) 1) ∧ (zb_or (m42 10 3) 1) ≤ 1 by omega)
            have em54 : m54 10 3 = (zb_or (m42 10 3) 1) := by rw [hm54]; exact zm_eq
            have f55 : m54 1 1 = m42 1 1 := by rw [hm54]; exact zm_ne (by omega)
            have f56 : m54 10 2 = m42 10 2 := by rw [hm54]; exact zm_ne (by omega)
            have f57 : m54 1 2 = m42 1 2 := by rw [hm54]; exact zm_ne (by omega)
            have tk58 : zN m m54 := by rw [hm54]; exact zN_up tk45 (by unfold zRow; omega)
            clear tk45
            refine zW.step (st1 := (159, [(some (.ref 10)), (some (.int (Int32.ofInt Lv))), (some (.int (Int32.ofInt r5))), (some (.int (Int32.ofInt r37)))], [], z_hup (zk c m42) 10 (.inr (10, [.ref 1, .ref 11, .int (Int32.ofInt (m42 10 2)), .int ((Int32.ofInt (m42 10 3)) ||| (Int32.ofInt 1))])))) (st2 := (159, [(some (.ref 10)), (some (.int (Int32.ofInt Lv))), (some (.int (Int32.ofInt r5))), (some (.int (Int32.ofInt r37)))], [], zk c m54)) ⟨[zo, zo, zo, zo], _, rfl, ⟨trivial, trivial, trivial, ⟨(Nat.lt_of_lt_of_le (Nat.le_of_ble_eq_true rfl) hN), (z_narZ (zi_or rfl rfl) (by omega)), (z_fitZ (zi_or rfl rfl) (by omega))⟩, trivial⟩⟩ (z_steq rfl rfl ((zk_up c m42 10 3 (zb_or (m42 10 3) 1) _ ((congrArg (fun q => (.inr (10, [.ref 1, .ref 11, .int (Int32.ofInt (m42 10 2)), .int q]) : z_E)) (zi_or rfl rfl)).trans rfl)).trans (by rw [hm54]))) ?_
            clear f46 f51 f52 f53
            refine zW.step (st1 := (162, [(some (.ref 10)), (some (.int (Int32.ofInt Lv))), (some (.int (Int32.ofInt r5))), (some (.int (Int32.ofInt r37)))], [.int (Int32.ofInt r37), .int (Int32.ofInt 1), .ref 10], zk c m54)) (st2 := (162, [(some (.ref 10)), (some (.int (Int32.ofInt Lv))), (some (.int (Int32.ofInt r5))), (some (.int (Int32.ofInt r37)))], [.int (Int32.ofInt r37), .int (Int32.ofInt 1), .ref 10], zk c m54)) ⟨[zo, zo, zo], _, rfl, ⟨trivial, trivial, trivial, trivial⟩⟩ rfl ?_
            obtain ⟨r59, m59, hs59, hIm59, z_59, p9_59, e_59, p_59, kN_59⟩ := S_X10_emit_F zn (d + 3) hN hC 1 r37 (((znx (mM 2) (mM 1 1) a9)) + 1) m54 hIm54 (by omega) (by omega) (by omega) (by omega) (by omega)
            refine zW.step (st1 := (165, [(some (.ref 10)), (some (.int (Int32.ofInt Lv))), (some (.int (Int32.ofInt r5))), (some (.int (Int32.ofInt r37)))], [.int (Int32.ofInt r59)], zk c m59)) ⟨[zc (some (.int (Int32.ofInt r59))) (zk c m59)], _, rfl, ⟨⟨⟨(Nat.lt_of_lt_of_le (Nat.le_of_ble_eq_true rfl) hN), (Nat.le_of_ble_eq_true rfl)⟩, hs59, (Nat.le_of_ble_eq_true rfl), Nat.le_refl _, Nat.le_refl _, Nat.le_refl _, Nat.le_refl _⟩, trivial⟩⟩ rfl ?_
            have f60 : (0 : Int) ≤ m59 1 1 ∧ m59 1 1 ≤ 240 := hIm59.1 1 1
            have f61 : (0 : Int) ≤ m59 1 2 ∧ m59 1 2 ≤ 240 := hIm59.1 1 2
            have f62 : (0 : Int) ≤ m59 10 2 ∧ m59 10 2 ≤ 240 := hIm59.1 10 2
            have tk63 : zN m m59 := zN_tr tk58 kN_59
            exact zW.fin (zfin_i rfl rfl (z_narZ rfl (by omega))) ⟨r59, m59, rfl, rfl, hIm59, (by omega), (by omega), (by omega), tk63⟩
          · refine zW.step (st1 := (154, [(some (.ref 10)), (some (.int (Int32.ofInt Lv))), (some (.int (Int32.ofInt r5))), (some (.int (Int32.ofInt r37)))], [.int (Int32.ofInt (m42 10 3)), .ref 10], zk c m42)) (st2 := (154, [(some (.ref 10)), (some (.int (Int32.ofInt Lv))), (some (.int (Int32.ofInt r5))), (some (.int (Int32.ofInt r37)))], [.int (Int32.ofInt (m42 10 3)), .ref 10], zk c m42)) ⟨[zo, zo, zo, zo, zo, zt], _, rfl, ⟨trivial, trivial, (Nat.lt_of_lt_of_le (Nat.le_of_ble_eq_true rfl) hN), trivial, trivial, zbt (fun q => b47 ((zi_eq rfl (by decide : (Int8.ofInt 112).toInt32 = Int32.ofInt 112) (by unfold zR; omega) (⟨by decide, by decide⟩ : zR 112)).mp q)), trivial⟩⟩ rfl ?_
            have f64 : (0 : Int) ≤ m42 1 1 ∧ m42 1 1 ≤ 240 := hIm42.1 1 1
            have f65 : (0 : Int) ≤ m42 1 2 ∧ m42 1 2 ≤ 240 := hIm42.1 1 2
            have f66 : (0 : Int) ≤ m42 10 2 ∧ m42 10 2 ≤ 240 := hIm42.1 10 2
            have f67 : (-2147483648 : Int) ≤ zb_or (m42 10 3) 0 ∧ zb_or (m42 10 3) 0 ≤ 2147483647 := zb_orR (m42 10 3) 0
            have f68 := zb_or_f (m42 10 3) 0
            have f69 := zb_or_b (m42 10 3) 0
            obtain ⟨m70, hm70⟩ : ∃ q, q = zm_up m42 10 3 (zb_or (m42 10 3) 0) := ⟨_, rfl⟩
            have hIm70 : zI c mM m70 := by rw [hm70]; exact zI_up hIm42 (zOk_p (by decide)) (show (0 : Int) ≤ (zb_or (m42 10 3) 0) ∧ (zb_or (m42 10 3) 0) ≤ 1 by omega)
            have em70 : m70 10 3 = (zb_or (m42 10 3) 0) := by rw [hm70]; exact zm_eq
            have f71 : m70 1 1 = m42 1 1 := by rw [hm70]; exact zm_ne (by omega)
            have f72 : m70 10 2 = m42 10 2 := by rw [hm70]; exact zm_ne (by omega)
            have f73 : m70 1 2 = m42 1 2 := by rw [hm70]; exact zm_ne (by omega)
            have tk74 : zN m m70 := by rw [hm70]; exact zN_up tk45 (by unfold zRow; omega)
            clear tk45
            refine zW.step (st1 := (159, [(some (.ref 10)), (some (.int (Int32.ofInt Lv))), (some (.int (Int32.ofInt r5))), (some (.int (Int32.ofInt r37)))], [], z_hup (zk c m42) 10 (.inr (10, [.ref 1, .ref 11, .int (Int32.ofInt (m42 10 2)), .int ((Int32.ofInt (m42 10 3)) ||| (Int32.ofInt 0))])))) (st2 := (159, [(some (.ref 10)), (some (.int (Int32.ofInt Lv))), (some (.int (Int32.ofInt r5))), (some (.int (Int32.ofInt r37)))], [], zk c m70)) ⟨[zo, zo, zo], _, rfl, ⟨trivial, trivial, ⟨(Nat.lt_of_lt_of_le (Nat.le_of_ble_eq_true rfl) hN), (z_narZ (zi_or rfl rfl) (by omega)), (z_fitZ (zi_or rfl rfl) (by omega))⟩, trivial⟩⟩ (z_steq rfl rfl ((zk_up c m42 10 3 (zb_or (m42 10 3) 0) _ ((congrArg (fun q => (.inr (10, [.ref 1, .ref 11, .int (Int32.ofInt (m42 10 2)), .int q]) : z_E)) (zi_or rfl rfl)).trans rfl)).trans (by rw [hm70]))) ?_
            clear f46 f67 f68 f69
            refine zW.step (st1 := (162, [(some (.ref 10)), (some (.int (Int32.ofInt Lv))), (some (.int (Int32.ofInt r5))), (some (.int (Int32.ofInt r37)))], [.int (Int32.ofInt r37), .int (Int32.ofInt 1), .ref 10], zk c m70)) (st2 := (162, [(some (.ref 10)), (some (.int (Int32.ofInt Lv))), (some (.int (Int32.ofInt r5))), (some (.int (Int32.ofInt r37)))], [.int (Int32.ofInt r37), .int (Int32.ofInt 1), .ref 10], zk c m70)) ⟨[zo, zo, zo], _, rfl, ⟨trivial, trivial, trivial, trivial⟩⟩ rfl ?_
            obtain ⟨r75, m75, hs75, hIm75, z_75, p9_75, e_75, p_75, kN_75⟩ := S_X10_emit_F zn (d + 3) hN hC 1 r37 (((znx (mM 2) (mM 1 1) a9)) + 1) m70 hIm70 (by omega) (by omega) (by omega) (by omega) (by omega)
            refine zW.step (st1 := (165, [(some (.ref 10)), (some (.int (Int32.ofInt Lv))), (some (.int (Int32.ofInt r5))), (some (.int (Int32.ofInt r37)))], [.int (Int32.ofInt r75)], zk c m75)) ⟨[zc (some (.int (Int32.ofInt r75))) (zk c m75)], _, rfl, ⟨⟨⟨(Nat.lt_of_lt_of_le (Nat.le_of_ble_eq_true rfl) hN), (Nat.le_of_ble_eq_true rfl)⟩, hs75, (Nat.le_of_ble_eq_true rfl), Nat.le_refl _, Nat.le_refl _, Nat.le_refl _, Nat.le_refl _⟩, trivial⟩⟩ rfl ?_
            have f76 : (0 : Int) ≤ m75 1 1 ∧ m75 1 1 ≤ 240 := hIm75.1 1 1
            have f77 : (0 : Int) ≤ m75 1 2 ∧ m75 1 2 ≤ 240 := hIm75.1 1 2
            have f78 : (0 : Int) ≤ m75 10 2 ∧ m75 10 2 ≤ 240 := hIm75.1 10 2
            have tk79 : zN m m75 := zN_tr tk74 kN_75
            exact zW.fin (zfin_i rfl rfl (z_narZ rfl (by omega))) ⟨r75, m75, rfl, rfl, hIm75, (by omega), (by omega), (by omega), tk79⟩
    · refine zW.step (st1 := (70, [(some (.ref 10)), (some (.int (Int32.ofInt Lv))), (some (.int (Int32.ofInt r5))), none], [], zk c m5)) (st2 := (70, [(some (.ref 10)), (some (.int (Int32.ofInt Lv))), (some (.int (Int32.ofInt r5))), none], [], zk c m5)) ⟨[zo], _, rfl, ⟨zbf (fun q => b31 ((zi_eq rfl (rfl : (0 : Int32) = Int32.ofInt 0) (by unfold zR; omega) (⟨by decide, by decide⟩ : zR 0)).mp q)), trivial⟩⟩ rfl ?_
      have q80 := zt_atom_dg (mM 2) (mM 1 1) a9 (zt_in (mM 2) (mM 1 1) ((6 : Int) - Lv).toNat) (by omega)
      have q81 := znx_i (b := mM 2) (n := mM 1 1) (a := a9) (by omega) (by omega)
      refine zW.step (st1 := (75, [(some (.ref 10)), (some (.int (Int32.ofInt Lv))), (some (.int (Int32.ofInt r5))), none], [.int (Int32.ofInt 4), .ref 1], zk c m5)) (st2 := (75, [(some (.ref 10)), (some (.int (Int32.ofInt Lv))), (some (.int (Int32.ofInt r5))), none], [.int (Int32.ofInt 4), .ref 1], zk c m5)) ⟨[zo, zo, zo], _, rfl, ⟨trivial, (Nat.lt_of_lt_of_le (Nat.le_of_ble_eq_true rfl) hN), trivial, trivial⟩⟩ rfl ?_
      obtain ⟨r82, m82, hs82, hIm82, z_82, p_82, b_82, nn_82, kN_82, kD_82⟩ := S_X8_takesNumber_4F zn (d + 1) hN hC (znx (mM 2) (mM 1 1) a9) m5 hIm5 (by omega) (by omega) (by omega) (by omega)
      refine zW.step (st1 := (78, [(some (.ref 10)), (some (.int (Int32.ofInt Lv))), (some (.int (Int32.ofInt r5))), none], [.int (Int32.ofInt r82)], zk c m82)) ⟨[zc (some (.int (Int32.ofInt r82))) (zk c m82)], _, rfl, ⟨⟨⟨(Nat.lt_of_lt_of_le (Nat.le_of_ble_eq_true rfl) hN), (Nat.le_of_ble_eq_true rfl)⟩, hs82, (Nat.le_of_ble_eq_true rfl), Nat.le_refl _, Nat.le_refl _, Nat.le_refl _, Nat.le_refl _⟩, trivial⟩⟩ rfl ?_
      have f83 : (0 : Int) ≤ m82 1 1 ∧ m82 1 1 ≤ 240 := hIm82.1 1 1
      have f84 : (0 : Int) ≤ m82 1 2 ∧ m82 1 2 ≤ 240 := hIm82.1 1 2
      have f85 : (0 : Int) ≤ m82 10 2 ∧ m82 10 2 ≤ 240 := hIm82.1 10 2
      have tk86 : zN m m82 := zN_tr tk9 kN_82
      by_cases b87 : r82 = 0
      · refine zW.step (st1 := (100, [(some (.ref 10)), (some (.int (Int32.ofInt Lv))), (some (.int (Int32.ofInt r5))), none], [], zk c m82)) (st2 := (100, [(some (.ref 10)), (some (.int (Int32.ofInt Lv))), (some (.int (Int32.ofInt r5))), none], [], zk c m82)) ⟨[zt], _, rfl, ⟨zbt ((zi_eq rfl (rfl : (0 : Int32) = Int32.ofInt 0) (by unfold zR; omega) (⟨by decide, by decide⟩ : zR 0)).mpr b87), trivial⟩⟩ rfl ?_
        refine zW.step (st1 := (101, [(some (.ref 10)), (some (.int (Int32.ofInt Lv))), (some (.int (Int32.ofInt r5))), none], [.int (Int32.ofInt 0)], zk c m82)) (st2 := (101, [(some (.ref 10)), (some (.int (Int32.ofInt Lv))), (some (.int (Int32.ofInt r5))), none], [.int (Int32.ofInt 0)], zk c m82)) ⟨[zo], _, rfl, ⟨trivial, trivial⟩⟩ rfl ?_
        exact zW.fin (zfin_i rfl rfl rfl) ⟨0, m82, rfl, rfl, hIm82, (by omega), (by omega), (by omega), tk86⟩
      · refine zW.step (st1 := (81, [(some (.ref 10)), (some (.int (Int32.ofInt Lv))), (some (.int (Int32.ofInt r5))), none], [], zk c m82)) (st2 := (81, [(some (.ref 10)), (some (.int (Int32.ofInt Lv))), (some (.int (Int32.ofInt r5))), none], [], zk c m82)) ⟨[zo], _, rfl, ⟨zbf (fun q => b87 ((zi_eq rfl (rfl : (0 : Int32) = Int32.ofInt 0) (by unfold zR; omega) (⟨by decide, by decide⟩ : zR 0)).mp q)), trivial⟩⟩ rfl ?_
        have f88 : (-2147483648 : Int) ≤ m82 1 3 ∧ m82 1 3 ≤ 2147483647 := hIm82.1 1 3
        refine zW.step (st1 := (90, [(some (.ref 10)), (some (.int (Int32.ofInt Lv))), (some (.int (Int32.ofInt r5))), none], [.int (Int32.ofInt (m82 1 3)), .int (Int32.ofInt 0), .ref 10], zk c m82)) (st2 := (90, [(some (.ref 10)), (some (.int (Int32.ofInt Lv))), (some (.int (Int32.ofInt r5))), none], [.int (Int32.ofInt (m82 1 3)), .int (Int32.ofInt 0), .ref 10], zk c m82)) ⟨[zo, zo, zo, zo, zo], _, rfl, ⟨trivial, trivial, trivial, (Nat.lt_of_lt_of_le (Nat.le_of_ble_eq_true rfl) hN), (Nat.lt_of_lt_of_le (Nat.le_of_ble_eq_true rfl) hN), trivial⟩⟩ rfl ?_
        obtain ⟨r89, m89, hs89, hIm89, z_89, p9_89, e_89, p_89, kN_89⟩ := S_X10_emit_F zn (d + 3) hN hC 0 (m82 1 3) ((zn4 (mM 2) (mM 1 1) 4 (znx (mM 2) (mM 1 1) a9)).2) m82 hIm82 (by omega) (by omega) (by omega) (by omega) (by omega)
        refine zW.step (st1 := (93, [(some (.ref 10)), (some (.int (Int32.ofInt Lv))), (some (.int (Int32.ofInt r5))), none], [.int (Int32.ofInt r89)], zk c m89)) ⟨[zc (some (.int (Int32.ofInt r89))) (zk c m89)], _, rfl, ⟨⟨⟨(Nat.lt_of_lt_of_le (Nat.le_of_ble_eq_true rfl) hN), (Nat.le_of_ble_eq_true rfl)⟩, hs89, (Nat.le_of_ble_eq_true rfl), Nat.le_refl _, Nat.le_refl _, Nat.le_refl _, Nat.le_refl _⟩, trivial⟩⟩ rfl ?_
        have f90 : (0 : Int) ≤ m89 1 1 ∧ m89 1 1 ≤ 240 := hIm89.1 1 1
        have f91 : (0 : Int) ≤ m89 1 2 ∧ m89 1 2 ≤ 240 := hIm89.1 1 2
        have f92 : (0 : Int) ≤ m89 10 2 ∧ m89 10 2 ≤ 240 := hIm89.1 10 2
        have tk93 : zN m m89 := zN_tr tk86 kN_89
        by_cases b94 : r89 = 0
        · refine zW.step (st1 := (100, [(some (.ref 10)), (some (.int (Int32.ofInt Lv))), (some (.int (Int32.ofInt r5))), none], [], zk c m89)) (st2 := (100, [(some (.ref 10)), (some (.int (Int32.ofInt Lv))), (some (.int (Int32.ofInt r5))), none], [], zk c m89)) ⟨[zt], _, rfl, ⟨zbt ((zi_eq rfl (rfl : (0 : Int32) = Int32.ofInt 0) (by unfold zR; omega) (⟨by decide, by decide⟩ : zR 0)).mpr b94), trivial⟩⟩ rfl ?_
          refine zW.step (st1 := (101, [(some (.ref 10)), (some (.int (Int32.ofInt Lv))), (some (.int (Int32.ofInt r5))), none], [.int (Int32.ofInt 0)], zk c m89)) (st2 := (101, [(some (.ref 10)), (some (.int (Int32.ofInt Lv))), (some (.int (Int32.ofInt r5))), none], [.int (Int32.ofInt 0)], zk c m89)) ⟨[zo], _, rfl, ⟨trivial, trivial⟩⟩ rfl ?_
          exact zW.fin (zfin_i rfl rfl rfl) ⟨0, m89, rfl, rfl, hIm89, (by omega), (by omega), (by omega), tk93⟩
        · refine zW.step (st1 := (96, [(some (.ref 10)), (some (.int (Int32.ofInt Lv))), (some (.int (Int32.ofInt r5))), none], [], zk c m89)) (st2 := (96, [(some (.ref 10)), (some (.int (Int32.ofInt Lv))), (some (.int (Int32.ofInt r5))), none], [], zk c m89)) ⟨[zo], _, rfl, ⟨zbf (fun q => b94 ((zi_eq rfl (rfl : (0 : Int32) = Int32.ofInt 0) (by unfold zR; omega) (⟨by decide, by decide⟩ : zR 0)).mp q)), trivial⟩⟩ rfl ?_
          refine zW.step (st1 := (101, [(some (.ref 10)), (some (.int (Int32.ofInt Lv))), (some (.int (Int32.ofInt r5))), none], [.int (Int32.ofInt 1)], zk c m89)) (st2 := (101, [(some (.ref 10)), (some (.int (Int32.ofInt Lv))), (some (.int (Int32.ofInt r5))), none], [.int (Int32.ofInt 1)], zk c m89)) ⟨[zo, zo], _, rfl, ⟨trivial, trivial, trivial⟩⟩ rfl ?_
          exact zW.fin (zfin_i rfl rfl rfl) ⟨1, m89, rfl, rfl, hIm89, (by omega), (by omega), (by omega), tk93⟩

