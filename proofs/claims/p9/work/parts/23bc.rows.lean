/-! texts, by program (wip/tools/gw5): J0_indexOf_7cf53_3F, J0_indexOf_0f7a4_3F, X10_emit_F, X10_atom_GF -/
set_option maxRecDepth 100000 in
set_option maxHeartbeats 4000000 in
theorem S_J0_indexOf_7cf53_3F (zn : Bool) (d : Nat) {c : Nat × Nat} {mM : zM} (hN : 107 ≤ c.1) (hC : c.1 < z_RO) (ch : Int) (fr : Int) (m : zM) (hIm : zI c mM m) (r_ch : -2147483648 ≤ ch ∧ ch ≤ 2147483647) (r_fr : -2147483648 ≤ fr ∧ fr ≤ 2147483647) (hc : 0 ≤ ch ∧ ch ≤ 255) (hf : fr = 0) : zPi zn (d + 3) 7 [.ref (z_RO + 3), .int (Int32.ofInt ch), .int (Int32.ofInt fr)] c m (fun (r : Int) => (-1 ≤ r ∧ r < 6) ∧ (r = zix zLs3 0 ch)) := by
  refine zPi.of zu_J0_indexOf_7cf53 hC (Nat.le_of_ble_eq_true rfl) ?_
  show zW zn (d + 2) 7 c (0, [(some (.ref (z_RO + 3))), (some (.int (Int32.ofInt ch))), (some (.int (Int32.ofInt fr)))], [], zk c m) (fun v h1 => ∃ (r : Int), v = some (.int (Int32.ofInt r)) ∧ h1 = zk c m ∧ (-1 ≤ r ∧ r < 6) ∧ (r = zix zLs3 0 ch))
  refine zW.step (st1 := (1, [(some (.ref (z_RO + 3))), (some (.int (Int32.ofInt ch))), (some (.int (Int32.ofInt fr)))], [.ref (z_RO + 3)], zk c m)) (st2 := (1, [(some (.ref (z_RO + 3))), (some (.int (Int32.ofInt ch))), (some (.int (Int32.ofInt fr)))], [.ref (z_RO + 3)], zk c m)) ⟨[zo], _, rfl, ⟨trivial, trivial⟩⟩ rfl ?_
  obtain ⟨r1, hs1, q_1⟩ := S_J0_isLatin1_aae02_3 zn (d + 1) hN hC m hIm
  subst q_1
  refine zW.step (st1 := (4, [(some (.ref (z_RO + 3))), (some (.int (Int32.ofInt ch))), (some (.int (Int32.ofInt fr)))], [.int (Int32.ofInt 1)], zk c m)) ⟨[zc (some (.int (Int32.ofInt 1))) (zk c m)], _, rfl, ⟨⟨(Nat.le_of_ble_eq_true rfl), hs1, (Nat.le_of_ble_eq_true rfl), Nat.le_refl _, Nat.le_refl _, Nat.le_refl _, Nat.le_refl _⟩, trivial⟩⟩ rfl ?_
  have b2 : ¬ ((1 : Int) = 0) := by omega
  refine zW.step (st1 := (7, [(some (.ref (z_RO + 3))), (some (.int (Int32.ofInt ch))), (some (.int (Int32.ofInt fr)))], [], zk c m)) (st2 := (7, [(some (.ref (z_RO + 3))), (some (.int (Int32.ofInt ch))), (some (.int (Int32.ofInt fr)))], [], zk c m)) ⟨[zo], _, rfl, ⟨zbf (fun q => b2 ((zi_eq (by decide : Int32.ofInt 1 = Int32.ofInt 1) (rfl : (0 : Int32) = Int32.ofInt 0) (⟨by decide, by decide⟩ : zR 1) (⟨by decide, by decide⟩ : zR 0)).mp q)), trivial⟩⟩ rfl ?_
  refine zW.step (st1 := (14, [(some (.ref (z_RO + 3))), (some (.int (Int32.ofInt ch))), (some (.int (Int32.ofInt fr)))], [.ref (z_RO + 3), .int (Int32.ofInt fr), .int (Int32.ofInt ch), .ref (z_RO + 103)], zk c m)) (st2 := (14, [(some (.ref (z_RO + 3))), (some (.int (Int32.ofInt ch))), (some (.int (Int32.ofInt fr)))], [.ref (z_RO + 3), .int (Int32.ofInt fr), .int (Int32.ofInt ch), .ref (z_RO + 103)], zk c m)) ⟨[zo, zo, zo, zo, zo], _, rfl, ⟨trivial, trivial, trivial, trivial, trivial, trivial⟩⟩ rfl ?_
  obtain ⟨r3, hs3, q_3⟩ := S_J0_length_8abf5_3 zn (d + 0) hN hC m hIm
  subst q_3
  refine zW.step (st1 := (17, [(some (.ref (z_RO + 3))), (some (.int (Int32.ofInt ch))), (some (.int (Int32.ofInt fr)))], [.int (Int32.ofInt 6), .int (Int32.ofInt fr), .int (Int32.ofInt ch), .ref (z_RO + 103)], zk c m)) ⟨[zc (some (.int (Int32.ofInt 6))) (zk c m)], _, rfl, ⟨⟨(Nat.le_of_ble_eq_true rfl), hs3, (Nat.le_of_ble_eq_true rfl), Nat.le_refl _, Nat.le_refl _, Nat.le_refl _, Nat.le_refl _⟩, trivial⟩⟩ rfl ?_
  obtain ⟨r4, hs4, q_4, f_4⟩ := S_J1_indexOf_4cfef_103F zn (d + 0) hN hC ch fr 6 m hIm (by omega) (by omega) (by omega) (by omega) (by omega) (by omega)
  refine zW.step (st1 := (20, [(some (.ref (z_RO + 3))), (some (.int (Int32.ofInt ch))), (some (.int (Int32.ofInt fr)))], [.int (Int32.ofInt r4)], zk c m)) ⟨[zc (some (.int (Int32.ofInt r4))) (zk c m)], _, rfl, ⟨⟨(Nat.le_of_ble_eq_true rfl), hs4, (Nat.le_of_ble_eq_true rfl), Nat.le_refl _, Nat.le_refl _, Nat.le_refl _, Nat.le_refl _⟩, trivial⟩⟩ rfl ?_
  refine zW.step (st1 := (36, [(some (.ref (z_RO + 3))), (some (.int (Int32.ofInt ch))), (some (.int (Int32.ofInt fr)))], [.int (Int32.ofInt r4)], zk c m)) (st2 := (36, [(some (.ref (z_RO + 3))), (some (.int (Int32.ofInt ch))), (some (.int (Int32.ofInt fr)))], [.int (Int32.ofInt r4)], zk c m)) ⟨[zo], _, rfl, ⟨trivial, trivial⟩⟩ rfl ?_
  exact zW.fin (zfin_i rfl rfl rfl) ⟨r4, rfl, rfl, (by omega), (by omega)⟩

set_option maxRecDepth 100000 in
set_option maxHeartbeats 4000000 in
theorem S_J0_indexOf_0f7a4_3F (zn : Bool) (d : Nat) {c : Nat × Nat} {mM : zM} (hN : 107 ≤ c.1) (hC : c.1 < z_RO) (ch : Int) (m : zM) (hIm : zI c mM m) (r_ch : -2147483648 ≤ ch ∧ ch ≤ 2147483647) (hc : 0 ≤ ch ∧ ch ≤ 255) : zPi zn (d + 4) 6 [.ref (z_RO + 3), .int (Int32.ofInt ch)] c m (fun (r : Int) => (-1 ≤ r ∧ r < 6) ∧ (r = zix zLs3 0 ch)) := by
  refine zPi.of zu_J0_indexOf_0f7a4 hC (Nat.le_of_ble_eq_true rfl) ?_
  show zW zn (d + 3) 6 c (0, [(some (.ref (z_RO + 3))), (some (.int (Int32.ofInt ch)))], [], zk c m) (fun v h1 => ∃ (r : Int), v = some (.int (Int32.ofInt r)) ∧ h1 = zk c m ∧ (-1 ≤ r ∧ r < 6) ∧ (r = zix zLs3 0 ch))
  refine zW.step (st1 := (3, [(some (.ref (z_RO + 3))), (some (.int (Int32.ofInt ch)))], [.int (Int32.ofInt 0), .int (Int32.ofInt ch), .ref (z_RO + 3)], zk c m)) (st2 := (3, [(some (.ref (z_RO + 3))), (some (.int (Int32.ofInt ch)))], [.int (Int32.ofInt 0), .int (Int32.ofInt ch), .ref (z_RO + 3)], zk c m)) ⟨[zo, zo, zo], _, rfl, ⟨trivial, trivial, trivial, trivial⟩⟩ rfl ?_
  obtain ⟨r1, hs1, q_1, f_1⟩ := S_J0_indexOf_7cf53_3F zn (d + 0) hN hC ch 0 m hIm (by omega) (by omega) (by omega) (by omega)
  refine zW.step (st1 := (6, [(some (.ref (z_RO + 3))), (some (.int (Int32.ofInt ch)))], [.int (Int32.ofInt r1)], zk c m)) ⟨[zc (some (.int (Int32.ofInt r1))) (zk c m)], _, rfl, ⟨⟨(Nat.le_of_ble_eq_true rfl), hs1, (Nat.le_of_ble_eq_true rfl), Nat.le_refl _, Nat.le_refl _, Nat.le_refl _, Nat.le_refl _⟩, trivial⟩⟩ rfl ?_
  exact zW.fin (zfin_i rfl rfl rfl) ⟨r1, rfl, rfl, (by omega), (by omega)⟩

set_option maxRecDepth 100000 in
set_option maxHeartbeats 4000000 in
theorem S_X10_emit_F (zn : Bool) (d : Nat) {c : Nat × Nat} {mM : zM} (hN : 107 ≤ c.1) (hC : c.1 < z_RO) (sign : Int) (operand : Int) (a9 : Int) (m : zM) (hIm : zI c mM m) (r_sign : -2147483648 ≤ sign ∧ sign ≤ 2147483647) (r_operand : -2147483648 ≤ operand ∧ operand ≤ 2147483647) (hs : 0 ≤ sign ∧ sign ≤ 31) (ho : 0 ≤ operand ∧ operand ≤ 99999) (ha9 : m 1 2 = a9) : zCi zn (d + 1) 119 [.ref 10, .int (Int32.ofInt sign), .int (Int32.ofInt operand)] c m (fun (r : Int) (m1 : zM) => zI c mM m1 ∧ (0 ≤ r ∧ r ≤ 1) ∧ (m1 10 2 ≤ m 10 2 + 1 ∧ m1 1 2 = m 1 2) ∧ (r = 1) ∧ (m1 1 2 = a9) ∧ zN m m1) := by
  refine zCi.of zu_X10_emit hC (Nat.le_of_ble_eq_true rfl) ?_
  show zW zn (d + 0) 119 c (0, [(some (.ref 10)), (some (.int (Int32.ofInt sign))), (some (.int (Int32.ofInt operand)))], [], zk c m) (fun v h1 => ∃ (r : Int) (m1 : zM), v = some (.int (Int32.ofInt r)) ∧ h1 = zk c m1 ∧ zI c mM m1 ∧ (0 ≤ r ∧ r ≤ 1) ∧ (m1 10 2 ≤ m 10 2 + 1 ∧ m1 1 2 = m 1 2) ∧ (r = 1) ∧ (m1 1 2 = a9) ∧ zN m m1)
  have f1 : (0 : Int) ≤ m 1 1 ∧ m 1 1 ≤ 240 := hIm.1 1 1
  have f2 : (0 : Int) ≤ m 1 2 ∧ m 1 2 ≤ 240 := hIm.1 1 2
  have f3 : (0 : Int) ≤ m 10 2 ∧ m 10 2 ≤ 240 := hIm.1 10 2
  by_cases b4 : 240 ≤ (m 10 2)
  · refine zW.step (st1 := (37, [(some (.ref 10)), (some (.int (Int32.ofInt sign))), (some (.int (Int32.ofInt operand)))], [], zk c m)) (st2 := (37, [(some (.ref 10)), (some (.int (Int32.ofInt sign))), (some (.int (Int32.ofInt operand)))], [], zk c m)) ⟨[zo, zo, zo, zo, zo, zt], _, rfl, ⟨trivial, (Nat.lt_of_lt_of_le (Nat.le_of_ble_eq_true rfl) hN), trivial, (Nat.lt_of_lt_of_le (Nat.le_of_ble_eq_true rfl) hN), (Nat.lt_of_lt_of_le (Nat.le_of_ble_eq_true rfl) hN), zbt ((zi_le (by decide : Int32.ofNat 240 = Int32.ofInt 240) rfl (⟨by decide, by decide⟩ : zR 240) (by unfold zR; omega)).mpr b4), trivial⟩⟩ rfl ?_
    refine zW.step (st1 := (38, [(some (.ref 10)), (some (.int (Int32.ofInt sign))), (some (.int (Int32.ofInt operand)))], [.int (Int32.ofInt 1)], zk c m)) (st2 := (38, [(some (.ref 10)), (some (.int (Int32.ofInt sign))), (some (.int (Int32.ofInt operand)))], [.int (Int32.ofInt 1)], zk c m)) ⟨[zo], _, rfl, ⟨trivial, trivial⟩⟩ rfl ?_
    exact zW.fin (zfin_i rfl rfl rfl) ⟨1, m, rfl, rfl, hIm, (by omega), (by omega), (by omega), (by omega), zN_rf⟩
  · refine zW.step (st1 := (12, [(some (.ref 10)), (some (.int (Int32.ofInt sign))), (some (.int (Int32.ofInt operand)))], [], zk c m)) (st2 := (12, [(some (.ref 10)), (some (.int (Int32.ofInt sign))), (some (.int (Int32.ofInt operand)))], [], zk c m)) ⟨[zo, zo, zo, zo, zo, zo], _, rfl, ⟨trivial, (Nat.lt_of_lt_of_le (Nat.le_of_ble_eq_true rfl) hN), trivial, (Nat.lt_of_lt_of_le (Nat.le_of_ble_eq_true rfl) hN), (Nat.lt_of_lt_of_le (Nat.le_of_ble_eq_true rfl) hN), zbf (fun q => b4 ((zi_le (by decide : Int32.ofNat 240 = Int32.ofInt 240) rfl (⟨by decide, by decide⟩ : zR 240) (by unfold zR; omega)).mp q)), trivial⟩⟩ rfl ?_
    have f5 : (-2147483648 : Int) ≤ zb_shl sign 14 ∧ zb_shl sign 14 ≤ 2147483647 := zb_shlR sign 14
    have f6 := zb_shl14 sign
    have f7 : (-2147483648 : Int) ≤ zb_or (zb_shl sign 14) operand ∧ zb_or (zb_shl sign 14) operand ≤ 2147483647 := zb_orR (zb_shl sign 14) operand
    have f8 := zb_or_f (zb_shl sign 14) operand
    obtain ⟨m9, hm9⟩ : ∃ q, q = zm_up m 11 ((m 10 2).toNat) (zb_or (zb_shl sign 14) operand) := ⟨_, rfl⟩
    have hIm9 : zI c mM m9 := by rw [hm9]; exact zI_up hIm (zOk_p (by decide)) (show (0 : Int) ≤ (zb_or (zb_shl sign 14) operand) ∧ (zb_or (zb_shl sign 14) operand) ≤ 2147483647 by omega)
    have em9 : m9 11 ((m 10 2).toNat) = (zb_or (zb_shl sign 14) operand) := by rw [hm9]; exact zm_eq
    have f10 : m9 10 2 = m 10 2 := by rw [hm9]; exact zm_ne (by omega)
    have f11 : m9 1 1 = m 1 1 := by rw [hm9]; exact zm_ne (by omega)
    have f12 : m9 1 2 = m 1 2 := by rw [hm9]; exact zm_ne (by omega)
    have tk13 : zN m m9 := by rw [hm9]; exact zN_up zN_rf (by unfold zRow; omega)
    refine zW.step (st1 := (27, [(some (.ref 10)), (some (.int (Int32.ofInt sign))), (some (.int (Int32.ofInt operand)))], [], z_hup (zk c m) 11 (.inl (0, 240, .inl (upd (fun j => Int32.ofInt (m 11 j)) (Int32.ofInt (m 10 2)).toNatClampNeg (((Int32.ofInt sign) <<< (((Int8.ofInt 14).toInt32) &&& 31)) ||| (Int32.ofInt operand))))))) (st2 := (27, [(some (.ref 10)), (some (.int (Int32.ofInt sign))), (some (.int (Int32.ofInt operand)))], [], zk c m9)) ⟨[zo, zo, zo, zo, zo, zo, zo, zo, zo, (false, 0, none, zh0, some (.inl (0, 240, .inl (fun j => Int32.ofInt (m 11 j)))))], _, rfl, ⟨trivial, (Nat.lt_of_lt_of_le (Nat.le_of_ble_eq_true rfl) hN), trivial, (Nat.lt_of_lt_of_le (Nat.le_of_ble_eq_true rfl) hN), trivial, trivial, trivial, trivial, trivial, ⟨zk_ra c m zA_11 (Nat.lt_of_lt_of_le (Nat.le_of_ble_eq_true rfl) hN), zi_in rfl (by omega) (by omega) (by omega)⟩, trivial⟩⟩ (z_steq rfl rfl ((zk_ias c m zA_11 rfl (by unfold zR; omega) (zi_or (zi_shl rfl (by decide : (Int8.ofInt 14).toInt32 = Int32.ofInt 14)) rfl)).trans (by rw [hm9]))) ?_
    have f14 : (0 : Int) ≤ m9 10 2 ∧ m9 10 2 ≤ 240 := hIm9.1 10 2
    obtain ⟨m15, hm15⟩ : ∃ q, q = zm_up m9 10 2 ((m9 10 2) + 1) := ⟨_, rfl⟩
    have hIm15 : zI c mM m15 := by rw [hm15]; exact zI_up hIm9 (zOk_p (by decide)) (show (0 : Int) ≤ ((m9 10 2) + 1) ∧ ((m9 10 2) + 1) ≤ 240 by omega)
    have em15 : m15 10 2 = ((m9 10 2) + 1) := by rw [hm15]; exact zm_eq
    have f16 : m15 1 1 = m9 1 1 := by rw [hm15]; exact zm_ne (by omega)
    have f17 : m15 1 2 = m9 1 2 := by rw [hm15]; exact zm_ne (by omega)
    have tk18 : zN m m15 := by rw [hm15]; exact zN_up tk13 (by unfold zRow; omega)
    clear tk13
    refine zW.step (st1 := (37, [(some (.ref 10)), (some (.int (Int32.ofInt sign))), (some (.int (Int32.ofInt operand)))], [], z_hup (zk c m9) 10 (.inr (10, [.ref 1, .ref 11, .int ((Int32.ofInt (m9 10 2)) + (Int32.ofInt 1)), .int (Int32.ofInt (m9 10 3))])))) (st2 := (37, [(some (.ref 10)), (some (.int (Int32.ofInt sign))), (some (.int (Int32.ofInt operand)))], [], zk c m15)) ⟨[zo, zo, zo, zo, zo, zo], _, rfl, ⟨trivial, trivial, (Nat.lt_of_lt_of_le (Nat.le_of_ble_eq_true rfl) hN), trivial, trivial, ⟨(Nat.lt_of_lt_of_le (Nat.le_of_ble_eq_true rfl) hN), rfl, rfl⟩, trivial⟩⟩ (z_steq rfl rfl ((zk_up c m9 10 2 ((m9 10 2) + 1) _ ((congrArg (fun q => (.inr (10, [.ref 1, .ref 11, .int q, .int (Int32.ofInt (m9 10 3))]) : z_E)) (zi_add rfl rfl)).trans rfl)).trans (by rw [hm15]))) ?_
    refine zW.step (st1 := (38, [(some (.ref 10)), (some (.int (Int32.ofInt sign))), (some (.int (Int32.ofInt operand)))], [.int (Int32.ofInt 1)], zk c m15)) (st2 := (38, [(some (.ref 10)), (some (.int (Int32.ofInt sign))), (some (.int (Int32.ofInt operand)))], [.int (Int32.ofInt 1)], zk c m15)) ⟨[zo], _, rfl, ⟨trivial, trivial⟩⟩ rfl ?_
    exact zW.fin (zfin_i rfl rfl rfl) ⟨1, m15, rfl, rfl, hIm15, (by omega), (by omega), (by omega), (by omega), tk18⟩

set_option maxRecDepth 100000 in
set_option maxHeartbeats 4000000 in
theorem S_X10_atom_GF (zn : Bool) (d : Nat) {c : Nat × Nat} {mM : zM} (hN : 107 ≤ c.1) (hC : c.1 < z_RO) (a9 : Int) (Lv : Int) (h_sum : Lv ≤ 5 → ∀ (a9 : Int) (m : zM) (hIm : zI c mM m) (ha9 : m 1 2 = a9) (hb9 : 0 ≤ a9 ∧ a9 ≤ mM 1 1), zCi zn (d + 4) 122 [.ref 10, .int (Int32.ofInt (Lv + 1))] c m (fun (r : Int) (m1 : zM) => zI c mM m1 ∧ (0 ≤ r ∧ r ≤ 1) ∧ (r = (zt_sum (mM 2) (mM 1 1) ((6 : Int) - (Lv + 1)).toNat a9).1 ∧ m1 1 2 = (zt_sum (mM 2) (mM 1 1) ((6 : Int) - (Lv + 1)).toNat a9).2) ∧ (a9 ≤ m1 1 2 ∧ m1 1 2 ≤ mM 1 1 ∧ (r = 1 → a9 < m1 1 2)) ∧ (m1 10 2 - m1 1 2 ≤ m 10 2 - m 1 2) ∧ zN m m1)) (m : zM) (hIm : zI c mM m) (hLv : 0 ≤ Lv ∧ Lv ≤ 6) (ha9 : m 1 2 = a9) (hb9 : 0 ≤ a9 ∧ a9 ≤ mM 1 1) : zCi zn (d + 5) 115 [.ref 10, .int (Int32.ofInt Lv)] c m (fun (r : Int) (m1 : zM) => zI c mM m1 ∧ (0 ≤ r ∧ r ≤ 1) ∧ (r = (zt_atom (mM 2) (mM 1 1) (zt_in (mM 2) (mM 1 1) ((6 : Int) - Lv).toNat) a9).1 ∧ m1 1 2 = (zt_atom (mM 2) (mM 1 1) (zt_in (mM 2) (mM 1 1) ((6 : Int) - Lv).toNat) a9).2) ∧ (a9 ≤ m1 1 2 ∧ m1 1 2 ≤ mM 1 1 ∧ (r = 1 → a9 < m1 1 2)) ∧ (m1 10 2 - m1 1 2 ≤ m 10 2 - m 1 2) ∧ zN m m1) := by
  refine zCi.of zu_X10_atom hC (Nat.le_of_ble_eq_true rfl) ?_
  show zW zn (d + 4) 115 c (0, [(some (.ref 10)), (some (.int (Int32.ofInt Lv))), none, none], [], zk c m) (fun v h1 => ∃ (r : Int) (m1 : zM), v = some (.int (Int32.ofInt r)) ∧ h1 = zk c m1 ∧ zI c mM m1 ∧ (0 ≤ r ∧ r ≤ 1) ∧ (r = (zt_atom (mM 2) (mM 1 1) (zt_in (mM 2) (mM 1 1) ((6 : Int) - Lv).toNat) a9).1 ∧ m1 1 2 = (zt_atom (mM 2) (mM 1 1) (zt_in (mM 2) (mM 1 1) ((6 : Int) - Lv).toNat) a9).2) ∧ (a9 ≤ m1 1 2 ∧ m1 1 2 ≤ mM 1 1 ∧ (r = 1 → a9 < m1 1 2)) ∧ (m1 10 2 - m1 1 2 ≤ m 10 2 - m 1 2) ∧ zN m m1)
  have f1 : (0 : Int) ≤ m 1 1 ∧ m 1 1 ≤ 240 := hIm.1 1 1
  have f2 : (0 : Int) ≤ m 1 2 ∧ m 1 2 ≤ 240 := hIm.1 1 2
  have f3 : (0 : Int) ≤ m 10 2 ∧ m 10 2 ≤ 240 := hIm.1 10 2
  have q4 := zn_c hIm
  refine zW.step (st1 := (4, [(some (.ref 10)), (some (.int (Int32.ofInt Lv))), none, none], [.ref 1], zk c m)) (st2 := (4, [(some (.ref 10)), (some (.int (Int32.ofInt Lv))), none, none], [.ref 1], zk c m)) ⟨[zo, zo], _, rfl, ⟨trivial, (Nat.lt_of_lt_of_le (Nat.le_of_ble_eq_true rfl) hN), trivial⟩⟩ rfl ?_
  obtain ⟨r5, m5, hs5, hIm5, z_5, f_5, p_5, b_5, l_5, c3_5, kN_5, kD_5⟩ := S_X8_next_F zn (d + 2) hN hC a9 m hIm (by omega) (by omega)
  refine zW.step (st1 := (7, [(some (.ref 10)), (some (.int (Int32.ofInt Lv))), none, none], [.int (Int32.ofInt r5)], zk c m5)) ⟨[zc (some (.int (Int32.ofInt r5))) (zk c m5)], _, rfl, ⟨⟨⟨(Nat.lt_of_lt_of_le (Nat.le_of_ble_eq_true rfl) hN), (Nat.le_of_ble_eq_true rfl)⟩, hs5, (Nat.le_of_ble_eq_true rfl), Nat.le_refl _, Nat.le_refl _, Nat.le_refl _, Nat.le_refl _⟩, trivial⟩⟩ rfl ?_
  have f6 : (0 : Int) ≤ m5 1 1 ∧ m5 1 1 ≤ 240 := hIm5.1 1 1
  have f7 : m5 1 1 = m 1 1 := kD_5 1 1 (by omega)
  have f8 : (0 : Int) ≤ m5 1 2 ∧ m5 1 2 ≤ 240 := hIm5.1 1 2
  have f9 : (0 : Int) ≤ m5 10 2 ∧ m5 10 2 ≤ 240 := hIm5.1 10 2
  have f10 : m5 10 2 = m 10 2 := kD_5 10 2 (by omega)
  have tk11 : zN m m5 := zN_tr zN_rf kN_5
  by_cases b12 : r5 = 91
  · refine zW.step (st1 := (14, [(some (.ref 10)), (some (.int (Int32.ofInt Lv))), (some (.int (Int32.ofInt r5))), none], [], zk c m5)) (st2 := (14, [(some (.ref 10)), (some (.int (Int32.ofInt Lv))), (some (.int (Int32.ofInt r5))), none], [], zk c m5)) ⟨[zo, zo, zo, zo], _, rfl, ⟨trivial, trivial, trivial, zbf (fun q => q ((zi_eq rfl (by decide : (Int8.ofInt 91).toInt32 = Int32.ofInt 91) (by unfold zR; omega) (⟨by decide, by decide⟩ : zR 91)).mpr b12)), trivial⟩⟩ rfl ?_
    by_cases b13 : Lv = 6
    · refine zW.step (st1 := (20, [(some (.ref 10)), (some (.int (Int32.ofInt Lv))), (some (.int (Int32.ofInt r5))), none], [], zk c m5)) (st2 := (20, [(some (.ref 10)), (some (.int (Int32.ofInt Lv))), (some (.int (Int32.ofInt r5))), none], [], zk c m5)) ⟨[zo, zo, zo], _, rfl, ⟨trivial, trivial, zbf (fun q => q ((zi_eq rfl (by decide : (Int8.ofInt 6).toInt32 = Int32.ofInt 6) (by unfold zR; omega) (⟨by decide, by decide⟩ : zR 6)).mpr b13)), trivial⟩⟩ rfl ?_
      have q14 := zt_atom_d0 (mM 2) (mM 1 1) a9 Lv (by omega) (by omega)
      refine zW.step (st1 := (21, [(some (.ref 10)), (some (.int (Int32.ofInt Lv))), (some (.int (Int32.ofInt r5))), none], [.int (Int32.ofInt 0)], zk c m5)) (st2 := (21, [(some (.ref 10)), (some (.int (Int32.ofInt Lv))), (some (.int (Int32.ofInt r5))), none], [.int (Int32.ofInt 0)], zk c m5)) ⟨[zo], _, rfl, ⟨trivial, trivial⟩⟩ rfl ?_
      exact zW.fin (zfin_i rfl rfl rfl) ⟨0, m5, rfl, rfl, hIm5, (by omega), (by omega), (by omega), (by omega), tk11⟩
    · refine zW.step (st1 := (22, [(some (.ref 10)), (some (.int (Int32.ofInt Lv))), (some (.int (Int32.ofInt r5))), none], [], zk c m5)) (st2 := (22, [(some (.ref 10)), (some (.int (Int32.ofInt Lv))), (some (.int (Int32.ofInt r5))), none], [], zk c m5)) ⟨[zo, zo, zt], _, rfl, ⟨trivial, trivial, zbt (fun q => b13 ((zi_eq rfl (by decide : (Int8.ofInt 6).toInt32 = Int32.ofInt 6) (by unfold zR; omega) (⟨by decide, by decide⟩ : zR 6)).mp q)), trivial⟩⟩ rfl ?_
      have q15 := zt_atom_br (mM 2) (mM 1 1) a9 Lv (by omega) (by omega)
      obtain ⟨m16, hm16⟩ : ∃ q, q = zm_up m5 1 2 ((m5 1 2) + 1) := ⟨_, rfl⟩
      have hIm16 : zI c mM m16 := by rw [hm16]; exact zI_up hIm5 (by unfold zOk; decide) (show (0 : Int) ≤ ((m5 1 2) + 1) ∧ ((m5 1 2) + 1) ≤ 240 by omega)
      have em16 : m16 1 2 = ((m5 1 2) + 1) := by rw [hm16]; exact zm_eq
      have f17 : m16 1 1 = m5 1 1 := by rw [hm16]; exact zm_ne (by omega)
      have f18 : m16 10 2 = m5 10 2 := by rw [hm16]; exact zm_ne (by omega)
      have tk19 : zN m m16 := by rw [hm16]; exact zN_up tk11 (by unfold zRow; omega)
      clear tk11
      refine zW.step (st1 := (35, [(some (.ref 10)), (some (.int (Int32.ofInt Lv))), (some (.int (Int32.ofInt r5))), none], [], z_hup (zk c m5) 1 (.inr (8, [.ref 2, .int (Int32.ofInt (m5 1 1)), .int ((Int32.ofInt (m5 1 2)) + (Int32.ofInt 1)), .int (Int32.ofInt (m5 1 3))])))) (st2 := (35, [(some (.ref 10)), (some (.int (Int32.ofInt Lv))), (some (.int (Int32.ofInt r5))), none], [], zk c m16)) ⟨[zo, zo, zo, zo, zo, zo, zo], _, rfl, ⟨trivial, (Nat.lt_of_lt_of_le (Nat.le_of_ble_eq_true rfl) hN), trivial, (Nat.lt_of_lt_of_le (Nat.le_of_ble_eq_true rfl) hN), trivial, trivial, ⟨(Nat.lt_of_lt_of_le (Nat.le_of_ble_eq_true rfl) hN), rfl, rfl⟩, trivial⟩⟩ (z_steq rfl rfl ((zk_up c m5 1 2 ((m5 1 2) + 1) _ ((congrArg (fun q => (.inr (8, [.ref 2, .int (Int32.ofInt (m5 1 1)), .int q, .int (Int32.ofInt (m5 1 3))]) : z_E)) (zi_add rfl rfl)).trans rfl)).trans (by rw [hm16]))) ?_
      refine zW.step (st1 := (39, [(some (.ref 10)), (some (.int (Int32.ofInt Lv))), (some (.int (Int32.ofInt r5))), none], [.int ((Int32.ofInt Lv) + (Int32.ofInt 1)), .ref 10], zk c m16)) (st2 := (39, [(some (.ref 10)), (some (.int (Int32.ofInt Lv))), (some (.int (Int32.ofInt r5))), none], [.int (Int32.ofInt (Lv + 1)), .ref 10], zk c m16)) ⟨[zo, zo, zo, zo], _, rfl, ⟨trivial, trivial, trivial, trivial, trivial⟩⟩ (z_steq rfl (z_c1 (z_vi (zi_add rfl rfl)) rfl) rfl) ?_
      obtain ⟨r20, m20, hs20, hIm20, z_20, p_20, b_20, p9_20, kN_20⟩ := h_sum (by omega) (((znx (mM 2) (mM 1 1) a9)) + 1) m16 hIm16 (by omega) (by omega)
      refine zW.step (st1 := (42, [(some (.ref 10)), (some (.int (Int32.ofInt Lv))), (some (.int (Int32.ofInt r5))), none], [.int (Int32.ofInt r20)], zk c m20)) ⟨[zc (some (.int (Int32.ofInt r20))) (zk c m20)], _, rfl, ⟨⟨⟨(Nat.lt_of_lt_of_le (Nat.le_of_ble_eq_true rfl) hN), (Nat.le_of_ble_eq_true rfl)⟩, hs20, (Nat.le_of_ble_eq_true rfl), Nat.le_refl _, Nat.le_refl _, Nat.le_refl _, Nat.le_refl _⟩, trivial⟩⟩ rfl ?_
      have f21 : (0 : Int) ≤ m20 1 1 ∧ m20 1 1 ≤ 240 := hIm20.1 1 1
      have f22 : (0 : Int) ≤ m20 1 2 ∧ m20 1 2 ≤ 240 := hIm20.1 1 2
      have f23 : (0 : Int) ≤ m20 10 2 ∧ m20 10 2 ≤ 240 := hIm20.1 10 2
      have tk24 : zN m m20 := zN_tr tk19 kN_20
      by_cases b25 : r20 = 0
      · refine zW.step (st1 := (61, [(some (.ref 10)), (some (.int (Int32.ofInt Lv))), (some (.int (Int32.ofInt r5))), none], [], zk c m20)) (st2 := (61, [(some (.ref 10)), (some (.int (Int32.ofInt Lv))), (some (.int (Int32.ofInt r5))), none], [], zk c m20)) ⟨[zt], _, rfl, ⟨zbt ((zi_eq rfl (rfl : (0 : Int32) = Int32.ofInt 0) (by unfold zR; omega) (⟨by decide, by decide⟩ : zR 0)).mpr b25), trivial⟩⟩ rfl ?_
        refine zW.step (st1 := (62, [(some (.ref 10)), (some (.int (Int32.ofInt Lv))), (some (.int (Int32.ofInt r5))), none], [.int (Int32.ofInt 0)], zk c m20)) (st2 := (62, [(some (.ref 10)), (some (.int (Int32.ofInt Lv))), (some (.int (Int32.ofInt r5))), none], [.int (Int32.ofInt 0)], zk c m20)) ⟨[zo], _, rfl, ⟨trivial, trivial⟩⟩ rfl ?_
        exact zW.fin (zfin_i rfl rfl rfl) ⟨0, m20, rfl, rfl, hIm20, (by omega), (by omega), (by omega), (by omega), tk24⟩
      · refine zW.step (st1 := (45, [(some (.ref 10)), (some (.int (Int32.ofInt Lv))), (some (.int (Int32.ofInt r5))), none], [], zk c m20)) (st2 := (45, [(some (.ref 10)), (some (.int (Int32.ofInt Lv))), (some (.int (Int32.ofInt r5))), none], [], zk c m20)) ⟨[zo], _, rfl, ⟨zbf (fun q => b25 ((zi_eq rfl (rfl : (0 : Int32) = Int32.ofInt 0) (by unfold zR; omega) (⟨by decide, by decide⟩ : zR 0)).mp q)), trivial⟩⟩ rfl ?_
        refine zW.step (st1 := (51, [(some (.ref 10)), (some (.int (Int32.ofInt Lv))), (some (.int (Int32.ofInt r5))), none], [.int ((Int8.ofInt 93).toInt32), .ref 1], zk c m20)) (st2 := (51, [(some (.ref 10)), (some (.int (Int32.ofInt Lv))), (some (.int (Int32.ofInt r5))), none], [.int (Int32.ofInt 93), .ref 1], zk c m20)) ⟨[zo, zo, zo], _, rfl, ⟨trivial, (Nat.lt_of_lt_of_le (Nat.le_of_ble_eq_true rfl) hN), trivial, trivial⟩⟩ (z_steq rfl (z_c1 (z_vi (by decide : (Int8.ofInt 93).toInt32 = Int32.ofInt 93)) rfl) rfl) ?_
        obtain ⟨r26, m26, hs26, hIm26, z_26, p_26, b_26, kN_26, kD_26⟩ := S_X8_takes_F zn (d + 1) hN hC 93 ((zt_sum (mM 2) (mM 1 1) ((6 : Int) - (Lv + 1)).toNat (((znx (mM 2) (mM 1 1) a9)) + 1)).2) m20 hIm20 (by omega) (by omega) (by omega) (by omega)
        refine zW.step (st1 := (54, [(some (.ref 10)), (some (.int (Int32.ofInt Lv))), (some (.int (Int32.ofInt r5))), none], [.int (Int32.ofInt r26)], zk c m26)) ⟨[zc (some (.int (Int32.ofInt r26))) (zk c m26)], _, rfl, ⟨⟨⟨(Nat.lt_of_lt_of_le (Nat.le_of_ble_eq_true rfl) hN), (Nat.le_of_ble_eq_true rfl)⟩, hs26, (Nat.le_of_ble_eq_true rfl), Nat.le_refl _, Nat.le_refl _, Nat.le_refl _, Nat.le_refl _⟩, trivial⟩⟩ rfl ?_
        have f27 : (0 : Int) ≤ m26 1 1 ∧ m26 1 1 ≤ 240 := hIm26.1 1 1
        have f28 : m26 1 1 = m20 1 1 := kD_26 1 1 (by omega)
        have f29 : (0 : Int) ≤ m26 1 2 ∧ m26 1 2 ≤ 240 := hIm26.1 1 2
        have f30 : (0 : Int) ≤ m26 10 2 ∧ m26 10 2 ≤ 240 := hIm26.1 10 2
        have f31 : m26 10 2 = m20 10 2 := kD_26 10 2 (by omega)
        have tk32 : zN m m26 := zN_tr tk24 kN_26
        by_cases b33 : r26 = 0
        · refine zW.step (st1 := (61, [(some (.ref 10)), (some (.int (Int32.ofInt Lv))), (some (.int (Int32.ofInt r5))), none], [], zk c m26)) (st2 := (61, [(some (.ref 10)), (some (.int (Int32.ofInt Lv))), (some (.int (Int32.ofInt r5))), none], [], zk c m26)) ⟨[zt], _, rfl, ⟨zbt ((zi_eq rfl (rfl : (0 : Int32) = Int32.ofInt 0) (by unfold zR; omega) (⟨by decide, by decide⟩ : zR 0)).mpr b33), trivial⟩⟩ rfl ?_
          refine zW.step (st1 := (62, [(some (.ref 10)), (some (.int (Int32.ofInt Lv))), (some (.int (Int32.ofInt r5))), none], [.int (Int32.ofInt 0)], zk c m26)) (st2 := (62, [(some (.ref 10)), (some (.int (Int32.ofInt Lv))), (some (.int (Int32.ofInt r5))), none], [.int (Int32.ofInt 0)], zk c m26)) ⟨[zo], _, rfl, ⟨trivial, trivial⟩⟩ rfl ?_
          exact zW.fin (zfin_i rfl rfl rfl) ⟨0, m26, rfl, rfl, hIm26, (by omega), (by omega), (by omega), (by omega), tk32⟩
        · refine zW.step (st1 := (57, [(some (.ref 10)), (some (.int (Int32.ofInt Lv))), (some (.int (Int32.ofInt r5))), none], [], zk c m26)) (st2 := (57, [(some (.ref 10)), (some (.int (Int32.ofInt Lv))), (some (.int (Int32.ofInt r5))), none], [], zk c m26)) ⟨[zo], _, rfl, ⟨zbf (fun q => b33 ((zi_eq rfl (rfl : (0 : Int32) = Int32.ofInt 0) (by unfold zR; omega) (⟨by decide, by decide⟩ : zR 0)).mp q)), trivial⟩⟩ rfl ?_
          refine zW.step (st1 := (62, [(some (.ref 10)), (some (.int (Int32.ofInt Lv))), (some (.int (Int32.ofInt r5))), none], [.int (Int32.ofInt 1)], zk c m26)) (st2 := (62, [(some (.ref 10)), (some (.int (Int32.ofInt Lv))), (some (.int (Int32.ofInt r5))), none], [.int (Int32.ofInt 1)], zk c m26)) ⟨[zo, zo], _, rfl, ⟨trivial, trivial, trivial⟩⟩ rfl ?_
          exact zW.fin (zfin_i rfl rfl rfl) ⟨1, m26, rfl, rfl, hIm26, (by omega), (by omega), (by omega), (by omega), tk32⟩
  · refine zW.step (st1 := (63, [(some (.ref 10)), (some (.int (Int32.ofInt Lv))), (some (.int (Int32.ofInt r5))), none], [], zk c m5)) (st2 := (63, [(some (.ref 10)), (some (.int (Int32.ofInt Lv))), (some (.int (Int32.ofInt r5))), none], [], zk c m5)) ⟨[zo, zo, zo, zt], _, rfl, ⟨trivial, trivial, trivial, zbt (fun q => b12 ((zi_eq rfl (by decide : (Int8.ofInt 91).toInt32 = Int32.ofInt 91) (by unfold zR; omega) (⟨by decide, by decide⟩ : zR 91)).mp q)), trivial⟩⟩ rfl ?_
    refine zW.step (st1 := (64, [(some (.ref 10)), (some (.int (Int32.ofInt Lv))), (some (.int (Int32.ofInt r5))), none], [.int (Int32.ofInt r5)], zk c m5)) (st2 := (64, [(some (.ref 10)), (some (.int (Int32.ofInt Lv))), (some (.int (Int32.ofInt r5))), none], [.int (Int32.ofInt r5)], zk c m5)) ⟨[zo], _, rfl, ⟨trivial, trivial⟩⟩ rfl ?_
    obtain ⟨r34, hs34, z_34, q_34⟩ := S_X8_isDigit zn (d + 3) hN hC r5 m5 hIm5 (by omega)
    refine zW.step (st1 := (67, [(some (.ref 10)), (some (.int (Int32.ofInt Lv))), (some (.int (Int32.ofInt r5))), none], [.int (Int32.ofInt r34)], zk c m5)) ⟨[zc (some (.int (Int32.ofInt r34))) (zk c m5)], _, rfl, ⟨⟨(Nat.le_of_ble_eq_true rfl), hs34, (Nat.le_of_ble_eq_true rfl), Nat.le_refl _, Nat.le_refl _, Nat.le_refl _, Nat.le_refl _⟩, trivial⟩⟩ rfl ?_
    by_cases b35 : r34 = 0
    · refine zW.step (st1 := (102, [(some (.ref 10)), (some (.int (Int32.ofInt Lv))), (some (.int (Int32.ofInt r5))), none], [], zk c m5)) (st2 := (102, [(some (.ref 10)), (some (.int (Int32.ofInt Lv))), (some (.int (Int32.ofInt r5))), none], [], zk c m5)) ⟨[zt], _, rfl, ⟨zbt ((zi_eq rfl (rfl : (0 : Int32) = Int32.ofInt 0) (by unfold zR; omega) (⟨by decide, by decide⟩ : zR 0)).mpr b35), trivial⟩⟩ rfl ?_
      have q36 := zix_3_b (zpk (mM 2) (mM 1 1) (znx (mM 2) (mM 1 1) a9))
      by_cases b37 : r5 = (-1)
      · refine zW.step (st1 := (107, [(some (.ref 10)), (some (.int (Int32.ofInt Lv))), (some (.int (Int32.ofInt r5))), none], [], zk c m5)) (st2 := (107, [(some (.ref 10)), (some (.int (Int32.ofInt Lv))), (some (.int (Int32.ofInt r5))), none], [], zk c m5)) ⟨[zo, zo, zo], _, rfl, ⟨trivial, trivial, zbf (fun q => q ((zi_eq rfl rfl (by unfold zR; omega) (⟨by decide, by decide⟩ : zR (-1))).mpr b37)), trivial⟩⟩ rfl ?_
        have q38 := trivial
        have b39 : ((-1) : Int) = (-1) := by omega
        refine zW.step (st1 := (124, [(some (.ref 10)), (some (.int (Int32.ofInt Lv))), (some (.int (Int32.ofInt r5))), (some (.int (Int32.ofInt (-1))))], [], zk c m5)) (st2 := (124, [(some (.ref 10)), (some (.int (Int32.ofInt Lv))), (some (.int (Int32.ofInt r5))), (some (.int (Int32.ofInt (-1))))], [], zk c m5)) ⟨[zo, zo, zo, zo, zo, zo], _, rfl, ⟨trivial, trivial, trivial, trivial, trivial, zbf (fun q => q ((zi_eq rfl rfl (⟨by decide, by decide⟩ : zR (-1)) (⟨by decide, by decide⟩ : zR (-1))).mpr b39)), trivial⟩⟩ rfl ?_
        have q40 := zt_atom_no (mM 2) (mM 1 1) a9 (zt_in (mM 2) (mM 1 1) ((6 : Int) - Lv).toNat) (by omega) (by omega) (by omega)
        refine zW.step (st1 := (125, [(some (.ref 10)), (some (.int (Int32.ofInt Lv))), (some (.int (Int32.ofInt r5))), (some (.int (Int32.ofInt (-1))))], [.int (Int32.ofInt 0)], zk c m5)) (st2 := (125, [(some (.ref 10)), (some (.int (Int32.ofInt Lv))), (some (.int (Int32.ofInt r5))), (some (.int (Int32.ofInt (-1))))], [.int (Int32.ofInt 0)], zk c m5)) ⟨[zo], _, rfl, ⟨trivial, trivial⟩⟩ rfl ?_
        exact zW.fin (zfin_i rfl rfl rfl) ⟨0, m5, rfl, rfl, hIm5, (by omega), (by omega), (by omega), (by omega), tk11⟩
      · refine zW.step (st1 := (111, [(some (.ref 10)), (some (.int (Int32.ofInt Lv))), (some (.int (Int32.ofInt r5))), none], [], zk c m5)) (st2 := (111, [(some (.ref 10)), (some (.int (Int32.ofInt Lv))), (some (.int (Int32.ofInt r5))), none], [], zk c m5)) ⟨[zo, zo, zt], _, rfl, ⟨trivial, trivial, zbt (fun q => b37 ((zi_eq rfl rfl (by unfold zR; omega) (⟨by decide, by decide⟩ : zR (-1))).mp q)), trivial⟩⟩ rfl ?_
        refine zW.step (st1 := (115, [(some (.ref 10)), (some (.int (Int32.ofInt Lv))), (some (.int (Int32.ofInt r5))), none], [.int (((Int32.ofInt r5).toUInt32 % 65536).toInt32), .ref (z_RO + 3)], zk c m5)) (st2 := (115, [(some (.ref 10)), (some (.int (Int32.ofInt Lv))), (some (.int (Int32.ofInt r5))), none], [.int (Int32.ofInt (r5 % 65536)), .ref (z_RO + 3)], zk c m5)) ⟨[zo, zo, zo], _, rfl, ⟨trivial, trivial, trivial, trivial⟩⟩ (z_steq rfl (z_c1 (z_vi (zi_i2c rfl)) rfl) rfl) ?_
        obtain ⟨r41, hs41, q_41, f_41⟩ := S_J0_indexOf_0f7a4_3F zn (d + 0) hN hC (r5 % 65536) m5 hIm5 (by omega) (by omega)
        refine zW.step (st1 := (118, [(some (.ref 10)), (some (.int (Int32.ofInt Lv))), (some (.int (Int32.ofInt r5))), none], [.int (Int32.ofInt r41)], zk c m5)) ⟨[zc (some (.int (Int32.ofInt r41))) (zk c m5)], _, rfl, ⟨⟨(Nat.le_of_ble_eq_true rfl), hs41, (Nat.le_of_ble_eq_true rfl), Nat.le_refl _, Nat.le_refl _, Nat.le_refl _, Nat.le_refl _⟩, trivial⟩⟩ rfl ?_
        have q42 := congrArg (zix zLs3 0) (show r5 % 65536 = zpk (mM 2) (mM 1 1) (znx (mM 2) (mM 1 1) a9) by omega)
        by_cases b43 : r41 = (-1)
        · refine zW.step (st1 := (124, [(some (.ref 10)), (some (.int (Int32.ofInt Lv))), (some (.int (Int32.ofInt r5))), (some (.int (Int32.ofInt r41)))], [], zk c m5)) (st2 := (124, [(some (.ref 10)), (some (.int (Int32.ofInt Lv))), (some (.int (Int32.ofInt r5))), (some (.int (Int32.ofInt r41)))], [], zk c m5)) ⟨[zo, zo, zo, zo], _, rfl, ⟨trivial, trivial, trivial, zbf (fun q => q ((zi_eq rfl rfl (by unfold zR; omega) (⟨by decide, by decide⟩ : zR (-1))).mpr b43)), trivial⟩⟩ rfl ?_
          have q44 := zt_atom_no (mM 2) (mM 1 1) a9 (zt_in (mM 2) (mM 1 1) ((6 : Int) - Lv).toNat) (by omega) (by omega) (by omega)
          refine zW.step (st1 := (125, [(some (.ref 10)), (some (.int (Int32.ofInt Lv))), (some (.int (Int32.ofInt r5))), (some (.int (Int32.ofInt r41)))], [.int (Int32.ofInt 0)], zk c m5)) (st2 := (125, [(some (.ref 10)), (some (.int (Int32.ofInt Lv))), (some (.int (Int32.ofInt r5))), (some (.int (Int32.ofInt r41)))], [.int (Int32.ofInt 0)], zk c m5)) ⟨[zo], _, rfl, ⟨trivial, trivial⟩⟩ rfl ?_
          exact zW.fin (zfin_i rfl rfl rfl) ⟨0, m5, rfl, rfl, hIm5, (by omega), (by omega), (by omega), (by omega), tk11⟩
        · refine zW.step (st1 := (126, [(some (.ref 10)), (some (.int (Int32.ofInt Lv))), (some (.int (Int32.ofInt r5))), (some (.int (Int32.ofInt r41)))], [], zk c m5)) (st2 := (126, [(some (.ref 10)), (some (.int (Int32.ofInt Lv))), (some (.int (Int32.ofInt r5))), (some (.int (Int32.ofInt r41)))], [], zk c m5)) ⟨[zo, zo, zo, zt], _, rfl, ⟨trivial, trivial, trivial, zbt (fun q => b43 ((zi_eq rfl rfl (by unfold zR; omega) (⟨by decide, by decide⟩ : zR (-1))).mp q)), trivial⟩⟩ rfl ?_
          have q45 := zt_atom_le (mM 2) (mM 1 1) a9 (zt_in (mM 2) (mM 1 1) ((6 : Int) - Lv).toNat) (by omega) (by omega) (by omega)
          obtain ⟨m46, hm46⟩ : ∃ q, q = zm_up m5 1 2 ((m5 1 2) + 1) := ⟨_, rfl⟩
          have hIm46 : zI c mM m46 := by rw [hm46]; exact zI_up hIm5 (by unfold zOk; decide) (show (0 : Int) ≤ ((m5 1 2) + 1) ∧ ((m5 1 2) + 1) ≤ 240 by omega)
          have em46 : m46 1 2 = ((m5 1 2) + 1) := by rw [hm46]; exact zm_eq
          have f47 : m46 1 1 = m5 1 1 := by rw [hm46]; exact zm_ne (by omega)
          have f48 : m46 10 2 = m5 10 2 := by rw [hm46]; exact zm_ne (by omega)
          have tk49 : zN m m46 := by rw [hm46]; exact zN_up tk11 (by unfold zRow; omega)
          clear tk11
          refine zW.step (st1 := (139, [(some (.ref 10)), (some (.int (Int32.ofInt Lv))), (some (.int (Int32.ofInt r5))), (some (.int (Int32.ofInt r41)))], [], z_hup (zk c m5) 1 (.inr (8, [.ref 2, .int (Int32.ofInt (m5 1 1)), .int ((Int32.ofInt (m5 1 2)) + (Int32.ofInt 1)), .int (Int32.ofInt (m5 1 3))])))) (st2 := (139, [(some (.ref 10)), (some (.int (Int32.ofInt Lv))), (some (.int (Int32.ofInt r5))), (some (.int (Int32.ofInt r41)))], [], zk c m46)) ⟨[zo, zo, zo, zo, zo, zo, zo], _, rfl, ⟨trivial, (Nat.lt_of_lt_of_le (Nat.le_of_ble_eq_true rfl) hN), trivial, (Nat.lt_of_lt_of_le (Nat.le_of_ble_eq_true rfl) hN), trivial, trivial, ⟨(Nat.lt_of_lt_of_le (Nat.le_of_ble_eq_true rfl) hN), rfl, rfl⟩, trivial⟩⟩ (z_steq rfl rfl ((zk_up c m5 1 2 ((m5 1 2) + 1) _ ((congrArg (fun q => (.inr (8, [.ref 2, .int (Int32.ofInt (m5 1 1)), .int q, .int (Int32.ofInt (m5 1 3))]) : z_E)) (zi_add rfl rfl)).trans rfl)).trans (by rw [hm46]))) ?_
          have f50 : (0 : Int) ≤ m46 10 3 ∧ m46 10 3 ≤ 1 := hIm46.1 10 3
          by_cases b51 : r5 = 112
          · refine zW.step (st1 := (150, [(some (.ref 10)), (some (.int (Int32.ofInt Lv))), (some (.int (Int32.ofInt r5))), (some (.int (Int32.ofInt r41)))], [.int (Int32.ofInt (m46 10 3)), .ref 10], zk c m46)) (st2 := (150, [(some (.ref 10)), (some (.int (Int32.ofInt Lv))), (some (.int (Int32.ofInt r5))), (some (.int (Int32.ofInt r41)))], [.int (Int32.ofInt (m46 10 3)), .ref 10], zk c m46)) ⟨[zo, zo, zo, zo, zo, zo], _, rfl, ⟨trivial, trivial, (Nat.lt_of_lt_of_le (Nat.le_of_ble_eq_true rfl) hN), trivial, trivial, zbf (fun q => q ((zi_eq rfl (by decide : (Int8.ofInt 112).toInt32 = Int32.ofInt 112) (by unfold zR; omega) (⟨by decide, by decide⟩ : zR 112)).mpr b51)), trivial⟩⟩ rfl ?_
            have f52 : (0 : Int) ≤ m46 1 1 ∧ m46 1 1 ≤ 240 := hIm46.1 1 1
            have f53 : (0 : Int) ≤ m46 1 2 ∧ m46 1 2 ≤ 240 := hIm46.1 1 2
            have f54 : (0 : Int) ≤ m46 10 2 ∧ m46 10 2 ≤ 240 := hIm46.1 10 2
            have f55 : (-2147483648 : Int) ≤ zb_or (m46 10 3) 1 ∧ zb_or (m46 10 3) 1 ≤ 2147483647 := zb_orR (m46 10 3) 1
            have f56 := zb_or_f (m46 10 3) 1
            have f57 := zb_or_b (m46 10 3) 1
            obtain ⟨m58, hm58⟩ : ∃ q, q = zm_up m46 10 3 (zb_or (m46 10 3) 1) := ⟨_, rfl⟩
            have hIm58 : zI c mM m58 := by rw [hm58]; exact zI_up hIm46 (zOk_p (by decide)) (show (0 : Int) ≤ (zb_or (m46 10 3) 1) ∧ (zb_or (m46 10 3) 1) ≤ 1 by omega)
            have em58 : m58 10 3 = (zb_or (m46 10 3) 1) := by rw [hm58]; exact zm_eq
            have f59 : m58 1 1 = m46 1 1 := by rw [hm58]; exact zm_ne (by omega)
            have f60 : m58 10 2 = m46 10 2 := by rw [hm58]; exact zm_ne (by omega)
            have f61 : m58 1 2 = m46 1 2 := by rw [hm58]; exact zm_ne (by omega)
            have tk62 : zN m m58 := by rw [hm58]; exact zN_up tk49 (by unfold zRow; omega)
            clear tk49
            refine zW.step (st1 := (159, [(some (.ref 10)), (some (.int (Int32.ofInt Lv))), (some (.int (Int32.ofInt r5))), (some (.int (Int32.ofInt r41)))], [], z_hup (zk c m46) 10 (.inr (10, [.ref 1, .ref 11, .int (Int32.ofInt (m46 10 2)), .int ((Int32.ofInt (m46 10 3)) ||| (Int32.ofInt 1))])))) (st2 := (159, [(some (.ref 10)), (some (.int (Int32.ofInt Lv))), (some (.int (Int32.ofInt r5))), (some (.int (Int32.ofInt r41)))], [], zk c m58)) ⟨[zo, zo, zo, zo], _, rfl, ⟨trivial, trivial, trivial, ⟨(Nat.lt_of_lt_of_le (Nat.le_of_ble_eq_true rfl) hN), (z_narZ (zi_or rfl rfl) (by omega)), (z_fitZ (zi_or rfl rfl) (by omega))⟩, trivial⟩⟩ (z_steq rfl rfl ((zk_up c m46 10 3 (zb_or (m46 10 3) 1) _ ((congrArg (fun q => (.inr (10, [.ref 1, .ref 11, .int (Int32.ofInt (m46 10 2)), .int q]) : z_E)) (zi_or rfl rfl)).trans rfl)).trans (by rw [hm58]))) ?_
            clear f50 f55 f56 f57
            refine zW.step (st1 := (162, [(some (.ref 10)), (some (.int (Int32.ofInt Lv))), (some (.int (Int32.ofInt r5))), (some (.int (Int32.ofInt r41)))], [.int (Int32.ofInt r41), .int (Int32.ofInt 1), .ref 10], zk c m58)) (st2 := (162, [(some (.ref 10)), (some (.int (Int32.ofInt Lv))), (some (.int (Int32.ofInt r5))), (some (.int (Int32.ofInt r41)))], [.int (Int32.ofInt r41), .int (Int32.ofInt 1), .ref 10], zk c m58)) ⟨[zo, zo, zo], _, rfl, ⟨trivial, trivial, trivial, trivial⟩⟩ rfl ?_
            obtain ⟨r63, m63, hs63, hIm63, z_63, p9_63, e_63, p_63, kN_63⟩ := S_X10_emit_F zn (d + 3) hN hC 1 r41 (((znx (mM 2) (mM 1 1) a9)) + 1) m58 hIm58 (by omega) (by omega) (by omega) (by omega) (by omega)
            refine zW.step (st1 := (165, [(some (.ref 10)), (some (.int (Int32.ofInt Lv))), (some (.int (Int32.ofInt r5))), (some (.int (Int32.ofInt r41)))], [.int (Int32.ofInt r63)], zk c m63)) ⟨[zc (some (.int (Int32.ofInt r63))) (zk c m63)], _, rfl, ⟨⟨⟨(Nat.lt_of_lt_of_le (Nat.le_of_ble_eq_true rfl) hN), (Nat.le_of_ble_eq_true rfl)⟩, hs63, (Nat.le_of_ble_eq_true rfl), Nat.le_refl _, Nat.le_refl _, Nat.le_refl _, Nat.le_refl _⟩, trivial⟩⟩ rfl ?_
            have f64 : (0 : Int) ≤ m63 1 1 ∧ m63 1 1 ≤ 240 := hIm63.1 1 1
            have f65 : (0 : Int) ≤ m63 1 2 ∧ m63 1 2 ≤ 240 := hIm63.1 1 2
            have f66 : (0 : Int) ≤ m63 10 2 ∧ m63 10 2 ≤ 240 := hIm63.1 10 2
            have tk67 : zN m m63 := zN_tr tk62 kN_63
            exact zW.fin (zfin_i rfl rfl (z_narZ rfl (by omega))) ⟨r63, m63, rfl, rfl, hIm63, (by omega), (by omega), (by omega), (by omega), tk67⟩
          · refine zW.step (st1 := (154, [(some (.ref 10)), (some (.int (Int32.ofInt Lv))), (some (.int (Int32.ofInt r5))), (some (.int (Int32.ofInt r41)))], [.int (Int32.ofInt (m46 10 3)), .ref 10], zk c m46)) (st2 := (154, [(some (.ref 10)), (some (.int (Int32.ofInt Lv))), (some (.int (Int32.ofInt r5))), (some (.int (Int32.ofInt r41)))], [.int (Int32.ofInt (m46 10 3)), .ref 10], zk c m46)) ⟨[zo, zo, zo, zo, zo, zt], _, rfl, ⟨trivial, trivial, (Nat.lt_of_lt_of_le (Nat.le_of_ble_eq_true rfl) hN), trivial, trivial, zbt (fun q => b51 ((zi_eq rfl (by decide : (Int8.ofInt 112).toInt32 = Int32.ofInt 112) (by unfold zR; omega) (⟨by decide, by decide⟩ : zR 112)).mp q)), trivial⟩⟩ rfl ?_
            have f68 : (0 : Int) ≤ m46 1 1 ∧ m46 1 1 ≤ 240 := hIm46.1 1 1
            have f69 : (0 : Int) ≤ m46 1 2 ∧ m46 1 2 ≤ 240 := hIm46.1 1 2
            have f70 : (0 : Int) ≤ m46 10 2 ∧ m46 10 2 ≤ 240 := hIm46.1 10 2
            have f71 : (-2147483648 : Int) ≤ zb_or (m46 10 3) 0 ∧ zb_or (m46 10 3) 0 ≤ 2147483647 := zb_orR (m46 10 3) 0
            have f72 := zb_or_f (m46 10 3) 0
            have f73 := zb_or_b (m46 10 3) 0
            obtain ⟨m74, hm74⟩ : ∃ q, q = zm_up m46 10 3 (zb_or (m46 10 3) 0) := ⟨_, rfl⟩
            have hIm74 : zI c mM m74 := by rw [hm74]; exact zI_up hIm46 (zOk_p (by decide)) (show (0 : Int) ≤ (zb_or (m46 10 3) 0) ∧ (zb_or (m46 10 3) 0) ≤ 1 by omega)
            have em74 : m74 10 3 = (zb_or (m46 10 3) 0) := by rw [hm74]; exact zm_eq
            have f75 : m74 1 1 = m46 1 1 := by rw [hm74]; exact zm_ne (by omega)
            have f76 : m74 10 2 = m46 10 2 := by rw [hm74]; exact zm_ne (by omega)
            have f77 : m74 1 2 = m46 1 2 := by rw [hm74]; exact zm_ne (by omega)
            have tk78 : zN m m74 := by rw [hm74]; exact zN_up tk49 (by unfold zRow; omega)
            clear tk49
            refine zW.step (st1 := (159, [(some (.ref 10)), (some (.int (Int32.ofInt Lv))), (some (.int (Int32.ofInt r5))), (some (.int (Int32.ofInt r41)))], [], z_hup (zk c m46) 10 (.inr (10, [.ref 1, .ref 11, .int (Int32.ofInt (m46 10 2)), .int ((Int32.ofInt (m46 10 3)) ||| (Int32.ofInt 0))])))) (st2 := (159, [(some (.ref 10)), (some (.int (Int32.ofInt Lv))), (some (.int (Int32.ofInt r5))), (some (.int (Int32.ofInt r41)))], [], zk c m74)) ⟨[zo, zo, zo], _, rfl, ⟨trivial, trivial, ⟨(Nat.lt_of_lt_of_le (Nat.le_of_ble_eq_true rfl) hN), (z_narZ (zi_or rfl rfl) (by omega)), (z_fitZ (zi_or rfl rfl) (by omega))⟩, trivial⟩⟩ (z_steq rfl rfl ((zk_up c m46 10 3 (zb_or (m46 10 3) 0) _ ((congrArg (fun q => (.inr (10, [.ref 1, .ref 11, .int (Int32.ofInt (m46 10 2)), .int q]) : z_E)) (zi_or rfl rfl)).trans rfl)).trans (by rw [hm74]))) ?_
            clear f50 f71 f72 f73
            refine zW.step (st1 := (162, [(some (.ref 10)), (some (.int (Int32.ofInt Lv))), (some (.int (Int32.ofInt r5))), (some (.int (Int32.ofInt r41)))], [.int (Int32.ofInt r41), .int (Int32.ofInt 1), .ref 10], zk c m74)) (st2 := (162, [(some (.ref 10)), (some (.int (Int32.ofInt Lv))), (some (.int (Int32.ofInt r5))), (some (.int (Int32.ofInt r41)))], [.int (Int32.ofInt r41), .int (Int32.ofInt 1), .ref 10], zk c m74)) ⟨[zo, zo, zo], _, rfl, ⟨trivial, trivial, trivial, trivial⟩⟩ rfl ?_
            obtain ⟨r79, m79, hs79, hIm79, z_79, p9_79, e_79, p_79, kN_79⟩ := S_X10_emit_F zn (d + 3) hN hC 1 r41 (((znx (mM 2) (mM 1 1) a9)) + 1) m74 hIm74 (by omega) (by omega) (by omega) (by omega) (by omega)
            refine zW.step (st1 := (165, [(some (.ref 10)), (some (.int (Int32.ofInt Lv))), (some (.int (Int32.ofInt r5))), (some (.int (Int32.ofInt r41)))], [.int (Int32.ofInt r79)], zk c m79)) ⟨[zc (some (.int (Int32.ofInt r79))) (zk c m79)], _, rfl, ⟨⟨⟨(Nat.lt_of_lt_of_le (Nat.le_of_ble_eq_true rfl) hN), (Nat.le_of_ble_eq_true rfl)⟩, hs79, (Nat.le_of_ble_eq_true rfl), Nat.le_refl _, Nat.le_refl _, Nat.le_refl _, Nat.le_refl _⟩, trivial⟩⟩ rfl ?_
            have f80 : (0 : Int) ≤ m79 1 1 ∧ m79 1 1 ≤ 240 := hIm79.1 1 1
            have f81 : (0 : Int) ≤ m79 1 2 ∧ m79 1 2 ≤ 240 := hIm79.1 1 2
            have f82 : (0 : Int) ≤ m79 10 2 ∧ m79 10 2 ≤ 240 := hIm79.1 10 2
            have tk83 : zN m m79 := zN_tr tk78 kN_79
            exact zW.fin (zfin_i rfl rfl (z_narZ rfl (by omega))) ⟨r79, m79, rfl, rfl, hIm79, (by omega), (by omega), (by omega), (by omega), tk83⟩
    · refine zW.step (st1 := (70, [(some (.ref 10)), (some (.int (Int32.ofInt Lv))), (some (.int (Int32.ofInt r5))), none], [], zk c m5)) (st2 := (70, [(some (.ref 10)), (some (.int (Int32.ofInt Lv))), (some (.int (Int32.ofInt r5))), none], [], zk c m5)) ⟨[zo], _, rfl, ⟨zbf (fun q => b35 ((zi_eq rfl (rfl : (0 : Int32) = Int32.ofInt 0) (by unfold zR; omega) (⟨by decide, by decide⟩ : zR 0)).mp q)), trivial⟩⟩ rfl ?_
      have q84 := zt_atom_dg (mM 2) (mM 1 1) a9 (zt_in (mM 2) (mM 1 1) ((6 : Int) - Lv).toNat) (by omega)
      have q85 := znx_i (b := mM 2) (n := mM 1 1) (a := a9) (by omega) (by omega)
      refine zW.step (st1 := (75, [(some (.ref 10)), (some (.int (Int32.ofInt Lv))), (some (.int (Int32.ofInt r5))), none], [.int (Int32.ofInt 4), .ref 1], zk c m5)) (st2 := (75, [(some (.ref 10)), (some (.int (Int32.ofInt Lv))), (some (.int (Int32.ofInt r5))), none], [.int (Int32.ofInt 4), .ref 1], zk c m5)) ⟨[zo, zo, zo], _, rfl, ⟨trivial, (Nat.lt_of_lt_of_le (Nat.le_of_ble_eq_true rfl) hN), trivial, trivial⟩⟩ rfl ?_
      obtain ⟨r86, m86, hs86, hIm86, z_86, p_86, b_86, nn_86, kN_86, kD_86⟩ := S_X8_takesNumber_4F zn (d + 1) hN hC (znx (mM 2) (mM 1 1) a9) m5 hIm5 (by omega) (by omega) (by omega) (by omega)
      refine zW.step (st1 := (78, [(some (.ref 10)), (some (.int (Int32.ofInt Lv))), (some (.int (Int32.ofInt r5))), none], [.int (Int32.ofInt r86)], zk c m86)) ⟨[zc (some (.int (Int32.ofInt r86))) (zk c m86)], _, rfl, ⟨⟨⟨(Nat.lt_of_lt_of_le (Nat.le_of_ble_eq_true rfl) hN), (Nat.le_of_ble_eq_true rfl)⟩, hs86, (Nat.le_of_ble_eq_true rfl), Nat.le_refl _, Nat.le_refl _, Nat.le_refl _, Nat.le_refl _⟩, trivial⟩⟩ rfl ?_
      have f87 : (0 : Int) ≤ m86 1 1 ∧ m86 1 1 ≤ 240 := hIm86.1 1 1
      have f88 : m86 1 1 = m5 1 1 := kD_86 1 1 (by omega)
      have f89 : (0 : Int) ≤ m86 1 2 ∧ m86 1 2 ≤ 240 := hIm86.1 1 2
      have f90 : (0 : Int) ≤ m86 10 2 ∧ m86 10 2 ≤ 240 := hIm86.1 10 2
      have f91 : m86 10 2 = m5 10 2 := kD_86 10 2 (by omega)
      have tk92 : zN m m86 := zN_tr tk11 kN_86
      by_cases b93 : r86 = 0
      · refine zW.step (st1 := (100, [(some (.ref 10)), (some (.int (Int32.ofInt Lv))), (some (.int (Int32.ofInt r5))), none], [], zk c m86)) (st2 := (100, [(some (.ref 10)), (some (.int (Int32.ofInt Lv))), (some (.int (Int32.ofInt r5))), none], [], zk c m86)) ⟨[zt], _, rfl, ⟨zbt ((zi_eq rfl (rfl : (0 : Int32) = Int32.ofInt 0) (by unfold zR; omega) (⟨by decide, by decide⟩ : zR 0)).mpr b93), trivial⟩⟩ rfl ?_
        refine zW.step (st1 := (101, [(some (.ref 10)), (some (.int (Int32.ofInt Lv))), (some (.int (Int32.ofInt r5))), none], [.int (Int32.ofInt 0)], zk c m86)) (st2 := (101, [(some (.ref 10)), (some (.int (Int32.ofInt Lv))), (some (.int (Int32.ofInt r5))), none], [.int (Int32.ofInt 0)], zk c m86)) ⟨[zo], _, rfl, ⟨trivial, trivial⟩⟩ rfl ?_
        exact zW.fin (zfin_i rfl rfl rfl) ⟨0, m86, rfl, rfl, hIm86, (by omega), (by omega), (by omega), (by omega), tk92⟩
      · refine zW.step (st1 := (81, [(some (.ref 10)), (some (.int (Int32.ofInt Lv))), (some (.int (Int32.ofInt r5))), none], [], zk c m86)) (st2 := (81, [(some (.ref 10)), (some (.int (Int32.ofInt Lv))), (some (.int (Int32.ofInt r5))), none], [], zk c m86)) ⟨[zo], _, rfl, ⟨zbf (fun q => b93 ((zi_eq rfl (rfl : (0 : Int32) = Int32.ofInt 0) (by unfold zR; omega) (⟨by decide, by decide⟩ : zR 0)).mp q)), trivial⟩⟩ rfl ?_
        have f94 : (-2147483648 : Int) ≤ m86 1 3 ∧ m86 1 3 ≤ 2147483647 := hIm86.1 1 3
        refine zW.step (st1 := (90, [(some (.ref 10)), (some (.int (Int32.ofInt Lv))), (some (.int (Int32.ofInt r5))), none], [.int (Int32.ofInt (m86 1 3)), .int (Int32.ofInt 0), .ref 10], zk c m86)) (st2 := (90, [(some (.ref 10)), (some (.int (Int32.ofInt Lv))), (some (.int (Int32.ofInt r5))), none], [.int (Int32.ofInt (m86 1 3)), .int (Int32.ofInt 0), .ref 10], zk c m86)) ⟨[zo, zo, zo, zo, zo], _, rfl, ⟨trivial, trivial, trivial, (Nat.lt_of_lt_of_le (Nat.le_of_ble_eq_true rfl) hN), (Nat.lt_of_lt_of_le (Nat.le_of_ble_eq_true rfl) hN), trivial⟩⟩ rfl ?_
        obtain ⟨r95, m95, hs95, hIm95, z_95, p9_95, e_95, p_95, kN_95⟩ := S_X10_emit_F zn (d + 3) hN hC 0 (m86 1 3) ((zn4 (mM 2) (mM 1 1) 4 (znx (mM 2) (mM 1 1) a9)).2) m86 hIm86 (by omega) (by omega) (by omega) (by omega) (by omega)
        refine zW.step (st1 := (93, [(some (.ref 10)), (some (.int (Int32.ofInt Lv))), (some (.int (Int32.ofInt r5))), none], [.int (Int32.ofInt r95)], zk c m95)) ⟨[zc (some (.int (Int32.ofInt r95))) (zk c m95)], _, rfl, ⟨⟨⟨(Nat.lt_of_lt_of_le (Nat.le_of_ble_eq_true rfl) hN), (Nat.le_of_ble_eq_true rfl)⟩, hs95, (Nat.le_of_ble_eq_true rfl), Nat.le_refl _, Nat.le_refl _, Nat.le_refl _, Nat.le_refl _⟩, trivial⟩⟩ rfl ?_
        have f96 : (0 : Int) ≤ m95 1 1 ∧ m95 1 1 ≤ 240 := hIm95.1 1 1
        have f97 : (0 : Int) ≤ m95 1 2 ∧ m95 1 2 ≤ 240 := hIm95.1 1 2
        have f98 : (0 : Int) ≤ m95 10 2 ∧ m95 10 2 ≤ 240 := hIm95.1 10 2
        have tk99 : zN m m95 := zN_tr tk92 kN_95
        by_cases b100 : r95 = 0
        · refine zW.step (st1 := (100, [(some (.ref 10)), (some (.int (Int32.ofInt Lv))), (some (.int (Int32.ofInt r5))), none], [], zk c m95)) (st2 := (100, [(some (.ref 10)), (some (.int (Int32.ofInt Lv))), (some (.int (Int32.ofInt r5))), none], [], zk c m95)) ⟨[zt], _, rfl, ⟨zbt ((zi_eq rfl (rfl : (0 : Int32) = Int32.ofInt 0) (by unfold zR; omega) (⟨by decide, by decide⟩ : zR 0)).mpr b100), trivial⟩⟩ rfl ?_
          refine zW.step (st1 := (101, [(some (.ref 10)), (some (.int (Int32.ofInt Lv))), (some (.int (Int32.ofInt r5))), none], [.int (Int32.ofInt 0)], zk c m95)) (st2 := (101, [(some (.ref 10)), (some (.int (Int32.ofInt Lv))), (some (.int (Int32.ofInt r5))), none], [.int (Int32.ofInt 0)], zk c m95)) ⟨[zo], _, rfl, ⟨trivial, trivial⟩⟩ rfl ?_
          exact zW.fin (zfin_i rfl rfl rfl) ⟨0, m95, rfl, rfl, hIm95, (by omega), (by omega), (by omega), (by omega), tk99⟩
        · refine zW.step (st1 := (96, [(some (.ref 10)), (some (.int (Int32.ofInt Lv))), (some (.int (Int32.ofInt r5))), none], [], zk c m95)) (st2 := (96, [(some (.ref 10)), (some (.int (Int32.ofInt Lv))), (some (.int (Int32.ofInt r5))), none], [], zk c m95)) ⟨[zo], _, rfl, ⟨zbf (fun q => b100 ((zi_eq rfl (rfl : (0 : Int32) = Int32.ofInt 0) (by unfold zR; omega) (⟨by decide, by decide⟩ : zR 0)).mp q)), trivial⟩⟩ rfl ?_
          refine zW.step (st1 := (101, [(some (.ref 10)), (some (.int (Int32.ofInt Lv))), (some (.int (Int32.ofInt r5))), none], [.int (Int32.ofInt 1)], zk c m95)) (st2 := (101, [(some (.ref 10)), (some (.int (Int32.ofInt Lv))), (some (.int (Int32.ofInt r5))), none], [.int (Int32.ofInt 1)], zk c m95)) ⟨[zo, zo], _, rfl, ⟨trivial, trivial, trivial⟩⟩ rfl ?_
          exact zW.fin (zfin_i rfl rfl rfl) ⟨1, m95, rfl, rfl, hIm95, (by omega), (by omega), (by omega), (by omega), tk99⟩

