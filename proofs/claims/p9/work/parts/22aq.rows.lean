/-! what methods do over memory, by program (wip/tools/gw): X4_oneClock, X4_clause, X4_read, X10_emit, X10_condition_G, X10_truths_G -/
set_option maxRecDepth 100000 in
set_option maxHeartbeats 4000000 in
theorem L_X4_oneClock_44 (zn : Bool) (d : Nat) {c : Nat × Nat} {mM : zM} (hN : 107 ≤ c.1) (hC : c.1 < z_RO) (x1 : Int) (m0 : zM) (Q : Option Value → z_H → Prop) (K : ∀ (x2 : Int) (m : zM), zI c mM m → 0 ≤ x2 ∧ x2 ≤ 7 → 0 ≤ x1 ∧ x1 ≤ 5 → zN m0 m → m 8 185 = m0 8 185 → zW zn (d + 5) 77 c (76, [(some (.ref 3)), (some (.int (Int32.ofInt x1))), (some (.int (Int32.ofInt x2)))], [], zk c m) Q) :
    ∀ (w : Nat) (x2 : Int) (m : zM), zI c mM m → 0 ≤ x2 ∧ x2 ≤ 7 → 0 ≤ x1 ∧ x1 ≤ 5 → zN m0 m → m 8 185 = m0 8 185 → w = (7 - x2).toNat → zW zn (d + 5) 77 c (44, [(some (.ref 3)), (some (.int (Int32.ofInt x1))), (some (.int (Int32.ofInt x2)))], [], zk c m) Q := by
  intro w
  induction w using Nat.strongRecOn with | _ w ih => ?_
  intro x2 m hIm i1 i2 tN tCn hw
  have f1 : (0 : Int) ≤ m 8 185 ∧ m 8 185 ≤ 10 := zr_c hIm zS_8
  by_cases b2 : 7 ≤ x2
  · refine zW.step (st1 := (76, [(some (.ref 3)), (some (.int (Int32.ofInt x1))), (some (.int (Int32.ofInt x2)))], [], zk c m)) (st2 := (76, [(some (.ref 3)), (some (.int (Int32.ofInt x1))), (some (.int (Int32.ofInt x2)))], [], zk c m)) ⟨[zo, zo, zo, zt], _, rfl, ⟨trivial, trivial, trivial, zbt ((zi_le (by decide : Int32.ofNat 7 = Int32.ofInt 7) rfl (⟨by decide, by decide⟩ : zR 7) (by unfold zR; omega)).mpr b2), trivial⟩⟩ rfl ?_
    exact K x2 m hIm (by omega) (by omega) tN tCn
  · refine zW.step (st1 := (52, [(some (.ref 3)), (some (.int (Int32.ofInt x1))), (some (.int (Int32.ofInt x2)))], [], zk c m)) (st2 := (52, [(some (.ref 3)), (some (.int (Int32.ofInt x1))), (some (.int (Int32.ofInt x2)))], [], zk c m)) ⟨[zo, zo, zo, zo], _, rfl, ⟨trivial, trivial, trivial, zbf (fun q => b2 ((zi_le (by decide : Int32.ofNat 7 = Int32.ofInt 7) rfl (⟨by decide, by decide⟩ : zR 7) (by unfold zR; omega)).mp q)), trivial⟩⟩ rfl ?_
    have f3 := zst9_b 5 x2.toNat (by decide) (by omega)
    have f4 : (-2147483648 : Int) ≤ m 9 x2.toNat ∧ m 9 x2.toNat ≤ 2147483647 := hIm.1 9 x2.toNat
    obtain ⟨m5, hm5⟩ : ∃ q, q = zm_up m 8 (((zst9 5 x2.toNat) + x1).toNat) (m 9 x2.toNat) := ⟨_, rfl⟩
    have hIm5 : zI c mM m5 := by rw [hm5]; exact zI_up hIm (zOk_p (by decide)) (zrw_i zS_8 (by omega) (show (-2147483648 : Int) ≤ (m 9 x2.toNat) ∧ (m 9 x2.toNat) ≤ 2147483647 by omega))
    have em5 : m5 8 (((zst9 5 x2.toNat) + x1).toNat) = (m 9 x2.toNat) := by rw [hm5]; exact zm_eq
    have tk6 : zN m0 m5 := by rw [hm5]; exact zN_up tN (by unfold zRow; omega)
    have tk7 : m5 8 185 = m0 8 185 := by rw [hm5, zm_ne (by omega)]; exact tCn
    refine zW.step (st1 := (70, [(some (.ref 3)), (some (.int (Int32.ofInt x1))), (some (.int (Int32.ofInt x2)))], [], z_hup (zk c m) 8 (.inl (0, 188, .inl (upd (fun j => Int32.ofInt (m 8 j)) (((z_sta.getD 5 []).getD (Int32.ofInt x2).toNatClampNeg 0) + (Int32.ofInt x1)).toNatClampNeg (Int32.ofInt (m 9 (Int32.ofInt x2).toNatClampNeg))))))) (st2 := (70, [(some (.ref 3)), (some (.int (Int32.ofInt x1))), (some (.int (Int32.ofInt x2)))], [], zk c m5)) ⟨[zo, zo, zo, zo, zo, zo, zo, zo, zo, zo, (false, 0, none, zh0, some (.inl (0, 7, .inl (fun j => Int32.ofInt (m 9 j))))), (false, 0, none, zh0, some (.inl (0, 188, .inl (fun j => Int32.ofInt (m 8 j)))))], _, rfl, ⟨trivial, (Nat.lt_of_lt_of_le (Nat.le_of_ble_eq_true rfl) hN), trivial, trivial, (zi_in rfl (by omega) (by omega) (by decide) : vp_in (Int32.ofInt x2) 7), trivial, trivial, trivial, (Nat.lt_of_lt_of_le (Nat.le_of_ble_eq_true rfl) hN), trivial, ⟨zk_ra c m zA_9 (Nat.lt_of_lt_of_le (Nat.le_of_ble_eq_true rfl) hN), zi_in rfl (by omega) (by omega) (by omega)⟩, ⟨zk_ra c m zA_8 (Nat.lt_of_lt_of_le (Nat.le_of_ble_eq_true rfl) hN), zi_in (zi_add (zst9_rd 5 rfl (by unfold zR; omega)) rfl) (by omega) (by omega) (by omega)⟩, trivial⟩⟩ (z_steq rfl rfl ((zk_ias c m zA_8 (zi_add (zst9_rd 5 rfl (by unfold zR; omega)) rfl) (by unfold zR; omega) ((zk_rd (f := m 9) rfl (by unfold zR; omega)).trans rfl : Int32.ofInt (m 9 (Int32.ofInt x2).toNatClampNeg) = Int32.ofInt (m 9 x2.toNat))).trans (by rw [hm5]))) ?_
    clear f4 em5
    refine zW.step (st1 := (44, [(some (.ref 3)), (some (.int (Int32.ofInt x1))), (some (.int ((Int32.ofInt x2) + Int32.ofInt 1)))], [], zk c m5)) (st2 := (44, [(some (.ref 3)), (some (.int (Int32.ofInt x1))), (some (.int (Int32.ofInt (x2 + 1))))], [], zk c m5)) ⟨[zo, zo], _, rfl, ⟨trivial, trivial, trivial⟩⟩ (z_steq (z_c1 rfl (z_c1 rfl (z_c1 (z_si (zi_add rfl rfl)) rfl))) rfl rfl) ?_
    exact ih _ (by omega) (x2 + 1) m5 hIm5 (by omega) (by omega) tk6 tk7 rfl

set_option maxRecDepth 100000 in
set_option maxHeartbeats 4000000 in
theorem S_X4_oneClock (zn : Bool) (d : Nat) {c : Nat × Nat} {mM : zM} (hN : 107 ≤ c.1) (hC : c.1 < z_RO) (m : zM) (hIm : zI c mM m) (hr : m 8 185 ≤ 5) : zCi zn (d + 6) 77 [.ref 3] c m (fun (r : Int) (m1 : zM) => zI c mM m1 ∧ (0 ≤ r ∧ r ≤ 1) ∧ zN m m1) := by
  refine zCi.of zu_X4_oneClock hC (Nat.le_of_ble_eq_true rfl) ?_
  show zW zn (d + 5) 77 c (0, [(some (.ref 3)), none, none], [], zk c m) (fun v h1 => ∃ (r : Int) (m1 : zM), v = some (.int (Int32.ofInt r)) ∧ h1 = zk c m1 ∧ zI c mM m1 ∧ (0 ≤ r ∧ r ≤ 1) ∧ zN m m1)
  have f8 : (0 : Int) ≤ m 8 185 ∧ m 8 185 ≤ 10 := zr_c hIm zS_8
  obtain ⟨m9, hm9⟩ : ∃ q, q = zm_cs m 9 2 7 := ⟨_, rfl⟩
  have hIm9 : zI c mM m9 := by rw [hm9]; exact zI_cs hIm (by omega) (fun i hi => by have q9 := zst9_b 2 i (by decide) (by omega); have e1 : zlo 9 i = -2147483648 := rfl; have e2 : zhi 9 i = 2147483647 := rfl; omega)
  have tk10 : zN m m9 := by rw [hm9]; exact zN_cs zN_rf (by unfold zRow; omega)
  have tk11 : m9 8 185 = m 8 185 := by rw [hm9, zm_cs_ne (by omega)]
  have f12 : m9 8 185 = m 8 185 := by rw [hm9]; exact zm_cs_ne (by omega)
  refine zW.step (st1 := (16, [(some (.ref 3)), none, none], [], z_hup (zk c m) 9 (.inl (0, 7, .inl (va_cpy (fun j => (z_sta.getD 2 []).getD j 0) (fun j => Int32.ofInt (m 9 j)) (Int32.ofInt 0).toNatClampNeg (Int32.ofInt 0).toNatClampNeg (Int32.ofNat 7).toNatClampNeg))))) (st2 := (16, [(some (.ref 3)), none, none], [], zk c m9)) ⟨[zo, zo, zo, zo, zo, zo, zo, (true, 0, none, zh0, some (.inl (0, 7, .inl (fun j => Int32.ofInt (m 9 j)))))], _, rfl, ⟨trivial, trivial, trivial, (Nat.lt_of_lt_of_le (Nat.le_of_ble_eq_true rfl) hN), trivial, trivial, trivial, ⟨zk_ra c m zA_9 (Nat.lt_of_lt_of_le (Nat.le_of_ble_eq_true rfl) hN), ⟨(Nat.le_of_ble_eq_true rfl), (Nat.le_of_ble_eq_true rfl)⟩, (by decide), (by decide), (by decide), (by decide), (by decide), (Nat.le_of_ble_eq_true rfl)⟩, trivial⟩⟩ (z_steq rfl rfl ((zk_acs c m zA_9 rfl rfl (by decide : Int32.ofNat 7 = Int32.ofInt 7) (⟨by decide, by decide⟩ : zR 7)).trans (by rw [hm9]; rfl))) ?_
  refine zW.step (st1 := (25, [(some (.ref 3)), none, none], [.ref (z_RO + 204), .ref (z_RO + 203), .ref (z_RO + 1), .ref 3], zk c m9)) (st2 := (25, [(some (.ref 3)), none, none], [.ref (z_RO + 204), .ref (z_RO + 203), .ref (z_RO + 1), .ref 3], zk c m9)) ⟨[zo, zo, zo, zo], _, rfl, ⟨trivial, trivial, trivial, trivial, trivial⟩⟩ rfl ?_
  obtain ⟨r13, m13, hs13, hIm13, z_13, r9_13, p9_13, n9_13, kN_13⟩ := S_X4_takesItems_1 zn (d + 0) hN hC m9 hIm9
  refine zW.step (st1 := (28, [(some (.ref 3)), none, none], [.int (Int32.ofInt r13)], zk c m13)) ⟨[zc (some (.int (Int32.ofInt r13))) (zk c m13)], _, rfl, ⟨⟨⟨(Nat.lt_of_lt_of_le (Nat.le_of_ble_eq_true rfl) hN), (Nat.le_of_ble_eq_true rfl)⟩, hs13, (Nat.le_of_ble_eq_true rfl), Nat.le_refl _, Nat.le_refl _, Nat.le_refl _, Nat.le_refl _⟩, trivial⟩⟩ rfl ?_
  have f14 : (0 : Int) ≤ m13 8 185 ∧ m13 8 185 ≤ 10 := zr_c hIm13 zS_8
  have tk15 : zN m m13 := zN_tr tk10 kN_13
  have tk16 : m13 8 185 = m 8 185 := (show _ = _ from n9_13).trans tk11
  by_cases b17 : r13 = 0
  · refine zW.step (st1 := (31, [(some (.ref 3)), none, none], [], zk c m13)) (st2 := (31, [(some (.ref 3)), none, none], [], zk c m13)) ⟨[zo], _, rfl, ⟨zbf (fun q => q ((zi_eq rfl (rfl : (0 : Int32) = Int32.ofInt 0) (by unfold zR; omega) (⟨by decide, by decide⟩ : zR 0)).mpr b17)), trivial⟩⟩ rfl ?_
    refine zW.step (st1 := (32, [(some (.ref 3)), none, none], [.int (Int32.ofInt 0)], zk c m13)) (st2 := (32, [(some (.ref 3)), none, none], [.int (Int32.ofInt 0)], zk c m13)) ⟨[zo], _, rfl, ⟨trivial, trivial⟩⟩ rfl ?_
    exact zW.fin (zfin_i rfl rfl rfl) ⟨0, m13, rfl, rfl, hIm13, (by omega), tk15⟩
  · refine zW.step (st1 := (33, [(some (.ref 3)), none, none], [], zk c m13)) (st2 := (33, [(some (.ref 3)), none, none], [], zk c m13)) ⟨[zt], _, rfl, ⟨zbt (fun q => b17 ((zi_eq rfl (rfl : (0 : Int32) = Int32.ofInt 0) (by unfold zR; omega) (⟨by decide, by decide⟩ : zR 0)).mp q)), trivial⟩⟩ rfl ?_
    refine zW.step (st1 := (44, [(some (.ref 3)), (some (.int (Int32.ofInt (m13 8 ((Int16.ofInt 185).toInt32).toNatClampNeg)))), (some (.int (Int32.ofInt 0)))], [], zk c m13)) (st2 := (44, [(some (.ref 3)), (some (.int (Int32.ofInt (m13 8 185)))), (some (.int (Int32.ofInt 0)))], [], zk c m13)) ⟨[zo, zo, zo, (false, 0, none, zh0, some (.inl (0, 188, .inl (fun j => Int32.ofInt (m13 8 j))))), zo, zo, zo], _, rfl, ⟨trivial, (Nat.lt_of_lt_of_le (Nat.le_of_ble_eq_true rfl) hN), trivial, ⟨zk_ra c m13 zA_8 (Nat.lt_of_lt_of_le (Nat.le_of_ble_eq_true rfl) hN), zi_in (by decide : (Int16.ofInt 185).toInt32 = Int32.ofInt 185) (by omega) (by omega) (by omega)⟩, trivial, trivial, trivial, trivial⟩⟩ (z_steq (z_c1 rfl (z_c1 (z_si ((zk_rd (f := m13 8) (by decide : (Int16.ofInt 185).toInt32 = Int32.ofInt 185) (⟨by decide, by decide⟩ : zR 185)).trans rfl : Int32.ofInt (m13 8 ((Int16.ofInt 185).toInt32).toNatClampNeg) = Int32.ofInt (m13 8 185))) rfl)) rfl rfl) ?_
    refine L_X4_oneClock_44 zn _ hN hC (m13 8 185) m _ (fun x2_18 m_18 hIm_18 i1_18 i2_18 tN_18 tCn_18 => ?_) _ 0 m13 hIm13 (by omega) (by omega) tk15 tk16 rfl
    have f19 : (0 : Int) ≤ m_18 8 185 ∧ m_18 8 185 ≤ 10 := zr_c hIm_18 zS_8
    have f20 : (-2147483648 : Int) ≤ m_18 8 ((60 + (m13 8 185)).toNat) ∧ m_18 8 ((60 + (m13 8 185)).toNat) ≤ 2147483647 := zr_i hIm_18 zS_8 ((60 + (m13 8 185)).toNat)
    by_cases b21 : (m_18 8 ((60 + (m13 8 185)).toNat)) = 6
    · refine zW.step (st1 := (90, [(some (.ref 3)), (some (.int (Int32.ofInt (m13 8 185)))), (some (.int (Int32.ofInt x2_18)))], [], zk c m_18)) (st2 := (90, [(some (.ref 3)), (some (.int (Int32.ofInt (m13 8 185)))), (some (.int (Int32.ofInt x2_18)))], [], zk c m_18)) ⟨[zo, zo, zo, zo, zo, (false, 0, none, zh0, some (.inl (0, 188, .inl (fun j => Int32.ofInt (m_18 8 j))))), zo, zo], _, rfl, ⟨trivial, (Nat.lt_of_lt_of_le (Nat.le_of_ble_eq_true rfl) hN), trivial, trivial, trivial, ⟨zk_ra c m_18 zA_8 (Nat.lt_of_lt_of_le (Nat.le_of_ble_eq_true rfl) hN), zi_in (zi_add (by decide : (Int8.ofInt 60).toInt32 = Int32.ofInt 60) rfl) (by omega) (by omega) (by omega)⟩, trivial, zbf (fun q => q ((zi_eq ((zk_rd (f := m_18 8) (zi_add (by decide : (Int8.ofInt 60).toInt32 = Int32.ofInt 60) rfl) (by unfold zR; omega)).trans rfl : Int32.ofInt (m_18 8 (((Int8.ofInt 60).toInt32) + (Int32.ofInt (m13 8 185))).toNatClampNeg) = Int32.ofInt (m_18 8 ((60 + (m13 8 185)).toNat))) (by decide : (Int8.ofInt 6).toInt32 = Int32.ofInt 6) (by unfold zR; omega) (⟨by decide, by decide⟩ : zR 6)).mpr b21)), trivial⟩⟩ rfl ?_
      obtain ⟨m22, hm22⟩ : ∃ q, q = zm_up m_18 8 ((60 + (m13 8 185)).toNat) (-1) := ⟨_, rfl⟩
      have hIm22 : zI c mM m22 := by rw [hm22]; exact zI_up hIm_18 (zOk_p (by decide)) (zrw_i zS_8 (by omega) (show (-2147483648 : Int) ≤ (-1) ∧ (-1) ≤ 2147483647 by omega))
      have em22 : m22 8 ((60 + (m13 8 185)).toNat) = (-1) := by rw [hm22]; exact zm_eq
      have f23 : m22 8 185 = m_18 8 185 := by rw [hm22]; exact zm_ne (by omega)
      have tk24 : zN m m22 := by rw [hm22]; exact zN_up tN_18 (by unfold zRow; omega)
      have tk25 : m22 8 185 = m 8 185 := by rw [hm22, zm_ne (by omega)]; exact tCn_18
      refine zW.step (st1 := (100, [(some (.ref 3)), (some (.int (Int32.ofInt (m13 8 185)))), (some (.int (Int32.ofInt x2_18)))], [], z_hup (zk c m_18) 8 (.inl (0, 188, .inl (upd (fun j => Int32.ofInt (m_18 8 j)) (((Int8.ofInt 60).toInt32) + (Int32.ofInt (m13 8 185))).toNatClampNeg (Int32.ofInt (-1))))))) (st2 := (100, [(some (.ref 3)), (some (.int (Int32.ofInt (m13 8 185)))), (some (.int (Int32.ofInt x2_18)))], [], zk c m22)) ⟨[zo, zo, zo, zo, zo, zo, (false, 0, none, zh0, some (.inl (0, 188, .inl (fun j => Int32.ofInt (m_18 8 j)))))], _, rfl, ⟨trivial, (Nat.lt_of_lt_of_le (Nat.le_of_ble_eq_true rfl) hN), trivial, trivial, trivial, trivial, ⟨zk_ra c m_18 zA_8 (Nat.lt_of_lt_of_le (Nat.le_of_ble_eq_true rfl) hN), zi_in (zi_add (by decide : (Int8.ofInt 60).toInt32 = Int32.ofInt 60) rfl) (by omega) (by omega) (by omega)⟩, trivial⟩⟩ (z_steq rfl rfl ((zk_ias c m_18 zA_8 (zi_add (by decide : (Int8.ofInt 60).toInt32 = Int32.ofInt 60) rfl) (by unfold zR; omega) rfl).trans (by rw [hm22]))) ?_
      obtain ⟨m26, hm26⟩ : ∃ q, q = zm_up m22 8 ((70 + (m13 8 185)).toNat) 1 := ⟨_, rfl⟩
      have hIm26 : zI c mM m26 := by rw [hm26]; exact zI_up hIm22 (zOk_p (by decide)) (zrw_l zS_8 (by omega) (show (0 : Int) ≤ 1 ∧ 1 ≤ 1 by omega))
      have em26 : m26 8 ((70 + (m13 8 185)).toNat) = 1 := by rw [hm26]; exact zm_eq
      have f27 : m26 8 185 = m22 8 185 := by rw [hm26]; exact zm_ne (by omega)
      have tk28 : zN m m26 := by rw [hm26]; exact zN_up tk24 (by unfold zRow; omega)
      have tk29 : m26 8 185 = m 8 185 := by rw [hm26, zm_ne (by omega)]; exact tk25
      clear tk24
      refine zW.step (st1 := (110, [(some (.ref 3)), (some (.int (Int32.ofInt (m13 8 185)))), (some (.int (Int32.ofInt x2_18)))], [], z_hup (zk c m22) 8 (.inl (0, 188, .inl (upd (fun j => Int32.ofInt (m22 8 j)) (((Int8.ofInt 70).toInt32) + (Int32.ofInt (m13 8 185))).toNatClampNeg (Int32.ofInt 1)))))) (st2 := (110, [(some (.ref 3)), (some (.int (Int32.ofInt (m13 8 185)))), (some (.int (Int32.ofInt x2_18)))], [], zk c m26)) ⟨[zo, zo, zo, zo, zo, zo, (false, 0, none, zh0, some (.inl (0, 188, .inl (fun j => Int32.ofInt (m22 8 j)))))], _, rfl, ⟨trivial, (Nat.lt_of_lt_of_le (Nat.le_of_ble_eq_true rfl) hN), trivial, trivial, trivial, trivial, ⟨zk_ra c m22 zA_8 (Nat.lt_of_lt_of_le (Nat.le_of_ble_eq_true rfl) hN), zi_in (zi_add (by decide : (Int8.ofInt 70).toInt32 = Int32.ofInt 70) rfl) (by omega) (by omega) (by omega)⟩, trivial⟩⟩ (z_steq rfl rfl ((zk_ias c m22 zA_8 (zi_add (by decide : (Int8.ofInt 70).toInt32 = Int32.ofInt 70) rfl) (by unfold zR; omega) rfl).trans (by rw [hm26]))) ?_
      obtain ⟨m30, hm30⟩ : ∃ q, q = zm_up m26 8 ((140 + (m13 8 185)).toNat) (-1) := ⟨_, rfl⟩
      have hIm30 : zI c mM m30 := by rw [hm30]; exact zI_up hIm26 (zOk_p (by decide)) (zrw_i zS_8 (by omega) (show (-2147483648 : Int) ≤ (-1) ∧ (-1) ≤ 2147483647 by omega))
      have em30 : m30 8 ((140 + (m13 8 185)).toNat) = (-1) := by rw [hm30]; exact zm_eq
      have f31 : m30 8 185 = m26 8 185 := by rw [hm30]; exact zm_ne (by omega)
      have tk32 : zN m m30 := by rw [hm30]; exact zN_up tk28 (by unfold zRow; omega)
      have tk33 : m30 8 185 = m 8 185 := by rw [hm30, zm_ne (by omega)]; exact tk29
      clear tk28
      refine zW.step (st1 := (121, [(some (.ref 3)), (some (.int (Int32.ofInt (m13 8 185)))), (some (.int (Int32.ofInt x2_18)))], [], z_hup (zk c m26) 8 (.inl (0, 188, .inl (upd (fun j => Int32.ofInt (m26 8 j)) (((Int16.ofInt 140).toInt32) + (Int32.ofInt (m13 8 185))).toNatClampNeg (Int32.ofInt (-1))))))) (st2 := (121, [(some (.ref 3)), (some (.int (Int32.ofInt (m13 8 185)))), (some (.int (Int32.ofInt x2_18)))], [], zk c m30)) ⟨[zo, zo, zo, zo, zo, zo, (false, 0, none, zh0, some (.inl (0, 188, .inl (fun j => Int32.ofInt (m26 8 j)))))], _, rfl, ⟨trivial, (Nat.lt_of_lt_of_le (Nat.le_of_ble_eq_true rfl) hN), trivial, trivial, trivial, trivial, ⟨zk_ra c m26 zA_8 (Nat.lt_of_lt_of_le (Nat.le_of_ble_eq_true rfl) hN), zi_in (zi_add (by decide : (Int16.ofInt 140).toInt32 = Int32.ofInt 140) rfl) (by omega) (by omega) (by omega)⟩, trivial⟩⟩ (z_steq rfl rfl ((zk_ias c m26 zA_8 (zi_add (by decide : (Int16.ofInt 140).toInt32 = Int32.ofInt 140) rfl) (by unfold zR; omega) rfl).trans (by rw [hm30]))) ?_
      have f34 : (0 : Int) ≤ m30 8 185 ∧ m30 8 185 ≤ 10 := zr_c hIm30 zS_8
      obtain ⟨m35, hm35⟩ : ∃ q, q = zm_up m30 8 185 ((m30 8 185) + 1) := ⟨_, rfl⟩
      have hIm35 : zI c mM m35 := by rw [hm35]; exact zI_up hIm30 (zOk_p (by decide)) (zrw_c zS_8 (show (0 : Int) ≤ ((m30 8 185) + 1) ∧ ((m30 8 185) + 1) ≤ 10 by omega))
      have em35 : m35 8 185 = ((m30 8 185) + 1) := by rw [hm35]; exact zm_eq
      have tk36 : zN m m35 := by rw [hm35]; exact zN_up tk32 (by unfold zRow; omega)
      have tk37 : m35 8 185 = (m30 8 185) + 1 := em35
      clear tk32
      refine zW.step (st1 := (133, [(some (.ref 3)), (some (.int (Int32.ofInt (m13 8 185)))), (some (.int (Int32.ofInt x2_18)))], [], z_hup (zk c m30) 8 (.inl (0, 188, .inl (upd (fun j => Int32.ofInt (m30 8 j)) ((Int16.ofInt 185).toInt32).toNatClampNeg ((Int32.ofInt (m30 8 ((Int16.ofInt 185).toInt32).toNatClampNeg)) + (Int32.ofInt 1))))))) (st2 := (133, [(some (.ref 3)), (some (.int (Int32.ofInt (m13 8 185)))), (some (.int (Int32.ofInt x2_18)))], [], zk c m35)) ⟨[zo, zo, zo, zo, (false, 0, none, zh0, some (.inl (0, 188, .inl (fun j => Int32.ofInt (m30 8 j))))), zo, zo, (false, 0, none, zh0, some (.inl (0, 188, .inl (fun j => Int32.ofInt (m30 8 j)))))], _, rfl, ⟨trivial, (Nat.lt_of_lt_of_le (Nat.le_of_ble_eq_true rfl) hN), trivial, trivial, ⟨zk_ra c m30 zA_8 (Nat.lt_of_lt_of_le (Nat.le_of_ble_eq_true rfl) hN), zi_in (by decide : (Int16.ofInt 185).toInt32 = Int32.ofInt 185) (by omega) (by omega) (by omega)⟩, trivial, trivial, ⟨zk_ra c m30 zA_8 (Nat.lt_of_lt_of_le (Nat.le_of_ble_eq_true rfl) hN), zi_in (by decide : (Int16.ofInt 185).toInt32 = Int32.ofInt 185) (by omega) (by omega) (by omega)⟩, trivial⟩⟩ (z_steq rfl rfl ((zk_ias c m30 zA_8 (by decide : (Int16.ofInt 185).toInt32 = Int32.ofInt 185) (⟨by decide, by decide⟩ : zR 185) (zi_add ((zk_rd (f := m30 8) (by decide : (Int16.ofInt 185).toInt32 = Int32.ofInt 185) (⟨by decide, by decide⟩ : zR 185)).trans rfl : Int32.ofInt (m30 8 ((Int16.ofInt 185).toInt32).toNatClampNeg) = Int32.ofInt (m30 8 185)) rfl)).trans (by rw [hm35]; rfl))) ?_
      refine zW.step (st1 := (134, [(some (.ref 3)), (some (.int (Int32.ofInt (m13 8 185)))), (some (.int (Int32.ofInt x2_18)))], [.int (Int32.ofInt 1)], zk c m35)) (st2 := (134, [(some (.ref 3)), (some (.int (Int32.ofInt (m13 8 185)))), (some (.int (Int32.ofInt x2_18)))], [.int (Int32.ofInt 1)], zk c m35)) ⟨[zo], _, rfl, ⟨trivial, trivial⟩⟩ rfl ?_
      exact zW.fin (zfin_i rfl rfl rfl) ⟨1, m35, rfl, rfl, hIm35, (by omega), tk36⟩
    · refine zW.step (st1 := (100, [(some (.ref 3)), (some (.int (Int32.ofInt (m13 8 185)))), (some (.int (Int32.ofInt x2_18)))], [], zk c m_18)) (st2 := (100, [(some (.ref 3)), (some (.int (Int32.ofInt (m13 8 185)))), (some (.int (Int32.ofInt x2_18)))], [], zk c m_18)) ⟨[zo, zo, zo, zo, zo, (false, 0, none, zh0, some (.inl (0, 188, .inl (fun j => Int32.ofInt (m_18 8 j))))), zo, zt], _, rfl, ⟨trivial, (Nat.lt_of_lt_of_le (Nat.le_of_ble_eq_true rfl) hN), trivial, trivial, trivial, ⟨zk_ra c m_18 zA_8 (Nat.lt_of_lt_of_le (Nat.le_of_ble_eq_true rfl) hN), zi_in (zi_add (by decide : (Int8.ofInt 60).toInt32 = Int32.ofInt 60) rfl) (by omega) (by omega) (by omega)⟩, trivial, zbt (fun q => b21 ((zi_eq ((zk_rd (f := m_18 8) (zi_add (by decide : (Int8.ofInt 60).toInt32 = Int32.ofInt 60) rfl) (by unfold zR; omega)).trans rfl : Int32.ofInt (m_18 8 (((Int8.ofInt 60).toInt32) + (Int32.ofInt (m13 8 185))).toNatClampNeg) = Int32.ofInt (m_18 8 ((60 + (m13 8 185)).toNat))) (by decide : (Int8.ofInt 6).toInt32 = Int32.ofInt 6) (by unfold zR; omega) (⟨by decide, by decide⟩ : zR 6)).mp q)), trivial⟩⟩ rfl ?_
      obtain ⟨m38, hm38⟩ : ∃ q, q = zm_up m_18 8 ((70 + (m13 8 185)).toNat) 1 := ⟨_, rfl⟩
      have hIm38 : zI c mM m38 := by rw [hm38]; exact zI_up hIm_18 (zOk_p (by decide)) (zrw_l zS_8 (by omega) (show (0 : Int) ≤ 1 ∧ 1 ≤ 1 by omega))
      have em38 : m38 8 ((70 + (m13 8 185)).toNat) = 1 := by rw [hm38]; exact zm_eq
      have f39 : m38 8 185 = m_18 8 185 := by rw [hm38]; exact zm_ne (by omega)
      have tk40 : zN m m38 := by rw [hm38]; exact zN_up tN_18 (by unfold zRow; omega)
      have tk41 : m38 8 185 = m 8 185 := by rw [hm38, zm_ne (by omega)]; exact tCn_18
      refine zW.step (st1 := (110, [(some (.ref 3)), (some (.int (Int32.ofInt (m13 8 185)))), (some (.int (Int32.ofInt x2_18)))], [], z_hup (zk c m_18) 8 (.inl (0, 188, .inl (upd (fun j => Int32.ofInt (m_18 8 j)) (((Int8.ofInt 70).toInt32) + (Int32.ofInt (m13 8 185))).toNatClampNeg (Int32.ofInt 1)))))) (st2 := (110, [(some (.ref 3)), (some (.int (Int32.ofInt (m13 8 185)))), (some (.int (Int32.ofInt x2_18)))], [], zk c m38)) ⟨[zo, zo, zo, zo, zo, zo, (false, 0, none, zh0, some (.inl (0, 188, .inl (fun j => Int32.ofInt (m_18 8 j)))))], _, rfl, ⟨trivial, (Nat.lt_of_lt_of_le (Nat.le_of_ble_eq_true rfl) hN), trivial, trivial, trivial, trivial, ⟨zk_ra c m_18 zA_8 (Nat.lt_of_lt_of_le (Nat.le_of_ble_eq_true rfl) hN), zi_in (zi_add (by decide : (Int8.ofInt 70).toInt32 = Int32.ofInt 70) rfl) (by omega) (by omega) (by omega)⟩, trivial⟩⟩ (z_steq rfl rfl ((zk_ias c m_18 zA_8 (zi_add (by decide : (Int8.ofInt 70).toInt32 = Int32.ofInt 70) rfl) (by unfold zR; omega) rfl).trans (by rw [hm38]))) ?_
      obtain ⟨m42, hm42⟩ : ∃ q, q = zm_up m38 8 ((140 + (m13 8 185)).toNat) (-1) := ⟨_, rfl⟩
      have hIm42 : zI c mM m42 := by rw [hm42]; exact zI_up hIm38 (zOk_p (by decide)) (zrw_i zS_8 (by omega) (show (-2147483648 : Int) ≤ (-1) ∧ (-1) ≤ 2147483647 by omega))
      have em42 : m42 8 ((140 + (m13 8 185)).toNat) = (-1) := by rw [hm42]; exact zm_eq
      have f43 : m42 8 185 = m38 8 185 := by rw [hm42]; exact zm_ne (by omega)
      have tk44 : zN m m42 := by rw [hm42]; exact zN_up tk40 (by unfold zRow; omega)
      have tk45 : m42 8 185 = m 8 185 := by rw [hm42, zm_ne (by omega)]; exact tk41
      clear tk40
      refine zW.step (st1 := (121, [(some (.ref 3)), (some (.int (Int32.ofInt (m13 8 185)))), (some (.int (Int32.ofInt x2_18)))], [], z_hup (zk c m38) 8 (.inl (0, 188, .inl (upd (fun j => Int32.ofInt (m38 8 j)) (((Int16.ofInt 140).toInt32) + (Int32.ofInt (m13 8 185))).toNatClampNeg (Int32.ofInt (-1))))))) (st2 := (121, [(some (.ref 3)), (some (.int (Int32.ofInt (m13 8 185)))), (some (.int (Int32.ofInt x2_18)))], [], zk c m42)) ⟨[zo, zo, zo, zo, zo, zo, (false, 0, none, zh0, some (.inl (0, 188, .inl (fun j => Int32.ofInt (m38 8 j)))))], _, rfl, ⟨trivial, (Nat.lt_of_lt_of_le (Nat.le_of_ble_eq_true rfl) hN), trivial, trivial, trivial, trivial, ⟨zk_ra c m38 zA_8 (Nat.lt_of_lt_of_le (Nat.le_of_ble_eq_true rfl) hN), zi_in (zi_add (by decide : (Int16.ofInt 140).toInt32 = Int32.ofInt 140) rfl) (by omega) (by omega) (by omega)⟩, trivial⟩⟩ (z_steq rfl rfl ((zk_ias c m38 zA_8 (zi_add (by decide : (Int16.ofInt 140).toInt32 = Int32.ofInt 140) rfl) (by unfold zR; omega) rfl).trans (by rw [hm42]))) ?_
      have f46 : (0 : Int) ≤ m42 8 185 ∧ m42 8 185 ≤ 10 := zr_c hIm42 zS_8
      obtain ⟨m47, hm47⟩ : ∃ q, q = zm_up m42 8 185 ((m42 8 185) + 1) := ⟨_, rfl⟩
      have hIm47 : zI c mM m47 := by rw [hm47]; exact zI_up hIm42 (zOk_p (by decide)) (zrw_c zS_8 (show (0 : Int) ≤ ((m42 8 185) + 1) ∧ ((m42 8 185) + 1) ≤ 10 by omega))
      have em47 : m47 8 185 = ((m42 8 185) + 1) := by rw [hm47]; exact zm_eq
      have tk48 : zN m m47 := by rw [hm47]; exact zN_up tk44 (by unfold zRow; omega)
      have tk49 : m47 8 185 = (m42 8 185) + 1 := em47
      clear tk44
      refine zW.step (st1 := (133, [(some (.ref 3)), (some (.int (Int32.ofInt (m13 8 185)))), (some (.int (Int32.ofInt x2_18)))], [], z_hup (zk c m42) 8 (.inl (0, 188, .inl (upd (fun j => Int32.ofInt (m42 8 j)) ((Int16.ofInt 185).toInt32).toNatClampNeg ((Int32.ofInt (m42 8 ((Int16.ofInt 185).toInt32).toNatClampNeg)) + (Int32.ofInt 1))))))) (st2 := (133, [(some (.ref 3)), (some (.int (Int32.ofInt (m13 8 185)))), (some (.int (Int32.ofInt x2_18)))], [], zk c m47)) ⟨[zo, zo, zo, zo, (false, 0, none, zh0, some (.inl (0, 188, .inl (fun j => Int32.ofInt (m42 8 j))))), zo, zo, (false, 0, none, zh0, some (.inl (0, 188, .inl (fun j => Int32.ofInt (m42 8 j)))))], _, rfl, ⟨trivial, (Nat.lt_of_lt_of_le (Nat.le_of_ble_eq_true rfl) hN), trivial, trivial, ⟨zk_ra c m42 zA_8 (Nat.lt_of_lt_of_le (Nat.le_of_ble_eq_true rfl) hN), zi_in (by decide : (Int16.ofInt 185).toInt32 = Int32.ofInt 185) (by omega) (by omega) (by omega)⟩, trivial, trivial, ⟨zk_ra c m42 zA_8 (Nat.lt_of_lt_of_le (Nat.le_of_ble_eq_true rfl) hN), zi_in (by decide : (Int16.ofInt 185).toInt32 = Int32.ofInt 185) (by omega) (by omega) (by omega)⟩, trivial⟩⟩ (z_steq rfl rfl ((zk_ias c m42 zA_8 (by decide : (Int16.ofInt 185).toInt32 = Int32.ofInt 185) (⟨by decide, by decide⟩ : zR 185) (zi_add ((zk_rd (f := m42 8) (by decide : (Int16.ofInt 185).toInt32 = Int32.ofInt 185) (⟨by decide, by decide⟩ : zR 185)).trans rfl : Int32.ofInt (m42 8 ((Int16.ofInt 185).toInt32).toNatClampNeg) = Int32.ofInt (m42 8 185)) rfl)).trans (by rw [hm47]; rfl))) ?_
      refine zW.step (st1 := (134, [(some (.ref 3)), (some (.int (Int32.ofInt (m13 8 185)))), (some (.int (Int32.ofInt x2_18)))], [.int (Int32.ofInt 1)], zk c m47)) (st2 := (134, [(some (.ref 3)), (some (.int (Int32.ofInt (m13 8 185)))), (some (.int (Int32.ofInt x2_18)))], [.int (Int32.ofInt 1)], zk c m47)) ⟨[zo], _, rfl, ⟨trivial, trivial⟩⟩ rfl ?_
      exact zW.fin (zfin_i rfl rfl rfl) ⟨1, m47, rfl, rfl, hIm47, (by omega), tk48⟩

set_option maxRecDepth 100000 in
set_option maxHeartbeats 4000000 in
theorem S_X4_clause (zn : Bool) (d : Nat) {c : Nat × Nat} {mM : zM} (hN : 107 ≤ c.1) (hC : c.1 < z_RO) (m : zM) (hIm : zI c mM m) : zCi zn (d + 7) 74 [.ref 3] c m (fun (r : Int) (m1 : zM) => zI c mM m1 ∧ (0 ≤ r ∧ r ≤ 1) ∧ zN m m1) := by
  refine zCi.of zu_X4_clause hC (Nat.le_of_ble_eq_true rfl) ?_
  show zW zn (d + 6) 74 c (0, [(some (.ref 3))], [], zk c m) (fun v h1 => ∃ (r : Int) (m1 : zM), v = some (.int (Int32.ofInt r)) ∧ h1 = zk c m1 ∧ zI c mM m1 ∧ (0 ≤ r ∧ r ≤ 1) ∧ zN m m1)
  have f1 : (0 : Int) ≤ m 4 3 ∧ m 4 3 ≤ 5 := hIm.1 4 3
  have f2 : (0 : Int) ≤ m 4 4 ∧ m 4 4 ≤ 6 := hIm.1 4 4
  have f3 : (0 : Int) ≤ m 8 185 ∧ m 8 185 ≤ 10 := zr_c hIm zS_8
  by_cases b4 : 5 ≤ (m 4 3)
  · refine zW.step (st1 := (28, [(some (.ref 3))], [], zk c m)) (st2 := (28, [(some (.ref 3))], [], zk c m)) ⟨[zo, zo, zo, zo, zt], _, rfl, ⟨trivial, (Nat.lt_of_lt_of_le (Nat.le_of_ble_eq_true rfl) hN), (Nat.lt_of_lt_of_le (Nat.le_of_ble_eq_true rfl) hN), trivial, zbt ((zi_le rfl rfl (⟨by decide, by decide⟩ : zR 5) (by unfold zR; omega)).mpr b4), trivial⟩⟩ rfl ?_
    by_cases b5 : 6 ≤ (m 8 185)
    · refine zW.step (st1 := (58, [(some (.ref 3))], [], zk c m)) (st2 := (58, [(some (.ref 3))], [], zk c m)) ⟨[zo, zo, zo, (false, 0, none, zh0, some (.inl (0, 188, .inl (fun j => Int32.ofInt (m 8 j))))), zo, zt], _, rfl, ⟨trivial, (Nat.lt_of_lt_of_le (Nat.le_of_ble_eq_true rfl) hN), trivial, ⟨zk_ra c m zA_8 (Nat.lt_of_lt_of_le (Nat.le_of_ble_eq_true rfl) hN), zi_in (by decide : (Int16.ofInt 185).toInt32 = Int32.ofInt 185) (by omega) (by omega) (by omega)⟩, trivial, zbt ((zi_le (by decide : (Int8.ofInt 6).toInt32 = Int32.ofInt 6) ((zk_rd (f := m 8) (by decide : (Int16.ofInt 185).toInt32 = Int32.ofInt 185) (⟨by decide, by decide⟩ : zR 185)).trans rfl : Int32.ofInt (m 8 ((Int16.ofInt 185).toInt32).toNatClampNeg) = Int32.ofInt (m 8 185)) (⟨by decide, by decide⟩ : zR 6) (by unfold zR; omega)).mpr b5), trivial⟩⟩ rfl ?_
      by_cases b6 : 6 ≤ (m 4 4)
      · refine zW.step (st1 := (87, [(some (.ref 3))], [], zk c m)) (st2 := (87, [(some (.ref 3))], [], zk c m)) ⟨[zo, zo, zo, zo, zt], _, rfl, ⟨trivial, (Nat.lt_of_lt_of_le (Nat.le_of_ble_eq_true rfl) hN), (Nat.lt_of_lt_of_le (Nat.le_of_ble_eq_true rfl) hN), trivial, zbt ((zi_le (by decide : (Int8.ofInt 6).toInt32 = Int32.ofInt 6) rfl (⟨by decide, by decide⟩ : zR 6) (by unfold zR; omega)).mpr b6), trivial⟩⟩ rfl ?_
        refine zW.step (st1 := (91, [(some (.ref 3))], [.ref 1], zk c m)) (st2 := (91, [(some (.ref 3))], [.ref 1], zk c m)) ⟨[zo, zo], _, rfl, ⟨trivial, (Nat.lt_of_lt_of_le (Nat.le_of_ble_eq_true rfl) hN), trivial⟩⟩ rfl ?_
        obtain ⟨r7, m7, hs7, hIm7, z_7, q_7, l_7, a9_7, r9_7, p9_7, n9_7, c3_7, e2_7, v9_7, kN_7⟩ := S_X8_next zn (d + 4) hN hC m hIm
        refine zW.step (st1 := (94, [(some (.ref 3))], [.int (Int32.ofInt r7)], zk c m7)) ⟨[zc (some (.int (Int32.ofInt r7))) (zk c m7)], _, rfl, ⟨⟨⟨(Nat.lt_of_lt_of_le (Nat.le_of_ble_eq_true rfl) hN), (Nat.le_of_ble_eq_true rfl)⟩, hs7, (Nat.le_of_ble_eq_true rfl), Nat.le_refl _, Nat.le_refl _, Nat.le_refl _, Nat.le_refl _⟩, trivial⟩⟩ rfl ?_
        have f8 : (0 : Int) ≤ m7 4 3 ∧ m7 4 3 ≤ 5 := hIm7.1 4 3
        have f9 : (0 : Int) ≤ m7 4 4 ∧ m7 4 4 ≤ 6 := hIm7.1 4 4
        have f10 : (0 : Int) ≤ m7 8 185 ∧ m7 8 185 ≤ 10 := zr_c hIm7 zS_8
        have tk11 : zN m m7 := zN_tr zN_rf kN_7
        have tk12 : m7 4 3 = m 4 3 := (show _ = _ from r9_7).trans rfl
        have tk13 : m7 4 4 = m 4 4 := (show _ = _ from p9_7).trans rfl
        have tk14 : m7 8 185 = m 8 185 := (show _ = _ from n9_7).trans rfl
        refine zW.step (st1 := (96, [(some (.ref 3))], [.int (Int32.ofInt 0)], zk c m7)) (st2 := (96, [(some (.ref 3))], [.int (Int32.ofInt 0)], zk c m7)) ⟨[zo, zo], _, rfl, ⟨trivial, trivial, trivial⟩⟩ rfl ?_
        exact zW.fin (zfin_i rfl rfl rfl) ⟨0, m7, rfl, rfl, hIm7, (by omega), tk11⟩
      · refine zW.step (st1 := (70, [(some (.ref 3))], [], zk c m)) (st2 := (70, [(some (.ref 3))], [], zk c m)) ⟨[zo, zo, zo, zo, zo], _, rfl, ⟨trivial, (Nat.lt_of_lt_of_le (Nat.le_of_ble_eq_true rfl) hN), (Nat.lt_of_lt_of_le (Nat.le_of_ble_eq_true rfl) hN), trivial, zbf (fun q => b6 ((zi_le (by decide : (Int8.ofInt 6).toInt32 = Int32.ofInt 6) rfl (⟨by decide, by decide⟩ : zR 6) (by unfold zR; omega)).mp q)), trivial⟩⟩ rfl ?_
        refine zW.step (st1 := (76, [(some (.ref 3))], [.int ((Int8.ofInt 112).toInt32), .ref 1], zk c m)) (st2 := (76, [(some (.ref 3))], [.int (Int32.ofInt 112), .ref 1], zk c m)) ⟨[zo, zo, zo], _, rfl, ⟨trivial, (Nat.lt_of_lt_of_le (Nat.le_of_ble_eq_true rfl) hN), trivial, trivial⟩⟩ (z_steq rfl (z_c1 (z_vi (by decide : (Int8.ofInt 112).toInt32 = Int32.ofInt 112)) rfl) rfl) ?_
        obtain ⟨r15, m15, hs15, hIm15, z_15, l_15, a9_15, q_15, r9_15, p9_15, n9_15, e2_15, kN_15⟩ := S_X8_takes zn (d + 3) hN hC 112 m hIm (by omega) (by omega)
        refine zW.step (st1 := (79, [(some (.ref 3))], [.int (Int32.ofInt r15)], zk c m15)) ⟨[zc (some (.int (Int32.ofInt r15))) (zk c m15)], _, rfl, ⟨⟨⟨(Nat.lt_of_lt_of_le (Nat.le_of_ble_eq_true rfl) hN), (Nat.le_of_ble_eq_true rfl)⟩, hs15, (Nat.le_of_ble_eq_true rfl), Nat.le_refl _, Nat.le_refl _, Nat.le_refl _, Nat.le_refl _⟩, trivial⟩⟩ rfl ?_
        have f16 : (0 : Int) ≤ m15 4 3 ∧ m15 4 3 ≤ 5 := hIm15.1 4 3
        have f17 : (0 : Int) ≤ m15 4 4 ∧ m15 4 4 ≤ 6 := hIm15.1 4 4
        have f18 : (0 : Int) ≤ m15 8 185 ∧ m15 8 185 ≤ 10 := zr_c hIm15 zS_8
        have tk19 : zN m m15 := zN_tr zN_rf kN_15
        have tk20 : m15 4 3 = m 4 3 := (show _ = _ from r9_15).trans rfl
        have tk21 : m15 4 4 = m 4 4 := (show _ = _ from p9_15).trans rfl
        have tk22 : m15 8 185 = m 8 185 := (show _ = _ from n9_15).trans rfl
        by_cases b23 : r15 = 0
        · refine zW.step (st1 := (87, [(some (.ref 3))], [], zk c m15)) (st2 := (87, [(some (.ref 3))], [], zk c m15)) ⟨[zt], _, rfl, ⟨zbt ((zi_eq rfl (rfl : (0 : Int32) = Int32.ofInt 0) (by unfold zR; omega) (⟨by decide, by decide⟩ : zR 0)).mpr b23), trivial⟩⟩ rfl ?_
          refine zW.step (st1 := (91, [(some (.ref 3))], [.ref 1], zk c m15)) (st2 := (91, [(some (.ref 3))], [.ref 1], zk c m15)) ⟨[zo, zo], _, rfl, ⟨trivial, (Nat.lt_of_lt_of_le (Nat.le_of_ble_eq_true rfl) hN), trivial⟩⟩ rfl ?_
          obtain ⟨r24, m24, hs24, hIm24, z_24, q_24, l_24, a9_24, r9_24, p9_24, n9_24, c3_24, e2_24, v9_24, kN_24⟩ := S_X8_next zn (d + 4) hN hC m15 hIm15
          refine zW.step (st1 := (94, [(some (.ref 3))], [.int (Int32.ofInt r24)], zk c m24)) ⟨[zc (some (.int (Int32.ofInt r24))) (zk c m24)], _, rfl, ⟨⟨⟨(Nat.lt_of_lt_of_le (Nat.le_of_ble_eq_true rfl) hN), (Nat.le_of_ble_eq_true rfl)⟩, hs24, (Nat.le_of_ble_eq_true rfl), Nat.le_refl _, Nat.le_refl _, Nat.le_refl _, Nat.le_refl _⟩, trivial⟩⟩ rfl ?_
          have f25 : (0 : Int) ≤ m24 4 3 ∧ m24 4 3 ≤ 5 := hIm24.1 4 3
          have f26 : (0 : Int) ≤ m24 4 4 ∧ m24 4 4 ≤ 6 := hIm24.1 4 4
          have f27 : (0 : Int) ≤ m24 8 185 ∧ m24 8 185 ≤ 10 := zr_c hIm24 zS_8
          have tk28 : zN m m24 := zN_tr tk19 kN_24
          have tk29 : m24 4 3 = m 4 3 := (show _ = _ from r9_24).trans tk20
          have tk30 : m24 4 4 = m 4 4 := (show _ = _ from p9_24).trans tk21
          have tk31 : m24 8 185 = m 8 185 := (show _ = _ from n9_24).trans tk22
          refine zW.step (st1 := (96, [(some (.ref 3))], [.int (Int32.ofInt 0)], zk c m24)) (st2 := (96, [(some (.ref 3))], [.int (Int32.ofInt 0)], zk c m24)) ⟨[zo, zo], _, rfl, ⟨trivial, trivial, trivial⟩⟩ rfl ?_
          exact zW.fin (zfin_i rfl rfl rfl) ⟨0, m24, rfl, rfl, hIm24, (by omega), tk28⟩
        · refine zW.step (st1 := (82, [(some (.ref 3))], [], zk c m15)) (st2 := (82, [(some (.ref 3))], [], zk c m15)) ⟨[zo], _, rfl, ⟨zbf (fun q => b23 ((zi_eq rfl (rfl : (0 : Int32) = Int32.ofInt 0) (by unfold zR; omega) (⟨by decide, by decide⟩ : zR 0)).mp q)), trivial⟩⟩ rfl ?_
          refine zW.step (st1 := (83, [(some (.ref 3))], [.ref 3], zk c m15)) (st2 := (83, [(some (.ref 3))], [.ref 3], zk c m15)) ⟨[zo], _, rfl, ⟨trivial, trivial⟩⟩ rfl ?_
          obtain ⟨r32, m32, hs32, hIm32, z_32, kN_32⟩ := S_X4_onePerson zn (d + 0) hN hC m15 hIm15 (by omega)
          refine zW.step (st1 := (86, [(some (.ref 3))], [.int (Int32.ofInt r32)], zk c m32)) ⟨[zc (some (.int (Int32.ofInt r32))) (zk c m32)], _, rfl, ⟨⟨⟨(Nat.lt_of_lt_of_le (Nat.le_of_ble_eq_true rfl) hN), (Nat.le_of_ble_eq_true rfl)⟩, hs32, (Nat.le_of_ble_eq_true rfl), Nat.le_refl _, Nat.le_refl _, Nat.le_refl _, Nat.le_refl _⟩, trivial⟩⟩ rfl ?_
          have f33 : (0 : Int) ≤ m32 4 3 ∧ m32 4 3 ≤ 5 := hIm32.1 4 3
          have f34 : (0 : Int) ≤ m32 4 4 ∧ m32 4 4 ≤ 6 := hIm32.1 4 4
          have f35 : (0 : Int) ≤ m32 8 185 ∧ m32 8 185 ≤ 10 := zr_c hIm32 zS_8
          have tk36 : zN m m32 := zN_tr tk19 kN_32
          exact zW.fin (zfin_i rfl rfl (z_narZ rfl (by omega))) ⟨r32, m32, rfl, rfl, hIm32, (by omega), tk36⟩
    · refine zW.step (st1 := (41, [(some (.ref 3))], [], zk c m)) (st2 := (41, [(some (.ref 3))], [], zk c m)) ⟨[zo, zo, zo, (false, 0, none, zh0, some (.inl (0, 188, .inl (fun j => Int32.ofInt (m 8 j))))), zo, zo], _, rfl, ⟨trivial, (Nat.lt_of_lt_of_le (Nat.le_of_ble_eq_true rfl) hN), trivial, ⟨zk_ra c m zA_8 (Nat.lt_of_lt_of_le (Nat.le_of_ble_eq_true rfl) hN), zi_in (by decide : (Int16.ofInt 185).toInt32 = Int32.ofInt 185) (by omega) (by omega) (by omega)⟩, trivial, zbf (fun q => b5 ((zi_le (by decide : (Int8.ofInt 6).toInt32 = Int32.ofInt 6) ((zk_rd (f := m 8) (by decide : (Int16.ofInt 185).toInt32 = Int32.ofInt 185) (⟨by decide, by decide⟩ : zR 185)).trans rfl : Int32.ofInt (m 8 ((Int16.ofInt 185).toInt32).toNatClampNeg) = Int32.ofInt (m 8 185)) (⟨by decide, by decide⟩ : zR 6) (by unfold zR; omega)).mp q)), trivial⟩⟩ rfl ?_
      refine zW.step (st1 := (47, [(some (.ref 3))], [.int ((Int8.ofInt 99).toInt32), .ref 1], zk c m)) (st2 := (47, [(some (.ref 3))], [.int (Int32.ofInt 99), .ref 1], zk c m)) ⟨[zo, zo, zo], _, rfl, ⟨trivial, (Nat.lt_of_lt_of_le (Nat.le_of_ble_eq_true rfl) hN), trivial, trivial⟩⟩ (z_steq rfl (z_c1 (z_vi (by decide : (Int8.ofInt 99).toInt32 = Int32.ofInt 99)) rfl) rfl) ?_
      obtain ⟨r37, m37, hs37, hIm37, z_37, l_37, a9_37, q_37, r9_37, p9_37, n9_37, e2_37, kN_37⟩ := S_X8_takes zn (d + 3) hN hC 99 m hIm (by omega) (by omega)
      refine zW.step (st1 := (50, [(some (.ref 3))], [.int (Int32.ofInt r37)], zk c m37)) ⟨[zc (some (.int (Int32.ofInt r37))) (zk c m37)], _, rfl, ⟨⟨⟨(Nat.lt_of_lt_of_le (Nat.le_of_ble_eq_true rfl) hN), (Nat.le_of_ble_eq_true rfl)⟩, hs37, (Nat.le_of_ble_eq_true rfl), Nat.le_refl _, Nat.le_refl _, Nat.le_refl _, Nat.le_refl _⟩, trivial⟩⟩ rfl ?_
      have f38 : (0 : Int) ≤ m37 4 3 ∧ m37 4 3 ≤ 5 := hIm37.1 4 3
      have f39 : (0 : Int) ≤ m37 4 4 ∧ m37 4 4 ≤ 6 := hIm37.1 4 4
      have f40 : (0 : Int) ≤ m37 8 185 ∧ m37 8 185 ≤ 10 := zr_c hIm37 zS_8
      have tk41 : zN m m37 := zN_tr zN_rf kN_37
      have tk42 : m37 4 3 = m 4 3 := (show _ = _ from r9_37).trans rfl
      have tk43 : m37 4 4 = m 4 4 := (show _ = _ from p9_37).trans rfl
      have tk44 : m37 8 185 = m 8 185 := (show _ = _ from n9_37).trans rfl
      by_cases b45 : r37 = 0
      · refine zW.step (st1 := (58, [(some (.ref 3))], [], zk c m37)) (st2 := (58, [(some (.ref 3))], [], zk c m37)) ⟨[zt], _, rfl, ⟨zbt ((zi_eq rfl (rfl : (0 : Int32) = Int32.ofInt 0) (by unfold zR; omega) (⟨by decide, by decide⟩ : zR 0)).mpr b45), trivial⟩⟩ rfl ?_
        by_cases b46 : 6 ≤ (m37 4 4)
        · refine zW.step (st1 := (87, [(some (.ref 3))], [], zk c m37)) (st2 := (87, [(some (.ref 3))], [], zk c m37)) ⟨[zo, zo, zo, zo, zt], _, rfl, ⟨trivial, (Nat.lt_of_lt_of_le (Nat.le_of_ble_eq_true rfl) hN), (Nat.lt_of_lt_of_le (Nat.le_of_ble_eq_true rfl) hN), trivial, zbt ((zi_le (by decide : (Int8.ofInt 6).toInt32 = Int32.ofInt 6) rfl (⟨by decide, by decide⟩ : zR 6) (by unfold zR; omega)).mpr b46), trivial⟩⟩ rfl ?_
          refine zW.step (st1 := (91, [(some (.ref 3))], [.ref 1], zk c m37)) (st2 := (91, [(some (.ref 3))], [.ref 1], zk c m37)) ⟨[zo, zo], _, rfl, ⟨trivial, (Nat.lt_of_lt_of_le (Nat.le_of_ble_eq_true rfl) hN), trivial⟩⟩ rfl ?_
          obtain ⟨r47, m47, hs47, hIm47, z_47, q_47, l_47, a9_47, r9_47, p9_47, n9_47, c3_47, e2_47, v9_47, kN_47⟩ := S_X8_next zn (d + 4) hN hC m37 hIm37
          refine zW.step (st1 := (94, [(some (.ref 3))], [.int (Int32.ofInt r47)], zk c m47)) ⟨[zc (some (.int (Int32.ofInt r47))) (zk c m47)], _, rfl, ⟨⟨⟨(Nat.lt_of_lt_of_le (Nat.le_of_ble_eq_true rfl) hN), (Nat.le_of_ble_eq_true rfl)⟩, hs47, (Nat.le_of_ble_eq_true rfl), Nat.le_refl _, Nat.le_refl _, Nat.le_refl _, Nat.le_refl _⟩, trivial⟩⟩ rfl ?_
          have f48 : (0 : Int) ≤ m47 4 3 ∧ m47 4 3 ≤ 5 := hIm47.1 4 3
          have f49 : (0 : Int) ≤ m47 4 4 ∧ m47 4 4 ≤ 6 := hIm47.1 4 4
          have f50 : (0 : Int) ≤ m47 8 185 ∧ m47 8 185 ≤ 10 := zr_c hIm47 zS_8
          have tk51 : zN m m47 := zN_tr tk41 kN_47
          have tk52 : m47 4 3 = m 4 3 := (show _ = _ from r9_47).trans tk42
          have tk53 : m47 4 4 = m 4 4 := (show _ = _ from p9_47).trans tk43
          have tk54 : m47 8 185 = m 8 185 := (show _ = _ from n9_47).trans tk44
          refine zW.step (st1 := (96, [(some (.ref 3))], [.int (Int32.ofInt 0)], zk c m47)) (st2 := (96, [(some (.ref 3))], [.int (Int32.ofInt 0)], zk c m47)) ⟨[zo, zo], _, rfl, ⟨trivial, trivial, trivial⟩⟩ rfl ?_
          exact zW.fin (zfin_i rfl rfl rfl) ⟨0, m47, rfl, rfl, hIm47, (by omega), tk51⟩
        · refine zW.step (st1 := (70, [(some (.ref 3))], [], zk c m37)) (st2 := (70, [(some (.ref 3))], [], zk c m37)) ⟨[zo, zo, zo, zo, zo], _, rfl, ⟨trivial, (Nat.lt_of_lt_of_le (Nat.le_of_ble_eq_true rfl) hN), (Nat.lt_of_lt_of_le (Nat.le_of_ble_eq_true rfl) hN), trivial, zbf (fun q => b46 ((zi_le (by decide : (Int8.ofInt 6).toInt32 = Int32.ofInt 6) rfl (⟨by decide, by decide⟩ : zR 6) (by unfold zR; omega)).mp q)), trivial⟩⟩ rfl ?_
          refine zW.step (st1 := (76, [(some (.ref 3))], [.int ((Int8.ofInt 112).toInt32), .ref 1], zk c m37)) (st2 := (76, [(some (.ref 3))], [.int (Int32.ofInt 112), .ref 1], zk c m37)) ⟨[zo, zo, zo], _, rfl, ⟨trivial, (Nat.lt_of_lt_of_le (Nat.le_of_ble_eq_true rfl) hN), trivial, trivial⟩⟩ (z_steq rfl (z_c1 (z_vi (by decide : (Int8.ofInt 112).toInt32 = Int32.ofInt 112)) rfl) rfl) ?_
          obtain ⟨r55, m55, hs55, hIm55, z_55, l_55, a9_55, q_55, r9_55, p9_55, n9_55, e2_55, kN_55⟩ := S_X8_takes zn (d + 3) hN hC 112 m37 hIm37 (by omega) (by omega)
          refine zW.step (st1 := (79, [(some (.ref 3))], [.int (Int32.ofInt r55)], zk c m55)) ⟨[zc (some (.int (Int32.ofInt r55))) (zk c m55)], _, rfl, ⟨⟨⟨(Nat.lt_of_lt_of_le (Nat.le_of_ble_eq_true rfl) hN), (Nat.le_of_ble_eq_true rfl)⟩, hs55, (Nat.le_of_ble_eq_true rfl), Nat.le_refl _, Nat.le_refl _, Nat.le_refl _, Nat.le_refl _⟩, trivial⟩⟩ rfl ?_
          have f56 : (0 : Int) ≤ m55 4 3 ∧ m55 4 3 ≤ 5 := hIm55.1 4 3
          have f57 : (0 : Int) ≤ m55 4 4 ∧ m55 4 4 ≤ 6 := hIm55.1 4 4
          have f58 : (0 : Int) ≤ m55 8 185 ∧ m55 8 185 ≤ 10 := zr_c hIm55 zS_8
          have tk59 : zN m m55 := zN_tr tk41 kN_55
          have tk60 : m55 4 3 = m 4 3 := (show _ = _ from r9_55).trans tk42
          have tk61 : m55 4 4 = m 4 4 := (show _ = _ from p9_55).trans tk43
          have tk62 : m55 8 185 = m 8 185 := (show _ = _ from n9_55).trans tk44
          by_cases b63 : r55 = 0
          · refine zW.step (st1 := (87, [(some (.ref 3))], [], zk c m55)) (st2 := (87, [(some (.ref 3))], [], zk c m55)) ⟨[zt], _, rfl, ⟨zbt ((zi_eq rfl (rfl : (0 : Int32) = Int32.ofInt 0) (by unfold zR; omega) (⟨by decide, by decide⟩ : zR 0)).mpr b63), trivial⟩⟩ rfl ?_
            refine zW.step (st1 := (91, [(some (.ref 3))], [.ref 1], zk c m55)) (st2 := (91, [(some (.ref 3))], [.ref 1], zk c m55)) ⟨[zo, zo], _, rfl, ⟨trivial, (Nat.lt_of_lt_of_le (Nat.le_of_ble_eq_true rfl) hN), trivial⟩⟩ rfl ?_
            obtain ⟨r64, m64, hs64, hIm64, z_64, q_64, l_64, a9_64, r9_64, p9_64, n9_64, c3_64, e2_64, v9_64, kN_64⟩ := S_X8_next zn (d + 4) hN hC m55 hIm55
            refine zW.step (st1 := (94, [(some (.ref 3))], [.int (Int32.ofInt r64)], zk c m64)) ⟨[zc (some (.int (Int32.ofInt r64))) (zk c m64)], _, rfl, ⟨⟨⟨(Nat.lt_of_lt_of_le (Nat.le_of_ble_eq_true rfl) hN), (Nat.le_of_ble_eq_true rfl)⟩, hs64, (Nat.le_of_ble_eq_true rfl), Nat.le_refl _, Nat.le_refl _, Nat.le_refl _, Nat.le_refl _⟩, trivial⟩⟩ rfl ?_
            have f65 : (0 : Int) ≤ m64 4 3 ∧ m64 4 3 ≤ 5 := hIm64.1 4 3
            have f66 : (0 : Int) ≤ m64 4 4 ∧ m64 4 4 ≤ 6 := hIm64.1 4 4
            have f67 : (0 : Int) ≤ m64 8 185 ∧ m64 8 185 ≤ 10 := zr_c hIm64 zS_8
            have tk68 : zN m m64 := zN_tr tk59 kN_64
            have tk69 : m64 4 3 = m 4 3 := (show _ = _ from r9_64).trans tk60
            have tk70 : m64 4 4 = m 4 4 := (show _ = _ from p9_64).trans tk61
            have tk71 : m64 8 185 = m 8 185 := (show _ = _ from n9_64).trans tk62
            refine zW.step (st1 := (96, [(some (.ref 3))], [.int (Int32.ofInt 0)], zk c m64)) (st2 := (96, [(some (.ref 3))], [.int (Int32.ofInt 0)], zk c m64)) ⟨[zo, zo], _, rfl, ⟨trivial, trivial, trivial⟩⟩ rfl ?_
            exact zW.fin (zfin_i rfl rfl rfl) ⟨0, m64, rfl, rfl, hIm64, (by omega), tk68⟩
          · refine zW.step (st1 := (82, [(some (.ref 3))], [], zk c m55)) (st2 := (82, [(some (.ref 3))], [], zk c m55)) ⟨[zo], _, rfl, ⟨zbf (fun q => b63 ((zi_eq rfl (rfl : (0 : Int32) = Int32.ofInt 0) (by unfold zR; omega) (⟨by decide, by decide⟩ : zR 0)).mp q)), trivial⟩⟩ rfl ?_
            refine zW.step (st1 := (83, [(some (.ref 3))], [.ref 3], zk c m55)) (st2 := (83, [(some (.ref 3))], [.ref 3], zk c m55)) ⟨[zo], _, rfl, ⟨trivial, trivial⟩⟩ rfl ?_
            obtain ⟨r72, m72, hs72, hIm72, z_72, kN_72⟩ := S_X4_onePerson zn (d + 0) hN hC m55 hIm55 (by omega)
            refine zW.step (st1 := (86, [(some (.ref 3))], [.int (Int32.ofInt r72)], zk c m72)) ⟨[zc (some (.int (Int32.ofInt r72))) (zk c m72)], _, rfl, ⟨⟨⟨(Nat.lt_of_lt_of_le (Nat.le_of_ble_eq_true rfl) hN), (Nat.le_of_ble_eq_true rfl)⟩, hs72, (Nat.le_of_ble_eq_true rfl), Nat.le_refl _, Nat.le_refl _, Nat.le_refl _, Nat.le_refl _⟩, trivial⟩⟩ rfl ?_
            have f73 : (0 : Int) ≤ m72 4 3 ∧ m72 4 3 ≤ 5 := hIm72.1 4 3
            have f74 : (0 : Int) ≤ m72 4 4 ∧ m72 4 4 ≤ 6 := hIm72.1 4 4
            have f75 : (0 : Int) ≤ m72 8 185 ∧ m72 8 185 ≤ 10 := zr_c hIm72 zS_8
            have tk76 : zN m m72 := zN_tr tk59 kN_72
            exact zW.fin (zfin_i rfl rfl (z_narZ rfl (by omega))) ⟨r72, m72, rfl, rfl, hIm72, (by omega), tk76⟩
      · refine zW.step (st1 := (53, [(some (.ref 3))], [], zk c m37)) (st2 := (53, [(some (.ref 3))], [], zk c m37)) ⟨[zo], _, rfl, ⟨zbf (fun q => b45 ((zi_eq rfl (rfl : (0 : Int32) = Int32.ofInt 0) (by unfold zR; omega) (⟨by decide, by decide⟩ : zR 0)).mp q)), trivial⟩⟩ rfl ?_
        refine zW.step (st1 := (54, [(some (.ref 3))], [.ref 3], zk c m37)) (st2 := (54, [(some (.ref 3))], [.ref 3], zk c m37)) ⟨[zo], _, rfl, ⟨trivial, trivial⟩⟩ rfl ?_
        obtain ⟨r77, m77, hs77, hIm77, z_77, kN_77⟩ := S_X4_oneClock zn (d + 0) hN hC m37 hIm37 (by omega)
        refine zW.step (st1 := (57, [(some (.ref 3))], [.int (Int32.ofInt r77)], zk c m77)) ⟨[zc (some (.int (Int32.ofInt r77))) (zk c m77)], _, rfl, ⟨⟨⟨(Nat.lt_of_lt_of_le (Nat.le_of_ble_eq_true rfl) hN), (Nat.le_of_ble_eq_true rfl)⟩, hs77, (Nat.le_of_ble_eq_true rfl), Nat.le_refl _, Nat.le_refl _, Nat.le_refl _, Nat.le_refl _⟩, trivial⟩⟩ rfl ?_
        have f78 : (0 : Int) ≤ m77 4 3 ∧ m77 4 3 ≤ 5 := hIm77.1 4 3
        have f79 : (0 : Int) ≤ m77 4 4 ∧ m77 4 4 ≤ 6 := hIm77.1 4 4
        have f80 : (0 : Int) ≤ m77 8 185 ∧ m77 8 185 ≤ 10 := zr_c hIm77 zS_8
        have tk81 : zN m m77 := zN_tr tk41 kN_77
        exact zW.fin (zfin_i rfl rfl (z_narZ rfl (by omega))) ⟨r77, m77, rfl, rfl, hIm77, (by omega), tk81⟩
  · refine zW.step (st1 := (11, [(some (.ref 3))], [], zk c m)) (st2 := (11, [(some (.ref 3))], [], zk c m)) ⟨[zo, zo, zo, zo, zo], _, rfl, ⟨trivial, (Nat.lt_of_lt_of_le (Nat.le_of_ble_eq_true rfl) hN), (Nat.lt_of_lt_of_le (Nat.le_of_ble_eq_true rfl) hN), trivial, zbf (fun q => b4 ((zi_le rfl rfl (⟨by decide, by decide⟩ : zR 5) (by unfold zR; omega)).mp q)), trivial⟩⟩ rfl ?_
    refine zW.step (st1 := (17, [(some (.ref 3))], [.int ((Int8.ofInt 114).toInt32), .ref 1], zk c m)) (st2 := (17, [(some (.ref 3))], [.int (Int32.ofInt 114), .ref 1], zk c m)) ⟨[zo, zo, zo], _, rfl, ⟨trivial, (Nat.lt_of_lt_of_le (Nat.le_of_ble_eq_true rfl) hN), trivial, trivial⟩⟩ (z_steq rfl (z_c1 (z_vi (by decide : (Int8.ofInt 114).toInt32 = Int32.ofInt 114)) rfl) rfl) ?_
    obtain ⟨r82, m82, hs82, hIm82, z_82, l_82, a9_82, q_82, r9_82, p9_82, n9_82, e2_82, kN_82⟩ := S_X8_takes zn (d + 3) hN hC 114 m hIm (by omega) (by omega)
    refine zW.step (st1 := (20, [(some (.ref 3))], [.int (Int32.ofInt r82)], zk c m82)) ⟨[zc (some (.int (Int32.ofInt r82))) (zk c m82)], _, rfl, ⟨⟨⟨(Nat.lt_of_lt_of_le (Nat.le_of_ble_eq_true rfl) hN), (Nat.le_of_ble_eq_true rfl)⟩, hs82, (Nat.le_of_ble_eq_true rfl), Nat.le_refl _, Nat.le_refl _, Nat.le_refl _, Nat.le_refl _⟩, trivial⟩⟩ rfl ?_
    have f83 : (0 : Int) ≤ m82 4 3 ∧ m82 4 3 ≤ 5 := hIm82.1 4 3
    have f84 : (0 : Int) ≤ m82 4 4 ∧ m82 4 4 ≤ 6 := hIm82.1 4 4
    have f85 : (0 : Int) ≤ m82 8 185 ∧ m82 8 185 ≤ 10 := zr_c hIm82 zS_8
    have tk86 : zN m m82 := zN_tr zN_rf kN_82
    have tk87 : m82 4 3 = m 4 3 := (show _ = _ from r9_82).trans rfl
    have tk88 : m82 4 4 = m 4 4 := (show _ = _ from p9_82).trans rfl
    have tk89 : m82 8 185 = m 8 185 := (show _ = _ from n9_82).trans rfl
    by_cases b90 : r82 = 0
    · refine zW.step (st1 := (28, [(some (.ref 3))], [], zk c m82)) (st2 := (28, [(some (.ref 3))], [], zk c m82)) ⟨[zt], _, rfl, ⟨zbt ((zi_eq rfl (rfl : (0 : Int32) = Int32.ofInt 0) (by unfold zR; omega) (⟨by decide, by decide⟩ : zR 0)).mpr b90), trivial⟩⟩ rfl ?_
      by_cases b91 : 6 ≤ (m82 8 185)
      · refine zW.step (st1 := (58, [(some (.ref 3))], [], zk c m82)) (st2 := (58, [(some (.ref 3))], [], zk c m82)) ⟨[zo, zo, zo, (false, 0, none, zh0, some (.inl (0, 188, .inl (fun j => Int32.ofInt (m82 8 j))))), zo, zt], _, rfl, ⟨trivial, (Nat.lt_of_lt_of_le (Nat.le_of_ble_eq_true rfl) hN), trivial, ⟨zk_ra c m82 zA_8 (Nat.lt_of_lt_of_le (Nat.le_of_ble_eq_true rfl) hN), zi_in (by decide : (Int16.ofInt 185).toInt32 = Int32.ofInt 185) (by omega) (by omega) (by omega)⟩, trivial, zbt ((zi_le (by decide : (Int8.ofInt 6).toInt32 = Int32.ofInt 6) ((zk_rd (f := m82 8) (by decide : (Int16.ofInt 185).toInt32 = Int32.ofInt 185) (⟨by decide, by decide⟩ : zR 185)).trans rfl : Int32.ofInt (m82 8 ((Int16.ofInt 185).toInt32).toNatClampNeg) = Int32.ofInt (m82 8 185)) (⟨by decide, by decide⟩ : zR 6) (by unfold zR; omega)).mpr b91), trivial⟩⟩ rfl ?_
        by_cases b92 : 6 ≤ (m82 4 4)
        · refine zW.step (st1 := (87, [(some (.ref 3))], [], zk c m82)) (st2 := (87, [(some (.ref 3))], [], zk c m82)) ⟨[zo, zo, zo, zo, zt], _, rfl, ⟨trivial, (Nat.lt_of_lt_of_le (Nat.le_of_ble_eq_true rfl) hN), (Nat.lt_of_lt_of_le (Nat.le_of_ble_eq_true rfl) hN), trivial, zbt ((zi_le (by decide : (Int8.ofInt 6).toInt32 = Int32.ofInt 6) rfl (⟨by decide, by decide⟩ : zR 6) (by unfold zR; omega)).mpr b92), trivial⟩⟩ rfl ?_
          refine zW.step (st1 := (91, [(some (.ref 3))], [.ref 1], zk c m82)) (st2 := (91, [(some (.ref 3))], [.ref 1], zk c m82)) ⟨[zo, zo], _, rfl, ⟨trivial, (Nat.lt_of_lt_of_le (Nat.le_of_ble_eq_true rfl) hN), trivial⟩⟩ rfl ?_
          obtain ⟨r93, m93, hs93, hIm93, z_93, q_93, l_93, a9_93, r9_93, p9_93, n9_93, c3_93, e2_93, v9_93, kN_93⟩ := S_X8_next zn (d + 4) hN hC m82 hIm82
          refine zW.step (st1 := (94, [(some (.ref 3))], [.int (Int32.ofInt r93)], zk c m93)) ⟨[zc (some (.int (Int32.ofInt r93))) (zk c m93)], _, rfl, ⟨⟨⟨(Nat.lt_of_lt_of_le (Nat.le_of_ble_eq_true rfl) hN), (Nat.le_of_ble_eq_true rfl)⟩, hs93, (Nat.le_of_ble_eq_true rfl), Nat.le_refl _, Nat.le_refl _, Nat.le_refl _, Nat.le_refl _⟩, trivial⟩⟩ rfl ?_
          have f94 : (0 : Int) ≤ m93 4 3 ∧ m93 4 3 ≤ 5 := hIm93.1 4 3
          have f95 : (0 : Int) ≤ m93 4 4 ∧ m93 4 4 ≤ 6 := hIm93.1 4 4
          have f96 : (0 : Int) ≤ m93 8 185 ∧ m93 8 185 ≤ 10 := zr_c hIm93 zS_8
          have tk97 : zN m m93 := zN_tr tk86 kN_93
          have tk98 : m93 4 3 = m 4 3 := (show _ = _ from r9_93).trans tk87
          have tk99 : m93 4 4 = m 4 4 := (show _ = _ from p9_93).trans tk88
          have tk100 : m93 8 185 = m 8 185 := (show _ = _ from n9_93).trans tk89
          refine zW.step (st1 := (96, [(some (.ref 3))], [.int (Int32.ofInt 0)], zk c m93)) (st2 := (96, [(some (.ref 3))], [.int (Int32.ofInt 0)], zk c m93)) ⟨[zo, zo], _, rfl, ⟨trivial, trivial, trivial⟩⟩ rfl ?_
          exact zW.fin (zfin_i rfl rfl rfl) ⟨0, m93, rfl, rfl, hIm93, (by omega), tk97⟩
        · refine zW.step (st1 := (70, [(some (.ref 3))], [], zk c m82)) (st2 := (70, [(some (.ref 3))], [], zk c m82)) ⟨[zo, zo, zo, zo, zo], _, rfl, ⟨trivial, (Nat.lt_of_lt_of_le (Nat.le_of_ble_eq_true rfl) hN), (Nat.lt_of_lt_of_le (Nat.le_of_ble_eq_true rfl) hN), trivial, zbf (fun q => b92 ((zi_le (by decide : (Int8.ofInt 6).toInt32 = Int32.ofInt 6) rfl (⟨by decide, by decide⟩ : zR 6) (by unfold zR; omega)).mp q)), trivial⟩⟩ rfl ?_
          refine zW.step (st1 := (76, [(some (.ref 3))], [.int ((Int8.ofInt 112).toInt32), .ref 1], zk c m82)) (st2 := (76, [(some (.ref 3))], [.int (Int32.ofInt 112), .ref 1], zk c m82)) ⟨[zo, zo, zo], _, rfl, ⟨trivial, (Nat.lt_of_lt_of_le (Nat.le_of_ble_eq_true rfl) hN), trivial, trivial⟩⟩ (z_steq rfl (z_c1 (z_vi (by decide : (Int8.ofInt 112).toInt32 = Int32.ofInt 112)) rfl) rfl) ?_
          obtain ⟨r101, m101, hs101, hIm101, z_101, l_101, a9_101, q_101, r9_101, p9_101, n9_101, e2_101, kN_101⟩ := S_X8_takes zn (d + 3) hN hC 112 m82 hIm82 (by omega) (by omega)
          refine zW.step (st1 := (79, [(some (.ref 3))], [.int (Int32.ofInt r101)], zk c m101)) ⟨[zc (some (.int (Int32.ofInt r101))) (zk c m101)], _, rfl, ⟨⟨⟨(Nat.lt_of_lt_of_le (Nat.le_of_ble_eq_true rfl) hN), (Nat.le_of_ble_eq_true rfl)⟩, hs101, (Nat.le_of_ble_eq_true rfl), Nat.le_refl _, Nat.le_refl _, Nat.le_refl _, Nat.le_refl _⟩, trivial⟩⟩ rfl ?_
          have f102 : (0 : Int) ≤ m101 4 3 ∧ m101 4 3 ≤ 5 := hIm101.1 4 3
          have f103 : (0 : Int) ≤ m101 4 4 ∧ m101 4 4 ≤ 6 := hIm101.1 4 4
          have f104 : (0 : Int) ≤ m101 8 185 ∧ m101 8 185 ≤ 10 := zr_c hIm101 zS_8
          have tk105 : zN m m101 := zN_tr tk86 kN_101
          have tk106 : m101 4 3 = m 4 3 := (show _ = _ from r9_101).trans tk87
          have tk107 : m101 4 4 = m 4 4 := (show _ = _ from p9_101).trans tk88
          have tk108 : m101 8 185 = m 8 185 := (show _ = _ from n9_101).trans tk89
          by_cases b109 : r101 = 0
          · refine zW.step (st1 := (87, [(some (.ref 3))], [], zk c m101)) (st2 := (87, [(some (.ref 3))], [], zk c m101)) ⟨[zt], _, rfl, ⟨zbt ((zi_eq rfl (rfl : (0 : Int32) = Int32.ofInt 0) (by unfold zR; omega) (⟨by decide, by decide⟩ : zR 0)).mpr b109), trivial⟩⟩ rfl ?_
            refine zW.step (st1 := (91, [(some (.ref 3))], [.ref 1], zk c m101)) (st2 := (91, [(some (.ref 3))], [.ref 1], zk c m101)) ⟨[zo, zo], _, rfl, ⟨trivial, (Nat.lt_of_lt_of_le (Nat.le_of_ble_eq_true rfl) hN), trivial⟩⟩ rfl ?_
            obtain ⟨r110, m110, hs110, hIm110, z_110, q_110, l_110, a9_110, r9_110, p9_110, n9_110, c3_110, e2_110, v9_110, kN_110⟩ := S_X8_next zn (d + 4) hN hC m101 hIm101
            refine zW.step (st1 := (94, [(some (.ref 3))], [.int (Int32.ofInt r110)], zk c m110)) ⟨[zc (some (.int (Int32.ofInt r110))) (zk c m110)], _, rfl, ⟨⟨⟨(Nat.lt_of_lt_of_le (Nat.le_of_ble_eq_true rfl) hN), (Nat.le_of_ble_eq_true rfl)⟩, hs110, (Nat.le_of_ble_eq_true rfl), Nat.le_refl _, Nat.le_refl _, Nat.le_refl _, Nat.le_refl _⟩, trivial⟩⟩ rfl ?_
            have f111 : (0 : Int) ≤ m110 4 3 ∧ m110 4 3 ≤ 5 := hIm110.1 4 3
            have f112 : (0 : Int) ≤ m110 4 4 ∧ m110 4 4 ≤ 6 := hIm110.1 4 4
            have f113 : (0 : Int) ≤ m110 8 185 ∧ m110 8 185 ≤ 10 := zr_c hIm110 zS_8
            have tk114 : zN m m110 := zN_tr tk105 kN_110
            have tk115 : m110 4 3 = m 4 3 := (show _ = _ from r9_110).trans tk106
            have tk116 : m110 4 4 = m 4 4 := (show _ = _ from p9_110).trans tk107
            have tk117 : m110 8 185 = m 8 185 := (show _ = _ from n9_110).trans tk108
            refine zW.step (st1 := (96, [(some (.ref 3))], [.int (Int32.ofInt 0)], zk c m110)) (st2 := (96, [(some (.ref 3))], [.int (Int32.ofInt 0)], zk c m110)) ⟨[zo, zo], _, rfl, ⟨trivial, trivial, trivial⟩⟩ rfl ?_
            exact zW.fin (zfin_i rfl rfl rfl) ⟨0, m110, rfl, rfl, hIm110, (by omega), tk114⟩
          · refine zW.step (st1 := (82, [(some (.ref 3))], [], zk c m101)) (st2 := (82, [(some (.ref 3))], [], zk c m101)) ⟨[zo], _, rfl, ⟨zbf (fun q => b109 ((zi_eq rfl (rfl : (0 : Int32) = Int32.ofInt 0) (by unfold zR; omega) (⟨by decide, by decide⟩ : zR 0)).mp q)), trivial⟩⟩ rfl ?_
            refine zW.step (st1 := (83, [(some (.ref 3))], [.ref 3], zk c m101)) (st2 := (83, [(some (.ref 3))], [.ref 3], zk c m101)) ⟨[zo], _, rfl, ⟨trivial, trivial⟩⟩ rfl ?_
            obtain ⟨r118, m118, hs118, hIm118, z_118, kN_118⟩ := S_X4_onePerson zn (d + 0) hN hC m101 hIm101 (by omega)
            refine zW.step (st1 := (86, [(some (.ref 3))], [.int (Int32.ofInt r118)], zk c m118)) ⟨[zc (some (.int (Int32.ofInt r118))) (zk c m118)], _, rfl, ⟨⟨⟨(Nat.lt_of_lt_of_le (Nat.le_of_ble_eq_true rfl) hN), (Nat.le_of_ble_eq_true rfl)⟩, hs118, (Nat.le_of_ble_eq_true rfl), Nat.le_refl _, Nat.le_refl _, Nat.le_refl _, Nat.le_refl _⟩, trivial⟩⟩ rfl ?_
            have f119 : (0 : Int) ≤ m118 4 3 ∧ m118 4 3 ≤ 5 := hIm118.1 4 3
            have f120 : (0 : Int) ≤ m118 4 4 ∧ m118 4 4 ≤ 6 := hIm118.1 4 4
            have f121 : (0 : Int) ≤ m118 8 185 ∧ m118 8 185 ≤ 10 := zr_c hIm118 zS_8
            have tk122 : zN m m118 := zN_tr tk105 kN_118
            exact zW.fin (zfin_i rfl rfl (z_narZ rfl (by omega))) ⟨r118, m118, rfl, rfl, hIm118, (by omega), tk122⟩
      · refine zW.step (st1 := (41, [(some (.ref 3))], [], zk c m82)) (st2 := (41, [(some (.ref 3))], [], zk c m82)) ⟨[zo, zo, zo, (false, 0, none, zh0, some (.inl (0, 188, .inl (fun j => Int32.ofInt (m82 8 j))))), zo, zo], _, rfl, ⟨trivial, (Nat.lt_of_lt_of_le (Nat.le_of_ble_eq_true rfl) hN), trivial, ⟨zk_ra c m82 zA_8 (Nat.lt_of_lt_of_le (Nat.le_of_ble_eq_true rfl) hN), zi_in (by decide : (Int16.ofInt 185).toInt32 = Int32.ofInt 185) (by omega) (by omega) (by omega)⟩, trivial, zbf (fun q => b91 ((zi_le (by decide : (Int8.ofInt 6).toInt32 = Int32.ofInt 6) ((zk_rd (f := m82 8) (by decide : (Int16.ofInt 185).toInt32 = Int32.ofInt 185) (⟨by decide, by decide⟩ : zR 185)).trans rfl : Int32.ofInt (m82 8 ((Int16.ofInt 185).toInt32).toNatClampNeg) = Int32.ofInt (m82 8 185)) (⟨by decide, by decide⟩ : zR 6) (by unfold zR; omega)).mp q)), trivial⟩⟩ rfl ?_
        refine zW.step (st1 := (47, [(some (.ref 3))], [.int ((Int8.ofInt 99).toInt32), .ref 1], zk c m82)) (st2 := (47, [(some (.ref 3))], [.int (Int32.ofInt 99), .ref 1], zk c m82)) ⟨[zo, zo, zo], _, rfl, ⟨trivial, (Nat.lt_of_lt_of_le (Nat.le_of_ble_eq_true rfl) hN), trivial, trivial⟩⟩ (z_steq rfl (z_c1 (z_vi (by decide : (Int8.ofInt 99).toInt32 = Int32.ofInt 99)) rfl) rfl) ?_
        obtain ⟨r123, m123, hs123, hIm123, z_123, l_123, a9_123, q_123, r9_123, p9_123, n9_123, e2_123, kN_123⟩ := S_X8_takes zn (d + 3) hN hC 99 m82 hIm82 (by omega) (by omega)
        refine zW.step (st1 := (50, [(some (.ref 3))], [.int (Int32.ofInt r123)], zk c m123)) ⟨[zc (some (.int (Int32.ofInt r123))) (zk c m123)], _, rfl, ⟨⟨⟨(Nat.lt_of_lt_of_le (Nat.le_of_ble_eq_true rfl) hN), (Nat.le_of_ble_eq_true rfl)⟩, hs123, (Nat.le_of_ble_eq_true rfl), Nat.le_refl _, Nat.le_refl _, Nat.le_refl _, Nat.le_refl _⟩, trivial⟩⟩ rfl ?_
        have f124 : (0 : Int) ≤ m123 4 3 ∧ m123 4 3 ≤ 5 := hIm123.1 4 3
        have f125 : (0 : Int) ≤ m123 4 4 ∧ m123 4 4 ≤ 6 := hIm123.1 4 4
        have f126 : (0 : Int) ≤ m123 8 185 ∧ m123 8 185 ≤ 10 := zr_c hIm123 zS_8
        have tk127 : zN m m123 := zN_tr tk86 kN_123
        have tk128 : m123 4 3 = m 4 3 := (show _ = _ from r9_123).trans tk87
        have tk129 : m123 4 4 = m 4 4 := (show _ = _ from p9_123).trans tk88
        have tk130 : m123 8 185 = m 8 185 := (show _ = _ from n9_123).trans tk89
        by_cases b131 : r123 = 0
        · refine zW.step (st1 := (58, [(some (.ref 3))], [], zk c m123)) (st2 := (58, [(some (.ref 3))], [], zk c m123)) ⟨[zt], _, rfl, ⟨zbt ((zi_eq rfl (rfl : (0 : Int32) = Int32.ofInt 0) (by unfold zR; omega) (⟨by decide, by decide⟩ : zR 0)).mpr b131), trivial⟩⟩ rfl ?_
          by_cases b132 : 6 ≤ (m123 4 4)
          · refine zW.step (st1 := (87, [(some (.ref 3))], [], zk c m123)) (st2 := (87, [(some (.ref 3))], [], zk c m123)) ⟨[zo, zo, zo, zo, zt], _, rfl, ⟨trivial, (Nat.lt_of_lt_of_le (Nat.le_of_ble_eq_true rfl) hN), (Nat.lt_of_lt_of_le (Nat.le_of_ble_eq_true rfl) hN), trivial, zbt ((zi_le (by decide : (Int8.ofInt 6).toInt32 = Int32.ofInt 6) rfl (⟨by decide, by decide⟩ : zR 6) (by unfold zR; omega)).mpr b132), trivial⟩⟩ rfl ?_
            refine zW.step (st1 := (91, [(some (.ref 3))], [.ref 1], zk c m123)) (st2 := (91, [(some (.ref 3))], [.ref 1], zk c m123)) ⟨[zo, zo], _, rfl, ⟨trivial, (Nat.lt_of_lt_of_le (Nat.le_of_ble_eq_true rfl) hN), trivial⟩⟩ rfl ?_
            obtain ⟨r133, m133, hs133, hIm133, z_133, q_133, l_133, a9_133, r9_133, p9_133, n9_133, c3_133, e2_133, v9_133, kN_133⟩ := S_X8_next zn (d + 4) hN hC m123 hIm123
            refine zW.step (st1 := (94, [(some (.ref 3))], [.int (Int32.ofInt r133)], zk c m133)) ⟨[zc (some (.int (Int32.ofInt r133))) (zk c m133)], _, rfl, ⟨⟨⟨(Nat.lt_of_lt_of_le (Nat.le_of_ble_eq_true rfl) hN), (Nat.le_of_ble_eq_true rfl)⟩, hs133, (Nat.le_of_ble_eq_true rfl), Nat.le_refl _, Nat.le_refl _, Nat.le_refl _, Nat.le_refl _⟩, trivial⟩⟩ rfl ?_
            have f134 : (0 : Int) ≤ m133 4 3 ∧ m133 4 3 ≤ 5 := hIm133.1 4 3
            have f135 : (0 : Int) ≤ m133 4 4 ∧ m133 4 4 ≤ 6 := hIm133.1 4 4
            have f136 : (0 : Int) ≤ m133 8 185 ∧ m133 8 185 ≤ 10 := zr_c hIm133 zS_8
            have tk137 : zN m m133 := zN_tr tk127 kN_133
            have tk138 : m133 4 3 = m 4 3 := (show _ = _ from r9_133).trans tk128
            have tk139 : m133 4 4 = m 4 4 := (show _ = _ from p9_133).trans tk129
            have tk140 : m133 8 185 = m 8 185 := (show _ = _ from n9_133).trans tk130
            refine zW.step (st1 := (96, [(some (.ref 3))], [.int (Int32.ofInt 0)], zk c m133)) (st2 := (96, [(some (.ref 3))], [.int (Int32.ofInt 0)], zk c m133)) ⟨[zo, zo], _, rfl, ⟨trivial, trivial, trivial⟩⟩ rfl ?_
            exact zW.fin (zfin_i rfl rfl rfl) ⟨0, m133, rfl, rfl, hIm133, (by omega), tk137⟩
          · refine zW.step (st1 := (70, [(some (.ref 3))], [], zk c m123)) (st2 := (70, [(some (.ref 3))], [], zk c m123)) ⟨[zo, zo, zo, zo, zo], _, rfl, ⟨trivial, (Nat.lt_of_lt_of_le (Nat.le_of_ble_eq_true rfl) hN), (Nat.lt_of_lt_of_le (Nat.le_of_ble_eq_true rfl) hN), trivial, zbf (fun q => b132 ((zi_le (by decide : (Int8.ofInt 6).toInt32 = Int32.ofInt 6) rfl (⟨by decide, by decide⟩ : zR 6) (by unfold zR; omega)).mp q)), trivial⟩⟩ rfl ?_
            refine zW.step (st1 := (76, [(some (.ref 3))], [.int ((Int8.ofInt 112).toInt32), .ref 1], zk c m123)) (st2 := (76, [(some (.ref 3))], [.int (Int32.ofInt 112), .ref 1], zk c m123)) ⟨[zo, zo, zo], _, rfl, ⟨trivial, (Nat.lt_of_lt_of_le (Nat.le_of_ble_eq_true rfl) hN), trivial, trivial⟩⟩ (z_steq rfl (z_c1 (z_vi (by decide : (Int8.ofInt 112).toInt32 = Int32.ofInt 112)) rfl) rfl) ?_
            obtain ⟨r141, m141, hs141, hIm141, z_141, l_141, a9_141, q_141, r9_141, p9_141, n9_141, e2_141, kN_141⟩ := S_X8_takes zn (d + 3) hN hC 112 m123 hIm123 (by omega) (by omega)
            refine zW.step (st1 := (79, [(some (.ref 3))], [.int (Int32.ofInt r141)], zk c m141)) ⟨[zc (some (.int (Int32.ofInt r141))) (zk c m141)], _, rfl, ⟨⟨⟨(Nat.lt_of_lt_of_le (Nat.le_of_ble_eq_true rfl) hN), (Nat.le_of_ble_eq_true rfl)⟩, hs141, (Nat.le_of_ble_eq_true rfl), Nat.le_refl _, Nat.le_refl _, Nat.le_refl _, Nat.le_refl _⟩, trivial⟩⟩ rfl ?_
            have f142 : (0 : Int) ≤ m141 4 3 ∧ m141 4 3 ≤ 5 := hIm141.1 4 3
            have f143 : (0 : Int) ≤ m141 4 4 ∧ m141 4 4 ≤ 6 := hIm141.1 4 4
            have f144 : (0 : Int) ≤ m141 8 185 ∧ m141 8 185 ≤ 10 := zr_c hIm141 zS_8
            have tk145 : zN m m141 := zN_tr tk127 kN_141
            have tk146 : m141 4 3 = m 4 3 := (show _ = _ from r9_141).trans tk128
            have tk147 : m141 4 4 = m 4 4 := (show _ = _ from p9_141).trans tk129
            have tk148 : m141 8 185 = m 8 185 := (show _ = _ from n9_141).trans tk130
            by_cases b149 : r141 = 0
            · refine zW.step (st1 := (87, [(some (.ref 3))], [], zk c m141)) (st2 := (87, [(some (.ref 3))], [], zk c m141)) ⟨[zt], _, rfl, ⟨zbt ((zi_eq rfl (rfl : (0 : Int32) = Int32.ofInt 0) (by unfold zR; omega) (⟨by decide, by decide⟩ : zR 0)).mpr b149), trivial⟩⟩ rfl ?_
              refine zW.step (st1 := (91, [(some (.ref 3))], [.ref 1], zk c m141)) (st2 := (91, [(some (.ref 3))], [.ref 1], zk c m141)) ⟨[zo, zo], _, rfl, ⟨trivial, (Nat.lt_of_lt_of_le (Nat.le_of_ble_eq_true rfl) hN), trivial⟩⟩ rfl ?_
              obtain ⟨r150, m150, hs150, hIm150, z_150, q_150, l_150, a9_150, r9_150, p9_150, n9_150, c3_150, e2_150, v9_150, kN_150⟩ := S_X8_next zn (d + 4) hN hC m141 hIm141
              refine zW.step (st1 := (94, [(some (.ref 3))], [.int (Int32.ofInt r150)], zk c m150)) ⟨[zc (some (.int (Int32.ofInt r150))) (zk c m150)], _, rfl, ⟨⟨⟨(Nat.lt_of_lt_of_le (Nat.le_of_ble_eq_true rfl) hN), (Nat.le_of_ble_eq_true rfl)⟩, hs150, (Nat.le_of_ble_eq_true rfl), Nat.le_refl _, Nat.le_refl _, Nat.le_refl _, Nat.le_refl _⟩, trivial⟩⟩ rfl ?_
              have f151 : (0 : Int) ≤ m150 4 3 ∧ m150 4 3 ≤ 5 := hIm150.1 4 3
              have f152 : (0 : Int) ≤ m150 4 4 ∧ m150 4 4 ≤ 6 := hIm150.1 4 4
              have f153 : (0 : Int) ≤ m150 8 185 ∧ m150 8 185 ≤ 10 := zr_c hIm150 zS_8
              have tk154 : zN m m150 := zN_tr tk145 kN_150
              have tk155 : m150 4 3 = m 4 3 := (show _ = _ from r9_150).trans tk146
              have tk156 : m150 4 4 = m 4 4 := (show _ = _ from p9_150).trans tk147
              have tk157 : m150 8 185 = m 8 185 := (show _ = _ from n9_150).trans tk148
              refine zW.step (st1 := (96, [(some (.ref 3))], [.int (Int32.ofInt 0)], zk c m150)) (st2 := (96, [(some (.ref 3))], [.int (Int32.ofInt 0)], zk c m150)) ⟨[zo, zo], _, rfl, ⟨trivial, trivial, trivial⟩⟩ rfl ?_
              exact zW.fin (zfin_i rfl rfl rfl) ⟨0, m150, rfl, rfl, hIm150, (by omega), tk154⟩
            · refine zW.step (st1 := (82, [(some (.ref 3))], [], zk c m141)) (st2 := (82, [(some (.ref 3))], [], zk c m141)) ⟨[zo], _, rfl, ⟨zbf (fun q => b149 ((zi_eq rfl (rfl : (0 : Int32) = Int32.ofInt 0) (by unfold zR; omega) (⟨by decide, by decide⟩ : zR 0)).mp q)), trivial⟩⟩ rfl ?_
              refine zW.step (st1 := (83, [(some (.ref 3))], [.ref 3], zk c m141)) (st2 := (83, [(some (.ref 3))], [.ref 3], zk c m141)) ⟨[zo], _, rfl, ⟨trivial, trivial⟩⟩ rfl ?_
              obtain ⟨r158, m158, hs158, hIm158, z_158, kN_158⟩ := S_X4_onePerson zn (d + 0) hN hC m141 hIm141 (by omega)
              refine zW.step (st1 := (86, [(some (.ref 3))], [.int (Int32.ofInt r158)], zk c m158)) ⟨[zc (some (.int (Int32.ofInt r158))) (zk c m158)], _, rfl, ⟨⟨⟨(Nat.lt_of_lt_of_le (Nat.le_of_ble_eq_true rfl) hN), (Nat.le_of_ble_eq_true rfl)⟩, hs158, (Nat.le_of_ble_eq_true rfl), Nat.le_refl _, Nat.le_refl _, Nat.le_refl _, Nat.le_refl _⟩, trivial⟩⟩ rfl ?_
              have f159 : (0 : Int) ≤ m158 4 3 ∧ m158 4 3 ≤ 5 := hIm158.1 4 3
              have f160 : (0 : Int) ≤ m158 4 4 ∧ m158 4 4 ≤ 6 := hIm158.1 4 4
              have f161 : (0 : Int) ≤ m158 8 185 ∧ m158 8 185 ≤ 10 := zr_c hIm158 zS_8
              have tk162 : zN m m158 := zN_tr tk145 kN_158
              exact zW.fin (zfin_i rfl rfl (z_narZ rfl (by omega))) ⟨r158, m158, rfl, rfl, hIm158, (by omega), tk162⟩
        · refine zW.step (st1 := (53, [(some (.ref 3))], [], zk c m123)) (st2 := (53, [(some (.ref 3))], [], zk c m123)) ⟨[zo], _, rfl, ⟨zbf (fun q => b131 ((zi_eq rfl (rfl : (0 : Int32) = Int32.ofInt 0) (by unfold zR; omega) (⟨by decide, by decide⟩ : zR 0)).mp q)), trivial⟩⟩ rfl ?_
          refine zW.step (st1 := (54, [(some (.ref 3))], [.ref 3], zk c m123)) (st2 := (54, [(some (.ref 3))], [.ref 3], zk c m123)) ⟨[zo], _, rfl, ⟨trivial, trivial⟩⟩ rfl ?_
          obtain ⟨r163, m163, hs163, hIm163, z_163, kN_163⟩ := S_X4_oneClock zn (d + 0) hN hC m123 hIm123 (by omega)
          refine zW.step (st1 := (57, [(some (.ref 3))], [.int (Int32.ofInt r163)], zk c m163)) ⟨[zc (some (.int (Int32.ofInt r163))) (zk c m163)], _, rfl, ⟨⟨⟨(Nat.lt_of_lt_of_le (Nat.le_of_ble_eq_true rfl) hN), (Nat.le_of_ble_eq_true rfl)⟩, hs163, (Nat.le_of_ble_eq_true rfl), Nat.le_refl _, Nat.le_refl _, Nat.le_refl _, Nat.le_refl _⟩, trivial⟩⟩ rfl ?_
          have f164 : (0 : Int) ≤ m163 4 3 ∧ m163 4 3 ≤ 5 := hIm163.1 4 3
          have f165 : (0 : Int) ≤ m163 4 4 ∧ m163 4 4 ≤ 6 := hIm163.1 4 4
          have f166 : (0 : Int) ≤ m163 8 185 ∧ m163 8 185 ≤ 10 := zr_c hIm163 zS_8
          have tk167 : zN m m163 := zN_tr tk127 kN_163
          exact zW.fin (zfin_i rfl rfl (z_narZ rfl (by omega))) ⟨r163, m163, rfl, rfl, hIm163, (by omega), tk167⟩
    · refine zW.step (st1 := (23, [(some (.ref 3))], [], zk c m82)) (st2 := (23, [(some (.ref 3))], [], zk c m82)) ⟨[zo], _, rfl, ⟨zbf (fun q => b90 ((zi_eq rfl (rfl : (0 : Int32) = Int32.ofInt 0) (by unfold zR; omega) (⟨by decide, by decide⟩ : zR 0)).mp q)), trivial⟩⟩ rfl ?_
      refine zW.step (st1 := (24, [(some (.ref 3))], [.ref 3], zk c m82)) (st2 := (24, [(some (.ref 3))], [.ref 3], zk c m82)) ⟨[zo], _, rfl, ⟨trivial, trivial⟩⟩ rfl ?_
      obtain ⟨r168, m168, hs168, hIm168, z_168, kN_168⟩ := S_X4_room zn (d + 0) hN hC m82 hIm82 (by omega)
      refine zW.step (st1 := (27, [(some (.ref 3))], [.int (Int32.ofInt r168)], zk c m168)) ⟨[zc (some (.int (Int32.ofInt r168))) (zk c m168)], _, rfl, ⟨⟨⟨(Nat.lt_of_lt_of_le (Nat.le_of_ble_eq_true rfl) hN), (Nat.le_of_ble_eq_true rfl)⟩, hs168, (Nat.le_of_ble_eq_true rfl), Nat.le_refl _, Nat.le_refl _, Nat.le_refl _, Nat.le_refl _⟩, trivial⟩⟩ rfl ?_
      have f169 : (0 : Int) ≤ m168 4 3 ∧ m168 4 3 ≤ 5 := hIm168.1 4 3
      have f170 : (0 : Int) ≤ m168 4 4 ∧ m168 4 4 ≤ 6 := hIm168.1 4 4
      have f171 : (0 : Int) ≤ m168 8 185 ∧ m168 8 185 ≤ 10 := zr_c hIm168 zS_8
      have tk172 : zN m m168 := zN_tr tk86 kN_168
      exact zW.fin (zfin_i rfl rfl (z_narZ rfl (by omega))) ⟨r168, m168, rfl, rfl, hIm168, (by omega), tk172⟩

set_option maxRecDepth 100000 in
set_option maxHeartbeats 4000000 in
theorem L_X4_read_34 (zn : Bool) (d : Nat) {c : Nat × Nat} {mM : zM} (hN : 107 ≤ c.1) (hC : c.1 < z_RO) (t9 : Int) (ht : 0 ≤ t9 ∧ t9 ≤ 999999000) (m0 : zM) (Q : Option Value → z_H → Prop) (KR : ∀ v h1, (fun v h1 => ∃ (r : Int) (m1 : zM), v = some (.int (Int32.ofInt r)) ∧ h1 = zk c m1 ∧ zI c mM m1 ∧ (-2147483648 ≤ r ∧ r ≤ 2147483647) ∧ zH (t9) m1) v h1 → Q v h1) (K : ∀ (x1 : Int) (m : zM), zI c mM m → 0 ≤ x1 ∧ x1 ≤ 240 → zH (t9) m → zW zn (d + 7) 79 c (77, [(some (.ref 3)), (some (.int (Int32.ofInt x1)))], [], zk c m) Q) :
    ∀ (w : Nat) (x1 : Int) (m : zM), zI c mM m → 0 ≤ x1 ∧ x1 ≤ 240 → zH (t9) m → w = (240 - x1).toNat → zW zn (d + 7) 79 c (34, [(some (.ref 3)), (some (.int (Int32.ofInt x1)))], [], zk c m) Q := by
  intro w
  induction w using Nat.strongRecOn with | _ w ih => ?_
  intro x1 m hIm i1 tH hw
  by_cases b1 : 240 ≤ x1
  · refine zW.step (st1 := (77, [(some (.ref 3)), (some (.int (Int32.ofInt x1)))], [], zk c m)) (st2 := (77, [(some (.ref 3)), (some (.int (Int32.ofInt x1)))], [], zk c m)) ⟨[zo, zo, zt], _, rfl, ⟨trivial, trivial, zbt ((zi_le (by decide : (Int16.ofInt 240).toInt32 = Int32.ofInt 240) rfl (⟨by decide, by decide⟩ : zR 240) (by unfold zR; omega)).mpr b1), trivial⟩⟩ rfl ?_
    exact K x1 m hIm (by omega) (zH_le tH (by omega))
  · refine zW.step (st1 := (41, [(some (.ref 3)), (some (.int (Int32.ofInt x1)))], [], zk c m)) (st2 := (41, [(some (.ref 3)), (some (.int (Int32.ofInt x1)))], [], zk c m)) ⟨[zo, zo, zo], _, rfl, ⟨trivial, trivial, zbf (fun q => b1 ((zi_le (by decide : (Int16.ofInt 240).toInt32 = Int32.ofInt 240) rfl (⟨by decide, by decide⟩ : zR 240) (by unfold zR; omega)).mp q)), trivial⟩⟩ rfl ?_
    refine zW.step (st1 := (42, [(some (.ref 3)), (some (.int (Int32.ofInt x1)))], [.ref 3], zk c m)) (st2 := (42, [(some (.ref 3)), (some (.int (Int32.ofInt x1)))], [.ref 3], zk c m)) ⟨[zo], _, rfl, ⟨trivial, trivial⟩⟩ rfl ?_
    obtain ⟨r2, m2, hs2, hIm2, z_2, kN_2⟩ := S_X4_clause zn (d + 0) hN hC m hIm
    refine zW.step (st1 := (45, [(some (.ref 3)), (some (.int (Int32.ofInt x1)))], [.int (Int32.ofInt r2)], zk c m2)) ⟨[zc (some (.int (Int32.ofInt r2))) (zk c m2)], _, rfl, ⟨⟨⟨(Nat.lt_of_lt_of_le (Nat.le_of_ble_eq_true rfl) hN), (Nat.le_of_ble_eq_true rfl)⟩, hs2, (Nat.le_of_ble_eq_true rfl), Nat.le_refl _, Nat.le_refl _, Nat.le_refl _, Nat.le_refl _⟩, trivial⟩⟩ rfl ?_
    have tk3 : zH t9 m2 := zH_N tH kN_2
    by_cases b4 : r2 = 0
    · refine zW.step (st1 := (48, [(some (.ref 3)), (some (.int (Int32.ofInt x1)))], [], zk c m2)) (st2 := (48, [(some (.ref 3)), (some (.int (Int32.ofInt x1)))], [], zk c m2)) ⟨[zo], _, rfl, ⟨zbf (fun q => q ((zi_eq rfl (rfl : (0 : Int32) = Int32.ofInt 0) (by unfold zR; omega) (⟨by decide, by decide⟩ : zR 0)).mpr b4)), trivial⟩⟩ rfl ?_
      have f5 : (0 : Int) ≤ m2 1 2 ∧ m2 1 2 ≤ 240 := hIm2.1 1 2
      refine zW.step (st1 := (55, [(some (.ref 3)), (some (.int (Int32.ofInt x1)))], [.int (Int32.ofInt (m2 1 2))], zk c m2)) (st2 := (55, [(some (.ref 3)), (some (.int (Int32.ofInt x1)))], [.int (Int32.ofInt (m2 1 2))], zk c m2)) ⟨[zo, zo, zo], _, rfl, ⟨trivial, (Nat.lt_of_lt_of_le (Nat.le_of_ble_eq_true rfl) hN), (Nat.lt_of_lt_of_le (Nat.le_of_ble_eq_true rfl) hN), trivial⟩⟩ rfl ?_
      exact zW.fin (zfin_i rfl rfl rfl) (KR _ _ ⟨m2 1 2, m2, rfl, rfl, hIm2, (by omega), (zH_le tk3 (by omega))⟩)
    · refine zW.step (st1 := (56, [(some (.ref 3)), (some (.int (Int32.ofInt x1)))], [], zk c m2)) (st2 := (56, [(some (.ref 3)), (some (.int (Int32.ofInt x1)))], [], zk c m2)) ⟨[zt], _, rfl, ⟨zbt (fun q => b4 ((zi_eq rfl (rfl : (0 : Int32) = Int32.ofInt 0) (by unfold zR; omega) (⟨by decide, by decide⟩ : zR 0)).mp q)), trivial⟩⟩ rfl ?_
      refine zW.step (st1 := (62, [(some (.ref 3)), (some (.int (Int32.ofInt x1)))], [.int ((Int8.ofInt 59).toInt32), .ref 1], zk c m2)) (st2 := (62, [(some (.ref 3)), (some (.int (Int32.ofInt x1)))], [.int (Int32.ofInt 59), .ref 1], zk c m2)) ⟨[zo, zo, zo], _, rfl, ⟨trivial, (Nat.lt_of_lt_of_le (Nat.le_of_ble_eq_true rfl) hN), trivial, trivial⟩⟩ (z_steq rfl (z_c1 (z_vi (by decide : (Int8.ofInt 59).toInt32 = Int32.ofInt 59)) rfl) rfl) ?_
      obtain ⟨r6, m6, hs6, hIm6, z_6, l_6, a9_6, q_6, r9_6, p9_6, n9_6, e2_6, kN_6⟩ := S_X8_takes zn (d + 4) hN hC 59 m2 hIm2 (by omega) (by omega)
      refine zW.step (st1 := (65, [(some (.ref 3)), (some (.int (Int32.ofInt x1)))], [.int (Int32.ofInt r6)], zk c m6)) ⟨[zc (some (.int (Int32.ofInt r6))) (zk c m6)], _, rfl, ⟨⟨⟨(Nat.lt_of_lt_of_le (Nat.le_of_ble_eq_true rfl) hN), (Nat.le_of_ble_eq_true rfl)⟩, hs6, (Nat.le_of_ble_eq_true rfl), Nat.le_refl _, Nat.le_refl _, Nat.le_refl _, Nat.le_refl _⟩, trivial⟩⟩ rfl ?_
      have tk7 : zH t9 m6 := zH_N tk3 kN_6
      by_cases b8 : r6 = 0
      · refine zW.step (st1 := (68, [(some (.ref 3)), (some (.int (Int32.ofInt x1)))], [], zk c m6)) (st2 := (68, [(some (.ref 3)), (some (.int (Int32.ofInt x1)))], [], zk c m6)) ⟨[zo], _, rfl, ⟨zbf (fun q => q ((zi_eq rfl (rfl : (0 : Int32) = Int32.ofInt 0) (by unfold zR; omega) (⟨by decide, by decide⟩ : zR 0)).mpr b8)), trivial⟩⟩ rfl ?_
        refine zW.step (st1 := (77, [(some (.ref 3)), (some (.int (Int32.ofInt x1)))], [], zk c m6)) (st2 := (77, [(some (.ref 3)), (some (.int (Int32.ofInt x1)))], [], zk c m6)) ⟨[zo], _, rfl, ⟨trivial, trivial⟩⟩ rfl ?_
        exact K x1 m6 hIm6 (by omega) (zH_le tk7 (by omega))
      · refine zW.step (st1 := (71, [(some (.ref 3)), (some (.int (Int32.ofInt x1)))], [], zk c m6)) (st2 := (71, [(some (.ref 3)), (some (.int (Int32.ofInt x1)))], [], zk c m6)) ⟨[zt], _, rfl, ⟨zbt (fun q => b8 ((zi_eq rfl (rfl : (0 : Int32) = Int32.ofInt 0) (by unfold zR; omega) (⟨by decide, by decide⟩ : zR 0)).mp q)), trivial⟩⟩ rfl ?_
        refine zW.step (st1 := (34, [(some (.ref 3)), (some (.int ((Int32.ofInt x1) + Int32.ofInt 1)))], [], zk c m6)) (st2 := (34, [(some (.ref 3)), (some (.int (Int32.ofInt (x1 + 1))))], [], zk c m6)) ⟨[zo, zo], _, rfl, ⟨trivial, trivial, trivial⟩⟩ (z_steq (z_c1 rfl (z_c1 (z_si (zi_add rfl rfl)) rfl)) rfl rfl) ?_
        exact ih _ (by omega) (x1 + 1) m6 hIm6 (by omega) (zH_le tk7 (by omega)) rfl

set_option maxRecDepth 100000 in
set_option maxHeartbeats 4000000 in
theorem S_X4_read (zn : Bool) (d : Nat) {c : Nat × Nat} {mM : zM} (hN : 107 ≤ c.1) (hC : c.1 < z_RO) (t9 : Int) (m : zM) (hIm : zI c mM m) (ht : 0 ≤ t9 ∧ t9 ≤ 999999000) (hH : zH t9 m) : zCi zn (d + 8) 79 [.ref 3] c m (fun (r : Int) (m1 : zM) => zI c mM m1 ∧ (-2147483648 ≤ r ∧ r ≤ 2147483647) ∧ zH (t9) m1) := by
  refine zCi.of zu_X4_read hC (Nat.le_of_ble_eq_true rfl) ?_
  show zW zn (d + 7) 79 c (0, [(some (.ref 3)), none], [], zk c m) (fun v h1 => ∃ (r : Int) (m1 : zM), v = some (.int (Int32.ofInt r)) ∧ h1 = zk c m1 ∧ zI c mM m1 ∧ (-2147483648 ≤ r ∧ r ≤ 2147483647) ∧ zH (t9) m1)
  refine zW.step (st1 := (5, [(some (.ref 3)), none], [.int (Int32.ofInt 0), .ref 8], zk c m)) (st2 := (5, [(some (.ref 3)), none], [.int (Int32.ofInt 0), .ref 8], zk c m)) ⟨[zo, zo, zo], _, rfl, ⟨trivial, (Nat.lt_of_lt_of_le (Nat.le_of_ble_eq_true rfl) hN), trivial, trivial⟩⟩ rfl ?_
  obtain ⟨m9, hsm9, hIm9, hfm9, hwm9⟩ := S_fill zn (d + 6) hN hC zA_8 (by omega) (by decide) (v := 0) m hIm (by intro i hi; exact zr_f0 zS_8 i)
  refine zW.step (st1 := (8, [(some (.ref 3)), none], [], zk c m9)) ⟨[zc none (zk c m9)], _, rfl, ⟨⟨(Nat.le_of_ble_eq_true rfl), hsm9, (Nat.le_of_ble_eq_true rfl), Nat.le_refl _, Nat.le_refl _, Nat.le_refl _, Nat.le_refl _⟩, trivial⟩⟩ rfl ?_
  have tk10 : zH t9 m9 := zH_fl hH hfm9 hwm9 (by unfold zQ; omega)
  obtain ⟨m11, hm11⟩ : ∃ q, q = zm_up m9 4 3 0 := ⟨_, rfl⟩
  have hIm11 : zI c mM m11 := by rw [hm11]; exact zI_up hIm9 (zOk_p (by decide)) (show (0 : Int) ≤ 0 ∧ 0 ≤ 5 by omega)
  have em11 : m11 4 3 = 0 := by rw [hm11]; exact zm_eq
  have tk12 : zH t9 m11 := by rw [hm11]; exact zH_up tk10 (by unfold zQ; omega)
  clear tk10
  refine zW.step (st1 := (16, [(some (.ref 3)), none], [], z_hup (zk c m9) 4 (.inr (6, [.ref 5, .ref 6, .ref 7, .int (Int32.ofInt 0), .int (Int32.ofInt (m9 4 4))])))) (st2 := (16, [(some (.ref 3)), none], [], zk c m11)) ⟨[zo, zo, zo, zo], _, rfl, ⟨trivial, (Nat.lt_of_lt_of_le (Nat.le_of_ble_eq_true rfl) hN), trivial, ⟨(Nat.lt_of_lt_of_le (Nat.le_of_ble_eq_true rfl) hN), rfl, rfl⟩, trivial⟩⟩ (z_steq rfl rfl ((zk_up c m9 4 3 0 _ rfl).trans (by rw [hm11]))) ?_
  obtain ⟨m13, hm13⟩ : ∃ q, q = zm_up m11 4 4 0 := ⟨_, rfl⟩
  have hIm13 : zI c mM m13 := by rw [hm13]; exact zI_up hIm11 (zOk_p (by decide)) (show (0 : Int) ≤ 0 ∧ 0 ≤ 6 by omega)
  have em13 : m13 4 4 = 0 := by rw [hm13]; exact zm_eq
  have tk14 : zH t9 m13 := by rw [hm13]; exact zH_up tk12 (by unfold zQ; omega)
  clear tk12
  refine zW.step (st1 := (24, [(some (.ref 3)), none], [], z_hup (zk c m11) 4 (.inr (6, [.ref 5, .ref 6, .ref 7, .int (Int32.ofInt (m11 4 3)), .int (Int32.ofInt 0)])))) (st2 := (24, [(some (.ref 3)), none], [], zk c m13)) ⟨[zo, zo, zo, zo], _, rfl, ⟨trivial, (Nat.lt_of_lt_of_le (Nat.le_of_ble_eq_true rfl) hN), trivial, ⟨(Nat.lt_of_lt_of_le (Nat.le_of_ble_eq_true rfl) hN), rfl, rfl⟩, trivial⟩⟩ (z_steq rfl rfl ((zk_up c m11 4 4 0 _ rfl).trans (by rw [hm13]))) ?_
  clear em11
  obtain ⟨m15, hm15⟩ : ∃ q, q = zm_up m13 1 2 0 := ⟨_, rfl⟩
  have hIm15 : zI c mM m15 := by rw [hm15]; exact zI_up hIm13 (by unfold zOk; decide) (show (0 : Int) ≤ 0 ∧ 0 ≤ 240 by omega)
  have em15 : m15 1 2 = 0 := by rw [hm15]; exact zm_eq
  have tk16 : zH t9 m15 := by rw [hm15]; exact zH_up tk14 (by unfold zQ; omega)
  clear tk14
  refine zW.step (st1 := (32, [(some (.ref 3)), none], [], z_hup (zk c m13) 1 (.inr (8, [.ref 2, .int (Int32.ofInt (m13 1 1)), .int (Int32.ofInt 0), .int (Int32.ofInt (m13 1 3))])))) (st2 := (32, [(some (.ref 3)), none], [], zk c m15)) ⟨[zo, zo, zo, zo], _, rfl, ⟨trivial, (Nat.lt_of_lt_of_le (Nat.le_of_ble_eq_true rfl) hN), trivial, ⟨(Nat.lt_of_lt_of_le (Nat.le_of_ble_eq_true rfl) hN), rfl, rfl⟩, trivial⟩⟩ (z_steq rfl rfl ((zk_up c m13 1 2 0 _ rfl).trans (by rw [hm15]))) ?_
  clear em13
  refine zW.step (st1 := (34, [(some (.ref 3)), (some (.int (Int32.ofInt 0)))], [], zk c m15)) (st2 := (34, [(some (.ref 3)), (some (.int (Int32.ofInt 0)))], [], zk c m15)) ⟨[zo, zo], _, rfl, ⟨trivial, trivial, trivial⟩⟩ rfl ?_
  refine L_X4_read_34 zn _ hN hC t9 ht m _ (fun v9 h9 hq9 => hq9) (fun x1_17 m_17 hIm_17 i1_17 tH_17 => ?_) _ 0 m15 hIm15 (by omega) (zH_le tk16 (by omega)) rfl
  refine zW.step (st1 := (81, [(some (.ref 3)), (some (.int (Int32.ofInt x1_17)))], [.ref 1], zk c m_17)) (st2 := (81, [(some (.ref 3)), (some (.int (Int32.ofInt x1_17)))], [.ref 1], zk c m_17)) ⟨[zo, zo], _, rfl, ⟨trivial, (Nat.lt_of_lt_of_le (Nat.le_of_ble_eq_true rfl) hN), trivial⟩⟩ rfl ?_
  obtain ⟨r18, m18, hs18, hIm18, z_18, q_18, l_18, a9_18, r9_18, p9_18, n9_18, c3_18, e2_18, v9_18, kN_18⟩ := S_X8_next zn (d + 5) hN hC m_17 hIm_17
  refine zW.step (st1 := (84, [(some (.ref 3)), (some (.int (Int32.ofInt x1_17)))], [.int (Int32.ofInt r18)], zk c m18)) ⟨[zc (some (.int (Int32.ofInt r18))) (zk c m18)], _, rfl, ⟨⟨⟨(Nat.lt_of_lt_of_le (Nat.le_of_ble_eq_true rfl) hN), (Nat.le_of_ble_eq_true rfl)⟩, hs18, (Nat.le_of_ble_eq_true rfl), Nat.le_refl _, Nat.le_refl _, Nat.le_refl _, Nat.le_refl _⟩, trivial⟩⟩ rfl ?_
  have tk19 : zH t9 m18 := zH_N tH_17 kN_18
  by_cases b20 : r18 = (-1)
  · refine zW.step (st1 := (96, [(some (.ref 3)), (some (.int (Int32.ofInt x1_17)))], [], zk c m18)) (st2 := (96, [(some (.ref 3)), (some (.int (Int32.ofInt x1_17)))], [], zk c m18)) ⟨[zo, zt], _, rfl, ⟨trivial, zbt ((zi_eq rfl rfl (by unfold zR; omega) (⟨by decide, by decide⟩ : zR (-1))).mpr b20), trivial⟩⟩ rfl ?_
    refine zW.step (st1 := (97, [(some (.ref 3)), (some (.int (Int32.ofInt x1_17)))], [.ref 3], zk c m18)) (st2 := (97, [(some (.ref 3)), (some (.int (Int32.ofInt x1_17)))], [.ref 3], zk c m18)) ⟨[zo], _, rfl, ⟨trivial, trivial⟩⟩ rfl ?_
    obtain ⟨r21, hs21, z_21⟩ := S_X4_isWhole zn (d + 5) hN hC m18 hIm18
    refine zW.step (st1 := (100, [(some (.ref 3)), (some (.int (Int32.ofInt x1_17)))], [.int (Int32.ofInt r21)], zk c m18)) ⟨[zc (some (.int (Int32.ofInt r21))) (zk c m18)], _, rfl, ⟨⟨⟨(Nat.lt_of_lt_of_le (Nat.le_of_ble_eq_true rfl) hN), (Nat.le_of_ble_eq_true rfl)⟩, hs21, (Nat.le_of_ble_eq_true rfl), Nat.le_refl _, Nat.le_refl _, Nat.le_refl _, Nat.le_refl _⟩, trivial⟩⟩ rfl ?_
    by_cases b22 : r21 = 0
    · refine zW.step (st1 := (107, [(some (.ref 3)), (some (.int (Int32.ofInt x1_17)))], [], zk c m18)) (st2 := (107, [(some (.ref 3)), (some (.int (Int32.ofInt x1_17)))], [], zk c m18)) ⟨[zt], _, rfl, ⟨zbt ((zi_eq rfl (rfl : (0 : Int32) = Int32.ofInt 0) (by unfold zR; omega) (⟨by decide, by decide⟩ : zR 0)).mpr b22), trivial⟩⟩ rfl ?_
      have f23 : (0 : Int) ≤ m18 1 1 ∧ m18 1 1 ≤ 240 := hIm18.1 1 1
      refine zW.step (st1 := (114, [(some (.ref 3)), (some (.int (Int32.ofInt x1_17)))], [.int (Int32.ofInt (m18 1 1))], zk c m18)) (st2 := (114, [(some (.ref 3)), (some (.int (Int32.ofInt x1_17)))], [.int (Int32.ofInt (m18 1 1))], zk c m18)) ⟨[zo, zo, zo], _, rfl, ⟨trivial, (Nat.lt_of_lt_of_le (Nat.le_of_ble_eq_true rfl) hN), (Nat.lt_of_lt_of_le (Nat.le_of_ble_eq_true rfl) hN), trivial⟩⟩ rfl ?_
      exact zW.fin (zfin_i rfl rfl rfl) ⟨m18 1 1, m18, rfl, rfl, hIm18, (by omega), (zH_le tk19 (by omega))⟩
    · refine zW.step (st1 := (103, [(some (.ref 3)), (some (.int (Int32.ofInt x1_17)))], [], zk c m18)) (st2 := (103, [(some (.ref 3)), (some (.int (Int32.ofInt x1_17)))], [], zk c m18)) ⟨[zo], _, rfl, ⟨zbf (fun q => b22 ((zi_eq rfl (rfl : (0 : Int32) = Int32.ofInt 0) (by unfold zR; omega) (⟨by decide, by decide⟩ : zR 0)).mp q)), trivial⟩⟩ rfl ?_
      refine zW.step (st1 := (114, [(some (.ref 3)), (some (.int (Int32.ofInt x1_17)))], [.int (Int32.ofInt (-1))], zk c m18)) (st2 := (114, [(some (.ref 3)), (some (.int (Int32.ofInt x1_17)))], [.int (Int32.ofInt (-1))], zk c m18)) ⟨[zo, zo], _, rfl, ⟨trivial, trivial, trivial⟩⟩ rfl ?_
      exact zW.fin (zfin_i rfl rfl rfl) ⟨(-1), m18, rfl, rfl, hIm18, (by omega), (zH_le tk19 (by omega))⟩
  · refine zW.step (st1 := (88, [(some (.ref 3)), (some (.int (Int32.ofInt x1_17)))], [], zk c m18)) (st2 := (88, [(some (.ref 3)), (some (.int (Int32.ofInt x1_17)))], [], zk c m18)) ⟨[zo, zo], _, rfl, ⟨trivial, zbf (fun q => b20 ((zi_eq rfl rfl (by unfold zR; omega) (⟨by decide, by decide⟩ : zR (-1))).mp q)), trivial⟩⟩ rfl ?_
    have f24 : (0 : Int) ≤ m18 1 2 ∧ m18 1 2 ≤ 240 := hIm18.1 1 2
    refine zW.step (st1 := (95, [(some (.ref 3)), (some (.int (Int32.ofInt x1_17)))], [.int (Int32.ofInt (m18 1 2))], zk c m18)) (st2 := (95, [(some (.ref 3)), (some (.int (Int32.ofInt x1_17)))], [.int (Int32.ofInt (m18 1 2))], zk c m18)) ⟨[zo, zo, zo], _, rfl, ⟨trivial, (Nat.lt_of_lt_of_le (Nat.le_of_ble_eq_true rfl) hN), (Nat.lt_of_lt_of_le (Nat.le_of_ble_eq_true rfl) hN), trivial⟩⟩ rfl ?_
    exact zW.fin (zfin_i rfl rfl rfl) ⟨m18 1 2, m18, rfl, rfl, hIm18, (by omega), (zH_le tk19 (by omega))⟩

set_option maxRecDepth 100000 in
set_option maxHeartbeats 4000000 in
theorem S_X10_emit (zn : Bool) (d : Nat) {c : Nat × Nat} {mM : zM} (hN : 107 ≤ c.1) (hC : c.1 < z_RO) (sign : Int) (operand : Int) (m : zM) (hIm : zI c mM m) (r_sign : -2147483648 ≤ sign ∧ sign ≤ 2147483647) (r_operand : -2147483648 ≤ operand ∧ operand ≤ 2147483647) (hs : 0 ≤ sign ∧ sign ≤ 31) (ho : 0 ≤ operand ∧ operand ≤ 99999) : zCi zn (d + 1) 119 [.ref 10, .int (Int32.ofInt sign), .int (Int32.ofInt operand)] c m (fun (r : Int) (m1 : zM) => zI c mM m1 ∧ (0 ≤ r ∧ r ≤ 1) ∧ (m1 10 2 ≤ m 10 2 + 1 ∧ m1 1 2 = m 1 2) ∧ zN m m1) := by
  refine zCi.of zu_X10_emit hC (Nat.le_of_ble_eq_true rfl) ?_
  show zW zn (d + 0) 119 c (0, [(some (.ref 10)), (some (.int (Int32.ofInt sign))), (some (.int (Int32.ofInt operand)))], [], zk c m) (fun v h1 => ∃ (r : Int) (m1 : zM), v = some (.int (Int32.ofInt r)) ∧ h1 = zk c m1 ∧ zI c mM m1 ∧ (0 ≤ r ∧ r ≤ 1) ∧ (m1 10 2 ≤ m 10 2 + 1 ∧ m1 1 2 = m 1 2) ∧ zN m m1)
  have f1 : (0 : Int) ≤ m 1 1 ∧ m 1 1 ≤ 240 := hIm.1 1 1
  have f2 : (0 : Int) ≤ m 1 2 ∧ m 1 2 ≤ 240 := hIm.1 1 2
  have f3 : (0 : Int) ≤ m 10 2 ∧ m 10 2 ≤ 240 := hIm.1 10 2
  by_cases b4 : 240 ≤ (m 10 2)
  · refine zW.step (st1 := (37, [(some (.ref 10)), (some (.int (Int32.ofInt sign))), (some (.int (Int32.ofInt operand)))], [], zk c m)) (st2 := (37, [(some (.ref 10)), (some (.int (Int32.ofInt sign))), (some (.int (Int32.ofInt operand)))], [], zk c m)) ⟨[zo, zo, zo, zo, zo, zt], _, rfl, ⟨trivial, (Nat.lt_of_lt_of_le (Nat.le_of_ble_eq_true rfl) hN), trivial, (Nat.lt_of_lt_of_le (Nat.le_of_ble_eq_true rfl) hN), (Nat.lt_of_lt_of_le (Nat.le_of_ble_eq_true rfl) hN), zbt ((zi_le (by decide : Int32.ofNat 240 = Int32.ofInt 240) rfl (⟨by decide, by decide⟩ : zR 240) (by unfold zR; omega)).mpr b4), trivial⟩⟩ rfl ?_
    refine zW.step (st1 := (38, [(some (.ref 10)), (some (.int (Int32.ofInt sign))), (some (.int (Int32.ofInt operand)))], [.int (Int32.ofInt 1)], zk c m)) (st2 := (38, [(some (.ref 10)), (some (.int (Int32.ofInt sign))), (some (.int (Int32.ofInt operand)))], [.int (Int32.ofInt 1)], zk c m)) ⟨[zo], _, rfl, ⟨trivial, trivial⟩⟩ rfl ?_
    exact zW.fin (zfin_i rfl rfl rfl) ⟨1, m, rfl, rfl, hIm, (by omega), (by omega), zN_rf⟩
  · refine zW.step (st1 := (12, [(some (.ref 10)), (some (.int (Int32.ofInt sign))), (some (.int (Int32.ofInt operand)))], [], zk c m)) (st2 := (12, [(some (.ref 10)), (some (.int (Int32.ofInt sign))), (some (.int (Int32.ofInt operand)))], [], zk c m)) ⟨[zo, zo, zo, zo, zo, zo], _, rfl, ⟨trivial, (Nat.lt_of_lt_of_le (Nat.le_of_ble_eq_true rfl) hN), trivial, (Nat.lt_of_lt_of_le (Nat.le_of_ble_eq_true rfl) hN), (Nat.lt_of_lt_of_le (Nat.le_of_ble_eq_true rfl) hN), zbf (fun q => b4 ((zi_le (by decide : Int32.ofNat 240 = Int32.ofInt 240) rfl (⟨by decide, by decide⟩ : zR 240) (by unfold zR; omega)).mp q)), trivial⟩⟩ rfl ?_
    have f5 : (-2147483648 : Int) ≤ zb_shl sign 14 ∧ zb_shl sign 14 ≤ 2147483647 := zb_shlR sign 14
    have f6 := zb_shl14 sign
    have f7 : (-2147483648 : Int) ≤ zb_or (zb_shl sign 14) operand ∧ zb_or (zb_shl sign 14) operand ≤ 2147483647 := zb_orR (zb_shl sign 14) operand
    have f8 := zb_or_f (zb_shl sign 14) operand
    obtain ⟨m9, hm9⟩ : ∃ q, q = zm_up m 11 ((m 10 2).toNat) (zb_or (zb_shl sign 14) operand) := ⟨_, rfl⟩
    have hIm9 : zI c mM m9 := by rw [hm9]; exact zI_up hIm (zOk_p (by decide)) (show (0 : Int) ≤ (zb_or (zb_shl sign 14) operand) ∧ (zb_or (zb_shl sign 14) operand) ≤ 2147483647 by omega)
    have em9 : m9 11 ((m 10 2).toNat) = (zb_or (zb_shl sign 14) operand) := by rw [hm9]; exact zm_eq
    have f10 : m9 10 2 = m 10 2 := by rw [hm9]; exact zm_ne (by omega)
    have f11 : m9 1 1 = m 1 1 := by rw [hm9]; exact zm_ne (by omega)
    have f12 : m9 1 2 = m 1 2 := by rw [hm9]; exact zm_ne (by omega)
    have tk13 : zN m m9 := by rw [hm9]; exact zN_up zN_rf (by unfold zRow; omega)
    refine zW.step (st1 := (27, [(some (.ref 10)), (some (.int (Int32.ofInt sign))), (some (.int (Int32.ofInt operand)))], [], z_hup (zk c m) 11 (.inl (0, 240, .inl (upd (fun j => Int32.ofInt (m 11 j)) (Int32.ofInt (m 10 2)).toNatClampNeg (((Int32.ofInt sign) <<< (((Int8.ofInt 14).toInt32) &&& 31)) ||| (Int32.ofInt operand))))))) (st2 := (27, [(some (.ref 10)), (some (.int (Int32.ofInt sign))), (some (.int (Int32.ofInt operand)))], [], zk c m9)) ⟨[zo, zo, zo, zo, zo, zo, zo, zo, zo, (false, 0, none, zh0, some (.inl (0, 240, .inl (fun j => Int32.ofInt (m 11 j)))))], _, rfl, ⟨trivial, (Nat.lt_of_lt_of_le (Nat.le_of_ble_eq_true rfl) hN), trivial, (Nat.lt_of_lt_of_le (Nat.le_of_ble_eq_true rfl) hN), trivial, trivial, trivial, trivial, trivial, ⟨zk_ra c m zA_11 (Nat.lt_of_lt_of_le (Nat.le_of_ble_eq_true rfl) hN), zi_in rfl (by omega) (by omega) (by omega)⟩, trivial⟩⟩ (z_steq rfl rfl ((zk_ias c m zA_11 rfl (by unfold zR; omega) (zi_or (zi_shl rfl (by decide : (Int8.ofInt 14).toInt32 = Int32.ofInt 14)) rfl)).trans (by rw [hm9]))) ?_
    have f14 : (0 : Int) ≤ m9 10 2 ∧ m9 10 2 ≤ 240 := hIm9.1 10 2
    obtain ⟨m15, hm15⟩ : ∃ q, q = zm_up m9 10 2 ((m9 10 2) + 1) := ⟨_, rfl⟩
    have hIm15 : zI c mM m15 := by rw [hm15]; exact zI_up hIm9 (zOk_p (by decide)) (show (0 : Int) ≤ ((m9 10 2) + 1) ∧ ((m9 10 2) + 1) ≤ 240 by omega)
    have em15 : m15 10 2 = ((m9 10 2) + 1) := by rw [hm15]; exact zm_eq
    have f16 : m15 1 1 = m9 1 1 := by rw [hm15]; exact zm_ne (by omega)
    have f17 : m15 1 2 = m9 1 2 := by rw [hm15]; exact zm_ne (by omega)
    have tk18 : zN m m15 := by rw [hm15]; exact zN_up tk13 (by unfold zRow; omega)
    clear tk13
    refine zW.step (st1 := (37, [(some (.ref 10)), (some (.int (Int32.ofInt sign))), (some (.int (Int32.ofInt operand)))], [], z_hup (zk c m9) 10 (.inr (10, [.ref 1, .ref 11, .int ((Int32.ofInt (m9 10 2)) + (Int32.ofInt 1)), .int (Int32.ofInt (m9 10 3))])))) (st2 := (37, [(some (.ref 10)), (some (.int (Int32.ofInt sign))), (some (.int (Int32.ofInt operand)))], [], zk c m15)) ⟨[zo, zo, zo, zo, zo, zo], _, rfl, ⟨trivial, trivial, (Nat.lt_of_lt_of_le (Nat.le_of_ble_eq_true rfl) hN), trivial, trivial, ⟨(Nat.lt_of_lt_of_le (Nat.le_of_ble_eq_true rfl) hN), rfl, rfl⟩, trivial⟩⟩ (z_steq rfl rfl ((zk_up c m9 10 2 ((m9 10 2) + 1) _ ((congrArg (fun q => (.inr (10, [.ref 1, .ref 11, .int q, .int (Int32.ofInt (m9 10 3))]) : z_E)) (zi_add rfl rfl)).trans rfl)).trans (by rw [hm15]))) ?_
    refine zW.step (st1 := (38, [(some (.ref 10)), (some (.int (Int32.ofInt sign))), (some (.int (Int32.ofInt operand)))], [.int (Int32.ofInt 1)], zk c m15)) (st2 := (38, [(some (.ref 10)), (some (.int (Int32.ofInt sign))), (some (.int (Int32.ofInt operand)))], [.int (Int32.ofInt 1)], zk c m15)) ⟨[zo], _, rfl, ⟨trivial, trivial⟩⟩ rfl ?_
    exact zW.fin (zfin_i rfl rfl rfl) ⟨1, m15, rfl, rfl, hIm15, (by omega), (by omega), tk18⟩

set_option maxRecDepth 100000 in
set_option maxHeartbeats 4000000 in
theorem L_X10_condition_G_13 (zn : Bool) (d : Nat) {c : Nat × Nat} {mM : zM} (hN : 107 ≤ c.1) (hC : c.1 < z_RO) (begun : Int) (Lv : Int) (h_truths : ∀ (begun : Int) (m : zM) (hIm : zI c mM m) (r_begun : -2147483648 ≤ begun ∧ begun ≤ 2147483647) (hb : 0 ≤ begun ∧ begun ≤ 1), zCi zn (d + 9) 124 [.ref 10, .int (Int32.ofInt Lv), .int (Int32.ofInt begun)] c m (fun (r : Int) (m1 : zM) => zI c mM m1 ∧ (0 ≤ r ∧ r ≤ 1) ∧ (m1 10 2 - m1 1 2 ≤ m 10 2 - m 1 2) ∧ zN m m1)) (r_begun : -2147483648 ≤ begun ∧ begun ≤ 2147483647) (hLv : 0 ≤ Lv ∧ Lv ≤ 6) (hb : 0 ≤ begun ∧ begun ≤ 1) (m0 : zM) (Q : Option Value → z_H → Prop) (KR : ∀ v h1, (fun v h1 => ∃ (r : Int) (m1 : zM), v = some (.int (Int32.ofInt r)) ∧ h1 = zk c m1 ∧ zI c mM m1 ∧ (0 ≤ r ∧ r ≤ 1) ∧ (m1 10 2 - m1 1 2 ≤ m0 10 2 - m0 1 2) ∧ zN m0 m1) v h1 → Q v h1) (K : ∀ (x3 : Int) (m : zM), zI c mM m → 0 ≤ x3 ∧ x3 ≤ 240 → m 10 2 - m 1 2 ≤ m0 10 2 - m0 1 2 → 0 ≤ Lv ∧ Lv ≤ 6 → zN m0 m → zW zn (d + 9) 117 c (57, [(some (.ref 10)), (some (.int (Int32.ofInt Lv))), (some (.int (Int32.ofInt begun))), (some (.int (Int32.ofInt x3)))], [], zk c m) Q) :
    ∀ (w : Nat) (x3 : Int) (m : zM), zI c mM m → 0 ≤ x3 ∧ x3 ≤ 240 → m 10 2 - m 1 2 ≤ m0 10 2 - m0 1 2 → 0 ≤ Lv ∧ Lv ≤ 6 → zN m0 m → w = (240 - x3).toNat → zW zn (d + 9) 117 c (13, [(some (.ref 10)), (some (.int (Int32.ofInt Lv))), (some (.int (Int32.ofInt begun))), (some (.int (Int32.ofInt x3)))], [], zk c m) Q := by
  intro w
  induction w using Nat.strongRecOn with | _ w ih => ?_
  intro x3 m hIm i1 pt hLw tN hw
  have f1 : (0 : Int) ≤ m 1 1 ∧ m 1 1 ≤ 240 := hIm.1 1 1
  have f2 : (0 : Int) ≤ m 1 2 ∧ m 1 2 ≤ 240 := hIm.1 1 2
  have f3 : (0 : Int) ≤ m 10 2 ∧ m 10 2 ≤ 240 := hIm.1 10 2
  by_cases b4 : 240 ≤ x3
  · refine zW.step (st1 := (57, [(some (.ref 10)), (some (.int (Int32.ofInt Lv))), (some (.int (Int32.ofInt begun))), (some (.int (Int32.ofInt x3)))], [], zk c m)) (st2 := (57, [(some (.ref 10)), (some (.int (Int32.ofInt Lv))), (some (.int (Int32.ofInt begun))), (some (.int (Int32.ofInt x3)))], [], zk c m)) ⟨[zo, zo, zt], _, rfl, ⟨trivial, trivial, zbt ((zi_le (by decide : (Int16.ofInt 240).toInt32 = Int32.ofInt 240) rfl (⟨by decide, by decide⟩ : zR 240) (by unfold zR; omega)).mpr b4), trivial⟩⟩ rfl ?_
    exact K x3 m hIm (by omega) (by omega) (by omega) tN
  · refine zW.step (st1 := (20, [(some (.ref 10)), (some (.int (Int32.ofInt Lv))), (some (.int (Int32.ofInt begun))), (some (.int (Int32.ofInt x3)))], [], zk c m)) (st2 := (20, [(some (.ref 10)), (some (.int (Int32.ofInt Lv))), (some (.int (Int32.ofInt begun))), (some (.int (Int32.ofInt x3)))], [], zk c m)) ⟨[zo, zo, zo], _, rfl, ⟨trivial, trivial, zbf (fun q => b4 ((zi_le (by decide : (Int16.ofInt 240).toInt32 = Int32.ofInt 240) rfl (⟨by decide, by decide⟩ : zR 240) (by unfold zR; omega)).mp q)), trivial⟩⟩ rfl ?_
    refine zW.step (st1 := (26, [(some (.ref 10)), (some (.int (Int32.ofInt Lv))), (some (.int (Int32.ofInt begun))), (some (.int (Int32.ofInt x3)))], [.int ((Int8.ofInt 124).toInt32), .ref 1], zk c m)) (st2 := (26, [(some (.ref 10)), (some (.int (Int32.ofInt Lv))), (some (.int (Int32.ofInt begun))), (some (.int (Int32.ofInt x3)))], [.int (Int32.ofInt 124), .ref 1], zk c m)) ⟨[zo, zo, zo], _, rfl, ⟨trivial, (Nat.lt_of_lt_of_le (Nat.le_of_ble_eq_true rfl) hN), trivial, trivial⟩⟩ (z_steq rfl (z_c1 (z_vi (by decide : (Int8.ofInt 124).toInt32 = Int32.ofInt 124)) rfl) rfl) ?_
    obtain ⟨r5, m5, hs5, hIm5, z_5, l_5, a9_5, q_5, r9_5, p9_5, n9_5, e2_5, kN_5⟩ := S_X8_takes zn (d + 6) hN hC 124 m hIm (by omega) (by omega)
    refine zW.step (st1 := (29, [(some (.ref 10)), (some (.int (Int32.ofInt Lv))), (some (.int (Int32.ofInt begun))), (some (.int (Int32.ofInt x3)))], [.int (Int32.ofInt r5)], zk c m5)) ⟨[zc (some (.int (Int32.ofInt r5))) (zk c m5)], _, rfl, ⟨⟨⟨(Nat.lt_of_lt_of_le (Nat.le_of_ble_eq_true rfl) hN), (Nat.le_of_ble_eq_true rfl)⟩, hs5, (Nat.le_of_ble_eq_true rfl), Nat.le_refl _, Nat.le_refl _, Nat.le_refl _, Nat.le_refl _⟩, trivial⟩⟩ rfl ?_
    have f6 : (0 : Int) ≤ m5 1 1 ∧ m5 1 1 ≤ 240 := hIm5.1 1 1
    have f7 : (0 : Int) ≤ m5 1 2 ∧ m5 1 2 ≤ 240 := hIm5.1 1 2
    have f8 : (0 : Int) ≤ m5 10 2 ∧ m5 10 2 ≤ 240 := hIm5.1 10 2
    have tk9 : zN m0 m5 := zN_tr tN kN_5
    by_cases b10 : r5 = 0
    · refine zW.step (st1 := (57, [(some (.ref 10)), (some (.int (Int32.ofInt Lv))), (some (.int (Int32.ofInt begun))), (some (.int (Int32.ofInt x3)))], [], zk c m5)) (st2 := (57, [(some (.ref 10)), (some (.int (Int32.ofInt Lv))), (some (.int (Int32.ofInt begun))), (some (.int (Int32.ofInt x3)))], [], zk c m5)) ⟨[zt], _, rfl, ⟨zbt ((zi_eq rfl (rfl : (0 : Int32) = Int32.ofInt 0) (by unfold zR; omega) (⟨by decide, by decide⟩ : zR 0)).mpr b10), trivial⟩⟩ rfl ?_
      exact K x3 m5 hIm5 (by omega) (by omega) (by omega) tk9
    · refine zW.step (st1 := (32, [(some (.ref 10)), (some (.int (Int32.ofInt Lv))), (some (.int (Int32.ofInt begun))), (some (.int (Int32.ofInt x3)))], [], zk c m5)) (st2 := (32, [(some (.ref 10)), (some (.int (Int32.ofInt Lv))), (some (.int (Int32.ofInt begun))), (some (.int (Int32.ofInt x3)))], [], zk c m5)) ⟨[zo], _, rfl, ⟨zbf (fun q => b10 ((zi_eq rfl (rfl : (0 : Int32) = Int32.ofInt 0) (by unfold zR; omega) (⟨by decide, by decide⟩ : zR 0)).mp q)), trivial⟩⟩ rfl ?_
      refine zW.step (st1 := (35, [(some (.ref 10)), (some (.int (Int32.ofInt Lv))), (some (.int (Int32.ofInt begun))), (some (.int (Int32.ofInt x3)))], [.int (Int32.ofInt 0), .int (Int32.ofInt Lv), .ref 10], zk c m5)) (st2 := (35, [(some (.ref 10)), (some (.int (Int32.ofInt Lv))), (some (.int (Int32.ofInt begun))), (some (.int (Int32.ofInt x3)))], [.int (Int32.ofInt 0), .int (Int32.ofInt Lv), .ref 10], zk c m5)) ⟨[zo, zo, zo], _, rfl, ⟨trivial, trivial, trivial, trivial⟩⟩ rfl ?_
      obtain ⟨r11, m11, hs11, hIm11, z_11, p9_11, kN_11⟩ := h_truths 0 m5 hIm5 (by omega) (by omega)
      refine zW.step (st1 := (38, [(some (.ref 10)), (some (.int (Int32.ofInt Lv))), (some (.int (Int32.ofInt begun))), (some (.int (Int32.ofInt x3)))], [.int (Int32.ofInt r11)], zk c m11)) ⟨[zc (some (.int (Int32.ofInt r11))) (zk c m11)], _, rfl, ⟨⟨⟨(Nat.lt_of_lt_of_le (Nat.le_of_ble_eq_true rfl) hN), (Nat.le_of_ble_eq_true rfl)⟩, hs11, (Nat.le_of_ble_eq_true rfl), Nat.le_refl _, Nat.le_refl _, Nat.le_refl _, Nat.le_refl _⟩, trivial⟩⟩ rfl ?_
      have f12 : (0 : Int) ≤ m11 1 1 ∧ m11 1 1 ≤ 240 := hIm11.1 1 1
      have f13 : (0 : Int) ≤ m11 1 2 ∧ m11 1 2 ≤ 240 := hIm11.1 1 2
      have f14 : (0 : Int) ≤ m11 10 2 ∧ m11 10 2 ≤ 240 := hIm11.1 10 2
      have tk15 : zN m0 m11 := zN_tr tk9 kN_11
      by_cases b16 : r11 = 0
      · refine zW.step (st1 := (41, [(some (.ref 10)), (some (.int (Int32.ofInt Lv))), (some (.int (Int32.ofInt begun))), (some (.int (Int32.ofInt x3)))], [], zk c m11)) (st2 := (41, [(some (.ref 10)), (some (.int (Int32.ofInt Lv))), (some (.int (Int32.ofInt begun))), (some (.int (Int32.ofInt x3)))], [], zk c m11)) ⟨[zo], _, rfl, ⟨zbf (fun q => q ((zi_eq rfl (rfl : (0 : Int32) = Int32.ofInt 0) (by unfold zR; omega) (⟨by decide, by decide⟩ : zR 0)).mpr b16)), trivial⟩⟩ rfl ?_
        refine zW.step (st1 := (42, [(some (.ref 10)), (some (.int (Int32.ofInt Lv))), (some (.int (Int32.ofInt begun))), (some (.int (Int32.ofInt x3)))], [.int (Int32.ofInt 0)], zk c m11)) (st2 := (42, [(some (.ref 10)), (some (.int (Int32.ofInt Lv))), (some (.int (Int32.ofInt begun))), (some (.int (Int32.ofInt x3)))], [.int (Int32.ofInt 0)], zk c m11)) ⟨[zo], _, rfl, ⟨trivial, trivial⟩⟩ rfl ?_
        exact zW.fin (zfin_i rfl rfl rfl) (KR _ _ ⟨0, m11, rfl, rfl, hIm11, (by omega), (by omega), tk15⟩)
      · refine zW.step (st1 := (43, [(some (.ref 10)), (some (.int (Int32.ofInt Lv))), (some (.int (Int32.ofInt begun))), (some (.int (Int32.ofInt x3)))], [], zk c m11)) (st2 := (43, [(some (.ref 10)), (some (.int (Int32.ofInt Lv))), (some (.int (Int32.ofInt begun))), (some (.int (Int32.ofInt x3)))], [], zk c m11)) ⟨[zt], _, rfl, ⟨zbt (fun q => b16 ((zi_eq rfl (rfl : (0 : Int32) = Int32.ofInt 0) (by unfold zR; omega) (⟨by decide, by decide⟩ : zR 0)).mp q)), trivial⟩⟩ rfl ?_
        refine zW.step (st1 := (47, [(some (.ref 10)), (some (.int (Int32.ofInt Lv))), (some (.int (Int32.ofInt begun))), (some (.int (Int32.ofInt x3)))], [.int (Int32.ofInt 0), .int ((Int8.ofInt 13).toInt32), .ref 10], zk c m11)) (st2 := (47, [(some (.ref 10)), (some (.int (Int32.ofInt Lv))), (some (.int (Int32.ofInt begun))), (some (.int (Int32.ofInt x3)))], [.int (Int32.ofInt 0), .int (Int32.ofInt 13), .ref 10], zk c m11)) ⟨[zo, zo, zo], _, rfl, ⟨trivial, trivial, trivial, trivial⟩⟩ (z_steq rfl (z_c1 rfl (z_c1 (z_vi (by decide : (Int8.ofInt 13).toInt32 = Int32.ofInt 13)) rfl)) rfl) ?_
        obtain ⟨r17, m17, hs17, hIm17, z_17, p9_17, kN_17⟩ := S_X10_emit zn (d + 8) hN hC 13 0 m11 hIm11 (by omega) (by omega) (by omega) (by omega)
        refine zW.step (st1 := (50, [(some (.ref 10)), (some (.int (Int32.ofInt Lv))), (some (.int (Int32.ofInt begun))), (some (.int (Int32.ofInt x3)))], [.int (Int32.ofInt r17)], zk c m17)) ⟨[zc (some (.int (Int32.ofInt r17))) (zk c m17)], _, rfl, ⟨⟨⟨(Nat.lt_of_lt_of_le (Nat.le_of_ble_eq_true rfl) hN), (Nat.le_of_ble_eq_true rfl)⟩, hs17, (Nat.le_of_ble_eq_true rfl), Nat.le_refl _, Nat.le_refl _, Nat.le_refl _, Nat.le_refl _⟩, trivial⟩⟩ rfl ?_
        have f18 : (0 : Int) ≤ m17 1 1 ∧ m17 1 1 ≤ 240 := hIm17.1 1 1
        have f19 : (0 : Int) ≤ m17 1 2 ∧ m17 1 2 ≤ 240 := hIm17.1 1 2
        have f20 : (0 : Int) ≤ m17 10 2 ∧ m17 10 2 ≤ 240 := hIm17.1 10 2
        have tk21 : zN m0 m17 := zN_tr tk15 kN_17
        refine zW.step (st1 := (13, [(some (.ref 10)), (some (.int (Int32.ofInt Lv))), (some (.int (Int32.ofInt begun))), (some (.int ((Int32.ofInt x3) + Int32.ofInt 1)))], [], zk c m17)) (st2 := (13, [(some (.ref 10)), (some (.int (Int32.ofInt Lv))), (some (.int (Int32.ofInt begun))), (some (.int (Int32.ofInt (x3 + 1))))], [], zk c m17)) ⟨[zo, zo, zo], _, rfl, ⟨trivial, trivial, trivial, trivial⟩⟩ (z_steq (z_c1 rfl (z_c1 rfl (z_c1 rfl (z_c1 (z_si (zi_add rfl rfl)) rfl)))) rfl rfl) ?_
        exact ih _ (by omega) (x3 + 1) m17 hIm17 (by omega) (by omega) (by omega) tk21 rfl

set_option maxRecDepth 100000 in
set_option maxHeartbeats 4000000 in
theorem S_X10_condition_G (zn : Bool) (d : Nat) {c : Nat × Nat} {mM : zM} (hN : 107 ≤ c.1) (hC : c.1 < z_RO) (begun : Int) (Lv : Int) (h_truths : ∀ (begun : Int) (m : zM) (hIm : zI c mM m) (r_begun : -2147483648 ≤ begun ∧ begun ≤ 2147483647) (hb : 0 ≤ begun ∧ begun ≤ 1), zCi zn (d + 9) 124 [.ref 10, .int (Int32.ofInt Lv), .int (Int32.ofInt begun)] c m (fun (r : Int) (m1 : zM) => zI c mM m1 ∧ (0 ≤ r ∧ r ≤ 1) ∧ (m1 10 2 - m1 1 2 ≤ m 10 2 - m 1 2) ∧ zN m m1)) (m : zM) (hIm : zI c mM m) (r_begun : -2147483648 ≤ begun ∧ begun ≤ 2147483647) (hLv : 0 ≤ Lv ∧ Lv ≤ 6) (hb : 0 ≤ begun ∧ begun ≤ 1) : zCi zn (d + 10) 117 [.ref 10, .int (Int32.ofInt Lv), .int (Int32.ofInt begun)] c m (fun (r : Int) (m1 : zM) => zI c mM m1 ∧ (0 ≤ r ∧ r ≤ 1) ∧ (m1 10 2 - m1 1 2 ≤ m 10 2 - m 1 2) ∧ zN m m1) := by
  refine zCi.of zu_X10_condition hC (Nat.le_of_ble_eq_true rfl) ?_
  show zW zn (d + 9) 117 c (0, [(some (.ref 10)), (some (.int (Int32.ofInt Lv))), (some (.int (Int32.ofInt begun))), none], [], zk c m) (fun v h1 => ∃ (r : Int) (m1 : zM), v = some (.int (Int32.ofInt r)) ∧ h1 = zk c m1 ∧ zI c mM m1 ∧ (0 ≤ r ∧ r ≤ 1) ∧ (m1 10 2 - m1 1 2 ≤ m 10 2 - m 1 2) ∧ zN m m1)
  have f22 : (0 : Int) ≤ m 1 1 ∧ m 1 1 ≤ 240 := hIm.1 1 1
  have f23 : (0 : Int) ≤ m 1 2 ∧ m 1 2 ≤ 240 := hIm.1 1 2
  have f24 : (0 : Int) ≤ m 10 2 ∧ m 10 2 ≤ 240 := hIm.1 10 2
  refine zW.step (st1 := (3, [(some (.ref 10)), (some (.int (Int32.ofInt Lv))), (some (.int (Int32.ofInt begun))), none], [.int (Int32.ofInt begun), .int (Int32.ofInt Lv), .ref 10], zk c m)) (st2 := (3, [(some (.ref 10)), (some (.int (Int32.ofInt Lv))), (some (.int (Int32.ofInt begun))), none], [.int (Int32.ofInt begun), .int (Int32.ofInt Lv), .ref 10], zk c m)) ⟨[zo, zo, zo], _, rfl, ⟨trivial, trivial, trivial, trivial⟩⟩ rfl ?_
  obtain ⟨r25, m25, hs25, hIm25, z_25, p9_25, kN_25⟩ := h_truths begun m hIm (by omega) (by omega)
  refine zW.step (st1 := (6, [(some (.ref 10)), (some (.int (Int32.ofInt Lv))), (some (.int (Int32.ofInt begun))), none], [.int (Int32.ofInt r25)], zk c m25)) ⟨[zc (some (.int (Int32.ofInt r25))) (zk c m25)], _, rfl, ⟨⟨⟨(Nat.lt_of_lt_of_le (Nat.le_of_ble_eq_true rfl) hN), (Nat.le_of_ble_eq_true rfl)⟩, hs25, (Nat.le_of_ble_eq_true rfl), Nat.le_refl _, Nat.le_refl _, Nat.le_refl _, Nat.le_refl _⟩, trivial⟩⟩ rfl ?_
  have f26 : (0 : Int) ≤ m25 1 1 ∧ m25 1 1 ≤ 240 := hIm25.1 1 1
  have f27 : (0 : Int) ≤ m25 1 2 ∧ m25 1 2 ≤ 240 := hIm25.1 1 2
  have f28 : (0 : Int) ≤ m25 10 2 ∧ m25 10 2 ≤ 240 := hIm25.1 10 2
  have tk29 : zN m m25 := zN_tr zN_rf kN_25
  by_cases b30 : r25 = 0
  · refine zW.step (st1 := (9, [(some (.ref 10)), (some (.int (Int32.ofInt Lv))), (some (.int (Int32.ofInt begun))), none], [], zk c m25)) (st2 := (9, [(some (.ref 10)), (some (.int (Int32.ofInt Lv))), (some (.int (Int32.ofInt begun))), none], [], zk c m25)) ⟨[zo], _, rfl, ⟨zbf (fun q => q ((zi_eq rfl (rfl : (0 : Int32) = Int32.ofInt 0) (by unfold zR; omega) (⟨by decide, by decide⟩ : zR 0)).mpr b30)), trivial⟩⟩ rfl ?_
    refine zW.step (st1 := (10, [(some (.ref 10)), (some (.int (Int32.ofInt Lv))), (some (.int (Int32.ofInt begun))), none], [.int (Int32.ofInt 0)], zk c m25)) (st2 := (10, [(some (.ref 10)), (some (.int (Int32.ofInt Lv))), (some (.int (Int32.ofInt begun))), none], [.int (Int32.ofInt 0)], zk c m25)) ⟨[zo], _, rfl, ⟨trivial, trivial⟩⟩ rfl ?_
    exact zW.fin (zfin_i rfl rfl rfl) ⟨0, m25, rfl, rfl, hIm25, (by omega), (by omega), tk29⟩
  · refine zW.step (st1 := (11, [(some (.ref 10)), (some (.int (Int32.ofInt Lv))), (some (.int (Int32.ofInt begun))), none], [], zk c m25)) (st2 := (11, [(some (.ref 10)), (some (.int (Int32.ofInt Lv))), (some (.int (Int32.ofInt begun))), none], [], zk c m25)) ⟨[zt], _, rfl, ⟨zbt (fun q => b30 ((zi_eq rfl (rfl : (0 : Int32) = Int32.ofInt 0) (by unfold zR; omega) (⟨by decide, by decide⟩ : zR 0)).mp q)), trivial⟩⟩ rfl ?_
    refine zW.step (st1 := (13, [(some (.ref 10)), (some (.int (Int32.ofInt Lv))), (some (.int (Int32.ofInt begun))), (some (.int (Int32.ofInt 0)))], [], zk c m25)) (st2 := (13, [(some (.ref 10)), (some (.int (Int32.ofInt Lv))), (some (.int (Int32.ofInt begun))), (some (.int (Int32.ofInt 0)))], [], zk c m25)) ⟨[zo, zo], _, rfl, ⟨trivial, trivial, trivial⟩⟩ rfl ?_
    refine L_X10_condition_G_13 zn _ hN hC begun Lv h_truths r_begun hLv hb m _ (fun v9 h9 hq9 => hq9) (fun x3_31 m_31 hIm_31 i1_31 pt_31 hLw_31 tN_31 => ?_) _ 0 m25 hIm25 (by omega) (by omega) (by omega) tk29 rfl
    have f32 : (0 : Int) ≤ m_31 1 1 ∧ m_31 1 1 ≤ 240 := hIm_31.1 1 1
    have f33 : (0 : Int) ≤ m_31 1 2 ∧ m_31 1 2 ≤ 240 := hIm_31.1 1 2
    have f34 : (0 : Int) ≤ m_31 10 2 ∧ m_31 10 2 ≤ 240 := hIm_31.1 10 2
    refine zW.step (st1 := (58, [(some (.ref 10)), (some (.int (Int32.ofInt Lv))), (some (.int (Int32.ofInt begun))), (some (.int (Int32.ofInt x3_31)))], [.int (Int32.ofInt 1)], zk c m_31)) (st2 := (58, [(some (.ref 10)), (some (.int (Int32.ofInt Lv))), (some (.int (Int32.ofInt begun))), (some (.int (Int32.ofInt x3_31)))], [.int (Int32.ofInt 1)], zk c m_31)) ⟨[zo], _, rfl, ⟨trivial, trivial⟩⟩ rfl ?_
    exact zW.fin (zfin_i rfl rfl rfl) ⟨1, m_31, rfl, rfl, hIm_31, (by omega), (by omega), tN_31⟩

set_option maxRecDepth 100000 in
set_option maxHeartbeats 4000000 in
theorem L_X10_truths_G_13 (zn : Bool) (d : Nat) {c : Nat × Nat} {mM : zM} (hN : 107 ≤ c.1) (hC : c.1 < z_RO) (begun : Int) (Lv : Int) (h_unit : ∀ (begun : Int) (m : zM) (hIm : zI c mM m) (r_begun : -2147483648 ≤ begun ∧ begun ≤ 2147483647) (hb : 0 ≤ begun ∧ begun ≤ 1), zCi zn (d + 8) 125 [.ref 10, .int (Int32.ofInt Lv), .int (Int32.ofInt begun)] c m (fun (r : Int) (m1 : zM) => zI c mM m1 ∧ (0 ≤ r ∧ r ≤ 1) ∧ (m1 10 2 - m1 1 2 ≤ m 10 2 - m 1 2) ∧ zN m m1)) (r_begun : -2147483648 ≤ begun ∧ begun ≤ 2147483647) (hLv : 0 ≤ Lv ∧ Lv ≤ 6) (hb : 0 ≤ begun ∧ begun ≤ 1) (m0 : zM) (Q : Option Value → z_H → Prop) (KR : ∀ v h1, (fun v h1 => ∃ (r : Int) (m1 : zM), v = some (.int (Int32.ofInt r)) ∧ h1 = zk c m1 ∧ zI c mM m1 ∧ (0 ≤ r ∧ r ≤ 1) ∧ (m1 10 2 - m1 1 2 ≤ m0 10 2 - m0 1 2) ∧ zN m0 m1) v h1 → Q v h1) (K : ∀ (x3 : Int) (m : zM), zI c mM m → 0 ≤ x3 ∧ x3 ≤ 240 → m 10 2 - m 1 2 ≤ m0 10 2 - m0 1 2 → 0 ≤ Lv ∧ Lv ≤ 6 → zN m0 m → zW zn (d + 8) 124 c (57, [(some (.ref 10)), (some (.int (Int32.ofInt Lv))), (some (.int (Int32.ofInt begun))), (some (.int (Int32.ofInt x3)))], [], zk c m) Q) :
    ∀ (w : Nat) (x3 : Int) (m : zM), zI c mM m → 0 ≤ x3 ∧ x3 ≤ 240 → m 10 2 - m 1 2 ≤ m0 10 2 - m0 1 2 → 0 ≤ Lv ∧ Lv ≤ 6 → zN m0 m → w = (240 - x3).toNat → zW zn (d + 8) 124 c (13, [(some (.ref 10)), (some (.int (Int32.ofInt Lv))), (some (.int (Int32.ofInt begun))), (some (.int (Int32.ofInt x3)))], [], zk c m) Q := by
  intro w
  induction w using Nat.strongRecOn with | _ w ih => ?_
  intro x3 m hIm i1 pt hLw tN hw
  have f1 : (0 : Int) ≤ m 1 1 ∧ m 1 1 ≤ 240 := hIm.1 1 1
  have f2 : (0 : Int) ≤ m 1 2 ∧ m 1 2 ≤ 240 := hIm.1 1 2
  have f3 : (0 : Int) ≤ m 10 2 ∧ m 10 2 ≤ 240 := hIm.1 10 2
  by_cases b4 : 240 ≤ x3
  · refine zW.step (st1 := (57, [(some (.ref 10)), (some (.int (Int32.ofInt Lv))), (some (.int (Int32.ofInt begun))), (some (.int (Int32.ofInt x3)))], [], zk c m)) (st2 := (57, [(some (.ref 10)), (some (.int (Int32.ofInt Lv))), (some (.int (Int32.ofInt begun))), (some (.int (Int32.ofInt x3)))], [], zk c m)) ⟨[zo, zo, zt], _, rfl, ⟨trivial, trivial, zbt ((zi_le (by decide : (Int16.ofInt 240).toInt32 = Int32.ofInt 240) rfl (⟨by decide, by decide⟩ : zR 240) (by unfold zR; omega)).mpr b4), trivial⟩⟩ rfl ?_
    exact K x3 m hIm (by omega) (by omega) (by omega) tN
  · refine zW.step (st1 := (20, [(some (.ref 10)), (some (.int (Int32.ofInt Lv))), (some (.int (Int32.ofInt begun))), (some (.int (Int32.ofInt x3)))], [], zk c m)) (st2 := (20, [(some (.ref 10)), (some (.int (Int32.ofInt Lv))), (some (.int (Int32.ofInt begun))), (some (.int (Int32.ofInt x3)))], [], zk c m)) ⟨[zo, zo, zo], _, rfl, ⟨trivial, trivial, zbf (fun q => b4 ((zi_le (by decide : (Int16.ofInt 240).toInt32 = Int32.ofInt 240) rfl (⟨by decide, by decide⟩ : zR 240) (by unfold zR; omega)).mp q)), trivial⟩⟩ rfl ?_
    refine zW.step (st1 := (26, [(some (.ref 10)), (some (.int (Int32.ofInt Lv))), (some (.int (Int32.ofInt begun))), (some (.int (Int32.ofInt x3)))], [.int ((Int8.ofInt 38).toInt32), .ref 1], zk c m)) (st2 := (26, [(some (.ref 10)), (some (.int (Int32.ofInt Lv))), (some (.int (Int32.ofInt begun))), (some (.int (Int32.ofInt x3)))], [.int (Int32.ofInt 38), .ref 1], zk c m)) ⟨[zo, zo, zo], _, rfl, ⟨trivial, (Nat.lt_of_lt_of_le (Nat.le_of_ble_eq_true rfl) hN), trivial, trivial⟩⟩ (z_steq rfl (z_c1 (z_vi (by decide : (Int8.ofInt 38).toInt32 = Int32.ofInt 38)) rfl) rfl) ?_
    obtain ⟨r5, m5, hs5, hIm5, z_5, l_5, a9_5, q_5, r9_5, p9_5, n9_5, e2_5, kN_5⟩ := S_X8_takes zn (d + 5) hN hC 38 m hIm (by omega) (by omega)
    refine zW.step (st1 := (29, [(some (.ref 10)), (some (.int (Int32.ofInt Lv))), (some (.int (Int32.ofInt begun))), (some (.int (Int32.ofInt x3)))], [.int (Int32.ofInt r5)], zk c m5)) ⟨[zc (some (.int (Int32.ofInt r5))) (zk c m5)], _, rfl, ⟨⟨⟨(Nat.lt_of_lt_of_le (Nat.le_of_ble_eq_true rfl) hN), (Nat.le_of_ble_eq_true rfl)⟩, hs5, (Nat.le_of_ble_eq_true rfl), Nat.le_refl _, Nat.le_refl _, Nat.le_refl _, Nat.le_refl _⟩, trivial⟩⟩ rfl ?_
    have f6 : (0 : Int) ≤ m5 1 1 ∧ m5 1 1 ≤ 240 := hIm5.1 1 1
    have f7 : (0 : Int) ≤ m5 1 2 ∧ m5 1 2 ≤ 240 := hIm5.1 1 2
    have f8 : (0 : Int) ≤ m5 10 2 ∧ m5 10 2 ≤ 240 := hIm5.1 10 2
    have tk9 : zN m0 m5 := zN_tr tN kN_5
    by_cases b10 : r5 = 0
    · refine zW.step (st1 := (57, [(some (.ref 10)), (some (.int (Int32.ofInt Lv))), (some (.int (Int32.ofInt begun))), (some (.int (Int32.ofInt x3)))], [], zk c m5)) (st2 := (57, [(some (.ref 10)), (some (.int (Int32.ofInt Lv))), (some (.int (Int32.ofInt begun))), (some (.int (Int32.ofInt x3)))], [], zk c m5)) ⟨[zt], _, rfl, ⟨zbt ((zi_eq rfl (rfl : (0 : Int32) = Int32.ofInt 0) (by unfold zR; omega) (⟨by decide, by decide⟩ : zR 0)).mpr b10), trivial⟩⟩ rfl ?_
      exact K x3 m5 hIm5 (by omega) (by omega) (by omega) tk9
    · refine zW.step (st1 := (32, [(some (.ref 10)), (some (.int (Int32.ofInt Lv))), (some (.int (Int32.ofInt begun))), (some (.int (Int32.ofInt x3)))], [], zk c m5)) (st2 := (32, [(some (.ref 10)), (some (.int (Int32.ofInt Lv))), (some (.int (Int32.ofInt begun))), (some (.int (Int32.ofInt x3)))], [], zk c m5)) ⟨[zo], _, rfl, ⟨zbf (fun q => b10 ((zi_eq rfl (rfl : (0 : Int32) = Int32.ofInt 0) (by unfold zR; omega) (⟨by decide, by decide⟩ : zR 0)).mp q)), trivial⟩⟩ rfl ?_
      refine zW.step (st1 := (35, [(some (.ref 10)), (some (.int (Int32.ofInt Lv))), (some (.int (Int32.ofInt begun))), (some (.int (Int32.ofInt x3)))], [.int (Int32.ofInt 0), .int (Int32.ofInt Lv), .ref 10], zk c m5)) (st2 := (35, [(some (.ref 10)), (some (.int (Int32.ofInt Lv))), (some (.int (Int32.ofInt begun))), (some (.int (Int32.ofInt x3)))], [.int (Int32.ofInt 0), .int (Int32.ofInt Lv), .ref 10], zk c m5)) ⟨[zo, zo, zo], _, rfl, ⟨trivial, trivial, trivial, trivial⟩⟩ rfl ?_
      obtain ⟨r11, m11, hs11, hIm11, z_11, p9_11, kN_11⟩ := h_unit 0 m5 hIm5 (by omega) (by omega)
      refine zW.step (st1 := (38, [(some (.ref 10)), (some (.int (Int32.ofInt Lv))), (some (.int (Int32.ofInt begun))), (some (.int (Int32.ofInt x3)))], [.int (Int32.ofInt r11)], zk c m11)) ⟨[zc (some (.int (Int32.ofInt r11))) (zk c m11)], _, rfl, ⟨⟨⟨(Nat.lt_of_lt_of_le (Nat.le_of_ble_eq_true rfl) hN), (Nat.le_of_ble_eq_true rfl)⟩, hs11, (Nat.le_of_ble_eq_true rfl), Nat.le_refl _, Nat.le_refl _, Nat.le_refl _, Nat.le_refl _⟩, trivial⟩⟩ rfl ?_
      have f12 : (0 : Int) ≤ m11 1 1 ∧ m11 1 1 ≤ 240 := hIm11.1 1 1
      have f13 : (0 : Int) ≤ m11 1 2 ∧ m11 1 2 ≤ 240 := hIm11.1 1 2
      have f14 : (0 : Int) ≤ m11 10 2 ∧ m11 10 2 ≤ 240 := hIm11.1 10 2
      have tk15 : zN m0 m11 := zN_tr tk9 kN_11
      by_cases b16 : r11 = 0
      · refine zW.step (st1 := (41, [(some (.ref 10)), (some (.int (Int32.ofInt Lv))), (some (.int (Int32.ofInt begun))), (some (.int (Int32.ofInt x3)))], [], zk c m11)) (st2 := (41, [(some (.ref 10)), (some (.int (Int32.ofInt Lv))), (some (.int (Int32.ofInt begun))), (some (.int (Int32.ofInt x3)))], [], zk c m11)) ⟨[zo], _, rfl, ⟨zbf (fun q => q ((zi_eq rfl (rfl : (0 : Int32) = Int32.ofInt 0) (by unfold zR; omega) (⟨by decide, by decide⟩ : zR 0)).mpr b16)), trivial⟩⟩ rfl ?_
        refine zW.step (st1 := (42, [(some (.ref 10)), (some (.int (Int32.ofInt Lv))), (some (.int (Int32.ofInt begun))), (some (.int (Int32.ofInt x3)))], [.int (Int32.ofInt 0)], zk c m11)) (st2 := (42, [(some (.ref 10)), (some (.int (Int32.ofInt Lv))), (some (.int (Int32.ofInt begun))), (some (.int (Int32.ofInt x3)))], [.int (Int32.ofInt 0)], zk c m11)) ⟨[zo], _, rfl, ⟨trivial, trivial⟩⟩ rfl ?_
        exact zW.fin (zfin_i rfl rfl rfl) (KR _ _ ⟨0, m11, rfl, rfl, hIm11, (by omega), (by omega), tk15⟩)
      · refine zW.step (st1 := (43, [(some (.ref 10)), (some (.int (Int32.ofInt Lv))), (some (.int (Int32.ofInt begun))), (some (.int (Int32.ofInt x3)))], [], zk c m11)) (st2 := (43, [(some (.ref 10)), (some (.int (Int32.ofInt Lv))), (some (.int (Int32.ofInt begun))), (some (.int (Int32.ofInt x3)))], [], zk c m11)) ⟨[zt], _, rfl, ⟨zbt (fun q => b16 ((zi_eq rfl (rfl : (0 : Int32) = Int32.ofInt 0) (by unfold zR; omega) (⟨by decide, by decide⟩ : zR 0)).mp q)), trivial⟩⟩ rfl ?_
        refine zW.step (st1 := (47, [(some (.ref 10)), (some (.int (Int32.ofInt Lv))), (some (.int (Int32.ofInt begun))), (some (.int (Int32.ofInt x3)))], [.int (Int32.ofInt 0), .int ((Int8.ofInt 12).toInt32), .ref 10], zk c m11)) (st2 := (47, [(some (.ref 10)), (some (.int (Int32.ofInt Lv))), (some (.int (Int32.ofInt begun))), (some (.int (Int32.ofInt x3)))], [.int (Int32.ofInt 0), .int (Int32.ofInt 12), .ref 10], zk c m11)) ⟨[zo, zo, zo], _, rfl, ⟨trivial, trivial, trivial, trivial⟩⟩ (z_steq rfl (z_c1 rfl (z_c1 (z_vi (by decide : (Int8.ofInt 12).toInt32 = Int32.ofInt 12)) rfl)) rfl) ?_
        obtain ⟨r17, m17, hs17, hIm17, z_17, p9_17, kN_17⟩ := S_X10_emit zn (d + 7) hN hC 12 0 m11 hIm11 (by omega) (by omega) (by omega) (by omega)
        refine zW.step (st1 := (50, [(some (.ref 10)), (some (.int (Int32.ofInt Lv))), (some (.int (Int32.ofInt begun))), (some (.int (Int32.ofInt x3)))], [.int (Int32.ofInt r17)], zk c m17)) ⟨[zc (some (.int (Int32.ofInt r17))) (zk c m17)], _, rfl, ⟨⟨⟨(Nat.lt_of_lt_of_le (Nat.le_of_ble_eq_true rfl) hN), (Nat.le_of_ble_eq_true rfl)⟩, hs17, (Nat.le_of_ble_eq_true rfl), Nat.le_refl _, Nat.le_refl _, Nat.le_refl _, Nat.le_refl _⟩, trivial⟩⟩ rfl ?_
        have f18 : (0 : Int) ≤ m17 1 1 ∧ m17 1 1 ≤ 240 := hIm17.1 1 1
        have f19 : (0 : Int) ≤ m17 1 2 ∧ m17 1 2 ≤ 240 := hIm17.1 1 2
        have f20 : (0 : Int) ≤ m17 10 2 ∧ m17 10 2 ≤ 240 := hIm17.1 10 2
        have tk21 : zN m0 m17 := zN_tr tk15 kN_17
        refine zW.step (st1 := (13, [(some (.ref 10)), (some (.int (Int32.ofInt Lv))), (some (.int (Int32.ofInt begun))), (some (.int ((Int32.ofInt x3) + Int32.ofInt 1)))], [], zk c m17)) (st2 := (13, [(some (.ref 10)), (some (.int (Int32.ofInt Lv))), (some (.int (Int32.ofInt begun))), (some (.int (Int32.ofInt (x3 + 1))))], [], zk c m17)) ⟨[zo, zo, zo], _, rfl, ⟨trivial, trivial, trivial, trivial⟩⟩ (z_steq (z_c1 rfl (z_c1 rfl (z_c1 rfl (z_c1 (z_si (zi_add rfl rfl)) rfl)))) rfl rfl) ?_
        exact ih _ (by omega) (x3 + 1) m17 hIm17 (by omega) (by omega) (by omega) tk21 rfl

set_option maxRecDepth 100000 in
set_option maxHeartbeats 4000000 in
theorem S_X10_truths_G (zn : Bool) (d : Nat) {c : Nat × Nat} {mM : zM} (hN : 107 ≤ c.1) (hC : c.1 < z_RO) (begun : Int) (Lv : Int) (h_unit : ∀ (begun : Int) (m : zM) (hIm : zI c mM m) (r_begun : -2147483648 ≤ begun ∧ begun ≤ 2147483647) (hb : 0 ≤ begun ∧ begun ≤ 1), zCi zn (d + 8) 125 [.ref 10, .int (Int32.ofInt Lv), .int (Int32.ofInt begun)] c m (fun (r : Int) (m1 : zM) => zI c mM m1 ∧ (0 ≤ r ∧ r ≤ 1) ∧ (m1 10 2 - m1 1 2 ≤ m 10 2 - m 1 2) ∧ zN m m1)) (m : zM) (hIm : zI c mM m) (r_begun : -2147483648 ≤ begun ∧ begun ≤ 2147483647) (hLv : 0 ≤ Lv ∧ Lv ≤ 6) (hb : 0 ≤ begun ∧ begun ≤ 1) : zCi zn (d + 9) 124 [.ref 10, .int (Int32.ofInt Lv), .int (Int32.ofInt begun)] c m (fun (r : Int) (m1 : zM) => zI c mM m1 ∧ (0 ≤ r ∧ r ≤ 1) ∧ (m1 10 2 - m1 1 2 ≤ m 10 2 - m 1 2) ∧ zN m m1) := by
  refine zCi.of zu_X10_truths hC (Nat.le_of_ble_eq_true rfl) ?_
  show zW zn (d + 8) 124 c (0, [(some (.ref 10)), (some (.int (Int32.ofInt Lv))), (some (.int (Int32.ofInt begun))), none], [], zk c m) (fun v h1 => ∃ (r : Int) (m1 : zM), v = some (.int (Int32.ofInt r)) ∧ h1 = zk c m1 ∧ zI c mM m1 ∧ (0 ≤ r ∧ r ≤ 1) ∧ (m1 10 2 - m1 1 2 ≤ m 10 2 - m 1 2) ∧ zN m m1)
  have f22 : (0 : Int) ≤ m 1 1 ∧ m 1 1 ≤ 240 := hIm.1 1 1
  have f23 : (0 : Int) ≤ m 1 2 ∧ m 1 2 ≤ 240 := hIm.1 1 2
  have f24 : (0 : Int) ≤ m 10 2 ∧ m 10 2 ≤ 240 := hIm.1 10 2
  refine zW.step (st1 := (3, [(some (.ref 10)), (some (.int (Int32.ofInt Lv))), (some (.int (Int32.ofInt begun))), none], [.int (Int32.ofInt begun), .int (Int32.ofInt Lv), .ref 10], zk c m)) (st2 := (3, [(some (.ref 10)), (some (.int (Int32.ofInt Lv))), (some (.int (Int32.ofInt begun))), none], [.int (Int32.ofInt begun), .int (Int32.ofInt Lv), .ref 10], zk c m)) ⟨[zo, zo, zo], _, rfl, ⟨trivial, trivial, trivial, trivial⟩⟩ rfl ?_
  obtain ⟨r25, m25, hs25, hIm25, z_25, p9_25, kN_25⟩ := h_unit begun m hIm (by omega) (by omega)
  refine zW.step (st1 := (6, [(some (.ref 10)), (some (.int (Int32.ofInt Lv))), (some (.int (Int32.ofInt begun))), none], [.int (Int32.ofInt r25)], zk c m25)) ⟨[zc (some (.int (Int32.ofInt r25))) (zk c m25)], _, rfl, ⟨⟨⟨(Nat.lt_of_lt_of_le (Nat.le_of_ble_eq_true rfl) hN), (Nat.le_of_ble_eq_true rfl)⟩, hs25, (Nat.le_of_ble_eq_true rfl), Nat.le_refl _, Nat.le_refl _, Nat.le_refl _, Nat.le_refl _⟩, trivial⟩⟩ rfl ?_
  have f26 : (0 : Int) ≤ m25 1 1 ∧ m25 1 1 ≤ 240 := hIm25.1 1 1
  have f27 : (0 : Int) ≤ m25 1 2 ∧ m25 1 2 ≤ 240 := hIm25.1 1 2
  have f28 : (0 : Int) ≤ m25 10 2 ∧ m25 10 2 ≤ 240 := hIm25.1 10 2
  have tk29 : zN m m25 := zN_tr zN_rf kN_25
  by_cases b30 : r25 = 0
  · refine zW.step (st1 := (9, [(some (.ref 10)), (some (.int (Int32.ofInt Lv))), (some (.int (Int32.ofInt begun))), none], [], zk c m25)) (st2 := (9, [(some (.ref 10)), (some (.int (Int32.ofInt Lv))), (some (.int (Int32.ofInt begun))), none], [], zk c m25)) ⟨[zo], _, rfl, ⟨zbf (fun q => q ((zi_eq rfl (rfl : (0 : Int32) = Int32.ofInt 0) (by unfold zR; omega) (⟨by decide, by decide⟩ : zR 0)).mpr b30)), trivial⟩⟩ rfl ?_
    refine zW.step (st1 := (10, [(some (.ref 10)), (some (.int (Int32.ofInt Lv))), (some (.int (Int32.ofInt begun))), none], [.int (Int32.ofInt 0)], zk c m25)) (st2 := (10, [(some (.ref 10)), (some (.int (Int32.ofInt Lv))), (some (.int (Int32.ofInt begun))), none], [.int (Int32.ofInt 0)], zk c m25)) ⟨[zo], _, rfl, ⟨trivial, trivial⟩⟩ rfl ?_
    exact zW.fin (zfin_i rfl rfl rfl) ⟨0, m25, rfl, rfl, hIm25, (by omega), (by omega), tk29⟩
  · refine zW.step (st1 := (11, [(some (.ref 10)), (some (.int (Int32.ofInt Lv))), (some (.int (Int32.ofInt begun))), none], [], zk c m25)) (st2 := (11, [(some (.ref 10)), (some (.int (Int32.ofInt Lv))), (some (.int (Int32.ofInt begun))), none], [], zk c m25)) ⟨[zt], _, rfl, ⟨zbt (fun q => b30 ((zi_eq rfl (rfl : (0 : Int32) = Int32.ofInt 0) (by unfold zR; omega) (⟨by decide, by decide⟩ : zR 0)).mp q)), trivial⟩⟩ rfl ?_
    refine zW.step (st1 := (13, [(some (.ref 10)), (some (.int (Int32.ofInt Lv))), (some (.int (Int32.ofInt begun))), (some (.int (Int32.ofInt 0)))], [], zk c m25)) (st2 := (13, [(some (.ref 10)), (some (.int (Int32.ofInt Lv))), (some (.int (Int32.ofInt begun))), (some (.int (Int32.ofInt 0)))], [], zk c m25)) ⟨[zo, zo], _, rfl, ⟨trivial, trivial, trivial⟩⟩ rfl ?_
    refine L_X10_truths_G_13 zn _ hN hC begun Lv h_unit r_begun hLv hb m _ (fun v9 h9 hq9 => hq9) (fun x3_31 m_31 hIm_31 i1_31 pt_31 hLw_31 tN_31 => ?_) _ 0 m25 hIm25 (by omega) (by omega) (by omega) tk29 rfl
    have f32 : (0 : Int) ≤ m_31 1 1 ∧ m_31 1 1 ≤ 240 := hIm_31.1 1 1
    have f33 : (0 : Int) ≤ m_31 1 2 ∧ m_31 1 2 ≤ 240 := hIm_31.1 1 2
    have f34 : (0 : Int) ≤ m_31 10 2 ∧ m_31 10 2 ≤ 240 := hIm_31.1 10 2
    refine zW.step (st1 := (58, [(some (.ref 10)), (some (.int (Int32.ofInt Lv))), (some (.int (Int32.ofInt begun))), (some (.int (Int32.ofInt x3_31)))], [.int (Int32.ofInt 1)], zk c m_31)) (st2 := (58, [(some (.ref 10)), (some (.int (Int32.ofInt Lv))), (some (.int (Int32.ofInt begun))), (some (.int (Int32.ofInt x3_31)))], [.int (Int32.ofInt 1)], zk c m_31)) ⟨[zo], _, rfl, ⟨trivial, trivial⟩⟩ rfl ?_
    exact zW.fin (zfin_i rfl rfl rfl) ⟨1, m_31, rfl, rfl, hIm_31, (by omega), (by omega), tN_31⟩

