/-! what methods do over memory, by program (wip/tools/gw): X10_read, X11_fault, X11_taste, K0_coder_0, K0_isLatin1_0, K0_length_0, K3_checkIndex, K0_checkIndex, K1_charAt_100, K0_charAt_0, X12_placeOf_0, K0_coder_1, K0_isLatin1_1, K0_length_1, K1_charAt_101, K0_charAt_1, X12_placeOf_1, K0_coder_2, K0_isLatin1_2, K0_length_2, K1_charAt_102, K0_charAt_2, X12_placeOf_2, K0_coder_3, K0_isLatin1_3, K0_length_3, K1_charAt_103, K0_charAt_3, X12_isAmong_3, K0_coder_5, K0_isLatin1_5, K0_length_5, K1_charAt_105, K0_charAt_5, X12_isAmong_5 -/
set_option maxRecDepth 100000 in
set_option maxHeartbeats 4000000 in
theorem L_X10_read_20 (zn : Bool) (d : Nat) {c : Nat × Nat} {mM : zM} (hN : 107 ≤ c.1) (hC : c.1 < z_RO) (m0 : zM) (Q : Option Value → z_H → Prop) (KR : ∀ v h1, (fun v h1 => ∃ (r : Int) (m1 : zM), v = some (.int (Int32.ofInt r)) ∧ h1 = zk c m1 ∧ zI c mM m1 ∧ (-2147483648 ≤ r ∧ r ≤ 2147483647) ∧ (r = -1 → m1 10 2 ≤ 239) ∧ zN m0 m1) v h1 → Q v h1) (K : ∀ (x1 : Int) (m : zM), zI c mM m → 0 ≤ x1 ∧ x1 ≤ 240 → x1 = 0 ∧ m 10 2 ≤ m 1 2 ∨ m 10 2 + 1 ≤ m 1 2 → zN m0 m → m 10 2 + 1 ≤ m 1 2 → zW zn (d + 35) 121 c (63, [(some (.ref 10)), (some (.int (Int32.ofInt x1)))], [], zk c m) Q) :
    ∀ (w : Nat) (x1 : Int) (m : zM), zI c mM m → 0 ≤ x1 ∧ x1 ≤ 240 → x1 = 0 ∧ m 10 2 ≤ m 1 2 ∨ m 10 2 + 1 ≤ m 1 2 → zN m0 m → w = (240 - x1).toNat → zW zn (d + 35) 121 c (20, [(some (.ref 10)), (some (.int (Int32.ofInt x1)))], [], zk c m) Q := by
  intro w
  induction w using Nat.strongRecOn with | _ w ih => ?_
  intro x1 m hIm i1 pt tN hw
  have f1 : (0 : Int) ≤ m 1 1 ∧ m 1 1 ≤ 240 := hIm.1 1 1
  have f2 : (0 : Int) ≤ m 1 2 ∧ m 1 2 ≤ 240 := hIm.1 1 2
  have f3 : (0 : Int) ≤ m 10 2 ∧ m 10 2 ≤ 240 := hIm.1 10 2
  by_cases b4 : 240 ≤ x1
  · refine zW.step (st1 := (63, [(some (.ref 10)), (some (.int (Int32.ofInt x1)))], [], zk c m)) (st2 := (63, [(some (.ref 10)), (some (.int (Int32.ofInt x1)))], [], zk c m)) ⟨[zo, zo, zt], _, rfl, ⟨trivial, trivial, zbt ((zi_le (by decide : (Int16.ofInt 240).toInt32 = Int32.ofInt 240) rfl (⟨by decide, by decide⟩ : zR 240) (by unfold zR; omega)).mpr b4), trivial⟩⟩ rfl ?_
    exact K x1 m hIm (by omega) (by omega) tN (by omega)
  · refine zW.step (st1 := (27, [(some (.ref 10)), (some (.int (Int32.ofInt x1)))], [], zk c m)) (st2 := (27, [(some (.ref 10)), (some (.int (Int32.ofInt x1)))], [], zk c m)) ⟨[zo, zo, zo], _, rfl, ⟨trivial, trivial, zbf (fun q => b4 ((zi_le (by decide : (Int16.ofInt 240).toInt32 = Int32.ofInt 240) rfl (⟨by decide, by decide⟩ : zR 240) (by unfold zR; omega)).mp q)), trivial⟩⟩ rfl ?_
    refine zW.step (st1 := (28, [(some (.ref 10)), (some (.int (Int32.ofInt x1)))], [.ref 10], zk c m)) (st2 := (28, [(some (.ref 10)), (some (.int (Int32.ofInt x1)))], [.ref 10], zk c m)) ⟨[zo], _, rfl, ⟨trivial, trivial⟩⟩ rfl ?_
    obtain ⟨r5, m5, hs5, hIm5, z_5, p9_5, kN_5⟩ := S_X10_clause zn (d + 0) hN hC m hIm
    refine zW.step (st1 := (31, [(some (.ref 10)), (some (.int (Int32.ofInt x1)))], [.int (Int32.ofInt r5)], zk c m5)) ⟨[zc (some (.int (Int32.ofInt r5))) (zk c m5)], _, rfl, ⟨⟨⟨(Nat.lt_of_lt_of_le (Nat.le_of_ble_eq_true rfl) hN), (Nat.le_of_ble_eq_true rfl)⟩, hs5, (Nat.le_of_ble_eq_true rfl), Nat.le_refl _, Nat.le_refl _, Nat.le_refl _, Nat.le_refl _⟩, trivial⟩⟩ rfl ?_
    have f6 : (0 : Int) ≤ m5 1 1 ∧ m5 1 1 ≤ 240 := hIm5.1 1 1
    have f7 : (0 : Int) ≤ m5 1 2 ∧ m5 1 2 ≤ 240 := hIm5.1 1 2
    have f8 : (0 : Int) ≤ m5 10 2 ∧ m5 10 2 ≤ 240 := hIm5.1 10 2
    have tk9 : zN m0 m5 := zN_tr tN kN_5
    by_cases b10 : r5 = 0
    · refine zW.step (st1 := (34, [(some (.ref 10)), (some (.int (Int32.ofInt x1)))], [], zk c m5)) (st2 := (34, [(some (.ref 10)), (some (.int (Int32.ofInt x1)))], [], zk c m5)) ⟨[zo], _, rfl, ⟨zbf (fun q => q ((zi_eq rfl (rfl : (0 : Int32) = Int32.ofInt 0) (by unfold zR; omega) (⟨by decide, by decide⟩ : zR 0)).mpr b10)), trivial⟩⟩ rfl ?_
      refine zW.step (st1 := (41, [(some (.ref 10)), (some (.int (Int32.ofInt x1)))], [.int (Int32.ofInt (m5 1 2))], zk c m5)) (st2 := (41, [(some (.ref 10)), (some (.int (Int32.ofInt x1)))], [.int (Int32.ofInt (m5 1 2))], zk c m5)) ⟨[zo, zo, zo], _, rfl, ⟨trivial, (Nat.lt_of_lt_of_le (Nat.le_of_ble_eq_true rfl) hN), (Nat.lt_of_lt_of_le (Nat.le_of_ble_eq_true rfl) hN), trivial⟩⟩ rfl ?_
      exact zW.fin (zfin_i rfl rfl rfl) (KR _ _ ⟨m5 1 2, m5, rfl, rfl, hIm5, (by omega), (by omega), tk9⟩)
    · refine zW.step (st1 := (42, [(some (.ref 10)), (some (.int (Int32.ofInt x1)))], [], zk c m5)) (st2 := (42, [(some (.ref 10)), (some (.int (Int32.ofInt x1)))], [], zk c m5)) ⟨[zt], _, rfl, ⟨zbt (fun q => b10 ((zi_eq rfl (rfl : (0 : Int32) = Int32.ofInt 0) (by unfold zR; omega) (⟨by decide, by decide⟩ : zR 0)).mp q)), trivial⟩⟩ rfl ?_
      refine zW.step (st1 := (48, [(some (.ref 10)), (some (.int (Int32.ofInt x1)))], [.int ((Int8.ofInt 59).toInt32), .ref 1], zk c m5)) (st2 := (48, [(some (.ref 10)), (some (.int (Int32.ofInt x1)))], [.int (Int32.ofInt 59), .ref 1], zk c m5)) ⟨[zo, zo, zo], _, rfl, ⟨trivial, (Nat.lt_of_lt_of_le (Nat.le_of_ble_eq_true rfl) hN), trivial, trivial⟩⟩ (z_steq rfl (z_c1 (z_vi (by decide : (Int8.ofInt 59).toInt32 = Int32.ofInt 59)) rfl) rfl) ?_
      obtain ⟨r11, m11, hs11, hIm11, z_11, l_11, a9_11, q_11, r9_11, p9_11, n9_11, e2_11, kN_11⟩ := S_X8_takes zn (d + 32) hN hC 59 m5 hIm5 (by omega) (by omega)
      refine zW.step (st1 := (51, [(some (.ref 10)), (some (.int (Int32.ofInt x1)))], [.int (Int32.ofInt r11)], zk c m11)) ⟨[zc (some (.int (Int32.ofInt r11))) (zk c m11)], _, rfl, ⟨⟨⟨(Nat.lt_of_lt_of_le (Nat.le_of_ble_eq_true rfl) hN), (Nat.le_of_ble_eq_true rfl)⟩, hs11, (Nat.le_of_ble_eq_true rfl), Nat.le_refl _, Nat.le_refl _, Nat.le_refl _, Nat.le_refl _⟩, trivial⟩⟩ rfl ?_
      have f12 : (0 : Int) ≤ m11 1 1 ∧ m11 1 1 ≤ 240 := hIm11.1 1 1
      have f13 : (0 : Int) ≤ m11 1 2 ∧ m11 1 2 ≤ 240 := hIm11.1 1 2
      have f14 : (0 : Int) ≤ m11 10 2 ∧ m11 10 2 ≤ 240 := hIm11.1 10 2
      have tk15 : zN m0 m11 := zN_tr tk9 kN_11
      by_cases b16 : r11 = 0
      · refine zW.step (st1 := (54, [(some (.ref 10)), (some (.int (Int32.ofInt x1)))], [], zk c m11)) (st2 := (54, [(some (.ref 10)), (some (.int (Int32.ofInt x1)))], [], zk c m11)) ⟨[zo], _, rfl, ⟨zbf (fun q => q ((zi_eq rfl (rfl : (0 : Int32) = Int32.ofInt 0) (by unfold zR; omega) (⟨by decide, by decide⟩ : zR 0)).mpr b16)), trivial⟩⟩ rfl ?_
        refine zW.step (st1 := (63, [(some (.ref 10)), (some (.int (Int32.ofInt x1)))], [], zk c m11)) (st2 := (63, [(some (.ref 10)), (some (.int (Int32.ofInt x1)))], [], zk c m11)) ⟨[zo], _, rfl, ⟨trivial, trivial⟩⟩ rfl ?_
        exact K x1 m11 hIm11 (by omega) (by omega) tk15 (by omega)
      · refine zW.step (st1 := (57, [(some (.ref 10)), (some (.int (Int32.ofInt x1)))], [], zk c m11)) (st2 := (57, [(some (.ref 10)), (some (.int (Int32.ofInt x1)))], [], zk c m11)) ⟨[zt], _, rfl, ⟨zbt (fun q => b16 ((zi_eq rfl (rfl : (0 : Int32) = Int32.ofInt 0) (by unfold zR; omega) (⟨by decide, by decide⟩ : zR 0)).mp q)), trivial⟩⟩ rfl ?_
        refine zW.step (st1 := (20, [(some (.ref 10)), (some (.int ((Int32.ofInt x1) + Int32.ofInt 1)))], [], zk c m11)) (st2 := (20, [(some (.ref 10)), (some (.int (Int32.ofInt (x1 + 1))))], [], zk c m11)) ⟨[zo, zo], _, rfl, ⟨trivial, trivial, trivial⟩⟩ (z_steq (z_c1 rfl (z_c1 (z_si (zi_add rfl rfl)) rfl)) rfl rfl) ?_
        exact ih _ (by omega) (x1 + 1) m11 hIm11 (by omega) (by omega) tk15 rfl

set_option maxRecDepth 100000 in
set_option maxHeartbeats 4000000 in
theorem S_X10_read (zn : Bool) (d : Nat) {c : Nat × Nat} {mM : zM} (hN : 107 ≤ c.1) (hC : c.1 < z_RO) (m : zM) (hIm : zI c mM m) : zCi zn (d + 36) 121 [.ref 10] c m (fun (r : Int) (m1 : zM) => zI c mM m1 ∧ (-2147483648 ≤ r ∧ r ≤ 2147483647) ∧ (r = -1 → m1 10 2 ≤ 239) ∧ zN m m1) := by
  refine zCi.of zu_X10_read hC (Nat.le_of_ble_eq_true rfl) ?_
  show zW zn (d + 35) 121 c (0, [(some (.ref 10)), none], [], zk c m) (fun v h1 => ∃ (r : Int) (m1 : zM), v = some (.int (Int32.ofInt r)) ∧ h1 = zk c m1 ∧ zI c mM m1 ∧ (-2147483648 ≤ r ∧ r ≤ 2147483647) ∧ (r = -1 → m1 10 2 ≤ 239) ∧ zN m m1)
  have f17 : (0 : Int) ≤ m 1 1 ∧ m 1 1 ≤ 240 := hIm.1 1 1
  have f18 : (0 : Int) ≤ m 1 2 ∧ m 1 2 ≤ 240 := hIm.1 1 2
  have f19 : (0 : Int) ≤ m 10 2 ∧ m 10 2 ≤ 240 := hIm.1 10 2
  obtain ⟨m20, hm20⟩ : ∃ q, q = zm_up m 10 2 0 := ⟨_, rfl⟩
  have hIm20 : zI c mM m20 := by rw [hm20]; exact zI_up hIm (zOk_p (by decide)) (show (0 : Int) ≤ 0 ∧ 0 ≤ 240 by omega)
  have em20 : m20 10 2 = 0 := by rw [hm20]; exact zm_eq
  have f21 : m20 1 1 = m 1 1 := by rw [hm20]; exact zm_ne (by omega)
  have f22 : m20 1 2 = m 1 2 := by rw [hm20]; exact zm_ne (by omega)
  have tk23 : zN m m20 := by rw [hm20]; exact zN_up zN_rf (by unfold zRow; omega)
  refine zW.step (st1 := (5, [(some (.ref 10)), none], [], z_hup (zk c m) 10 (.inr (10, [.ref 1, .ref 11, .int (Int32.ofInt 0), .int (Int32.ofInt (m 10 3))])))) (st2 := (5, [(some (.ref 10)), none], [], zk c m20)) ⟨[zo, zo, zo], _, rfl, ⟨trivial, trivial, ⟨(Nat.lt_of_lt_of_le (Nat.le_of_ble_eq_true rfl) hN), rfl, rfl⟩, trivial⟩⟩ (z_steq rfl rfl ((zk_up c m 10 2 0 _ rfl).trans (by rw [hm20]))) ?_
  obtain ⟨m24, hm24⟩ : ∃ q, q = zm_up m20 10 3 0 := ⟨_, rfl⟩
  have hIm24 : zI c mM m24 := by rw [hm24]; exact zI_up hIm20 (zOk_p (by decide)) (show (0 : Int) ≤ 0 ∧ 0 ≤ 1 by omega)
  have em24 : m24 10 3 = 0 := by rw [hm24]; exact zm_eq
  have f25 : m24 1 1 = m20 1 1 := by rw [hm24]; exact zm_ne (by omega)
  have f26 : m24 1 2 = m20 1 2 := by rw [hm24]; exact zm_ne (by omega)
  have f27 : m24 10 2 = m20 10 2 := by rw [hm24]; exact zm_ne (by omega)
  have tk28 : zN m m24 := by rw [hm24]; exact zN_up tk23 (by unfold zRow; omega)
  clear tk23
  refine zW.step (st1 := (10, [(some (.ref 10)), none], [], z_hup (zk c m20) 10 (.inr (10, [.ref 1, .ref 11, .int (Int32.ofInt (m20 10 2)), .int (Int32.ofInt 0)])))) (st2 := (10, [(some (.ref 10)), none], [], zk c m24)) ⟨[zo, zo, zo], _, rfl, ⟨trivial, trivial, ⟨(Nat.lt_of_lt_of_le (Nat.le_of_ble_eq_true rfl) hN), (z_narZ rfl (by omega)), rfl⟩, trivial⟩⟩ (z_steq rfl rfl ((zk_up c m20 10 3 0 _ rfl).trans (by rw [hm24]))) ?_
  obtain ⟨m29, hm29⟩ : ∃ q, q = zm_up m24 1 2 0 := ⟨_, rfl⟩
  have hIm29 : zI c mM m29 := by rw [hm29]; exact zI_up hIm24 (by unfold zOk; decide) (show (0 : Int) ≤ 0 ∧ 0 ≤ 240 by omega)
  have em29 : m29 1 2 = 0 := by rw [hm29]; exact zm_eq
  have f30 : m29 1 1 = m24 1 1 := by rw [hm29]; exact zm_ne (by omega)
  have f31 : m29 10 2 = m24 10 2 := by rw [hm29]; exact zm_ne (by omega)
  have tk32 : zN m m29 := by rw [hm29]; exact zN_up tk28 (by unfold zRow; omega)
  clear tk28
  refine zW.step (st1 := (18, [(some (.ref 10)), none], [], z_hup (zk c m24) 1 (.inr (8, [.ref 2, .int (Int32.ofInt (m24 1 1)), .int (Int32.ofInt 0), .int (Int32.ofInt (m24 1 3))])))) (st2 := (18, [(some (.ref 10)), none], [], zk c m29)) ⟨[zo, zo, zo, zo], _, rfl, ⟨trivial, (Nat.lt_of_lt_of_le (Nat.le_of_ble_eq_true rfl) hN), trivial, ⟨(Nat.lt_of_lt_of_le (Nat.le_of_ble_eq_true rfl) hN), rfl, rfl⟩, trivial⟩⟩ (z_steq rfl rfl ((zk_up c m24 1 2 0 _ rfl).trans (by rw [hm29]))) ?_
  refine zW.step (st1 := (20, [(some (.ref 10)), (some (.int (Int32.ofInt 0)))], [], zk c m29)) (st2 := (20, [(some (.ref 10)), (some (.int (Int32.ofInt 0)))], [], zk c m29)) ⟨[zo, zo], _, rfl, ⟨trivial, trivial, trivial⟩⟩ rfl ?_
  refine L_X10_read_20 zn _ hN hC m _ (fun v9 h9 hq9 => hq9) (fun x1_33 m_33 hIm_33 i1_33 pt_33 tN_33 xq_33 => ?_) _ 0 m29 hIm29 (by omega) (by omega) tk32 rfl
  have f34 : (0 : Int) ≤ m_33 1 1 ∧ m_33 1 1 ≤ 240 := hIm_33.1 1 1
  have f35 : (0 : Int) ≤ m_33 1 2 ∧ m_33 1 2 ≤ 240 := hIm_33.1 1 2
  have f36 : (0 : Int) ≤ m_33 10 2 ∧ m_33 10 2 ≤ 240 := hIm_33.1 10 2
  refine zW.step (st1 := (67, [(some (.ref 10)), (some (.int (Int32.ofInt x1_33)))], [.ref 1], zk c m_33)) (st2 := (67, [(some (.ref 10)), (some (.int (Int32.ofInt x1_33)))], [.ref 1], zk c m_33)) ⟨[zo, zo], _, rfl, ⟨trivial, (Nat.lt_of_lt_of_le (Nat.le_of_ble_eq_true rfl) hN), trivial⟩⟩ rfl ?_
  obtain ⟨r37, m37, hs37, hIm37, z_37, q_37, l_37, a9_37, r9_37, p9_37, n9_37, c3_37, e2_37, v9_37, kN_37⟩ := S_X8_next zn (d + 33) hN hC m_33 hIm_33
  refine zW.step (st1 := (70, [(some (.ref 10)), (some (.int (Int32.ofInt x1_33)))], [.int (Int32.ofInt r37)], zk c m37)) ⟨[zc (some (.int (Int32.ofInt r37))) (zk c m37)], _, rfl, ⟨⟨⟨(Nat.lt_of_lt_of_le (Nat.le_of_ble_eq_true rfl) hN), (Nat.le_of_ble_eq_true rfl)⟩, hs37, (Nat.le_of_ble_eq_true rfl), Nat.le_refl _, Nat.le_refl _, Nat.le_refl _, Nat.le_refl _⟩, trivial⟩⟩ rfl ?_
  have f38 : (0 : Int) ≤ m37 1 1 ∧ m37 1 1 ≤ 240 := hIm37.1 1 1
  have f39 : (0 : Int) ≤ m37 1 2 ∧ m37 1 2 ≤ 240 := hIm37.1 1 2
  have f40 : (0 : Int) ≤ m37 10 2 ∧ m37 10 2 ≤ 240 := hIm37.1 10 2
  have tk41 : zN m m37 := zN_tr tN_33 kN_37
  by_cases b42 : r37 = (-1)
  · refine zW.step (st1 := (74, [(some (.ref 10)), (some (.int (Int32.ofInt x1_33)))], [], zk c m37)) (st2 := (74, [(some (.ref 10)), (some (.int (Int32.ofInt x1_33)))], [], zk c m37)) ⟨[zo, zo], _, rfl, ⟨trivial, zbf (fun q => q ((zi_eq rfl rfl (by unfold zR; omega) (⟨by decide, by decide⟩ : zR (-1))).mpr b42)), trivial⟩⟩ rfl ?_
    refine zW.step (st1 := (85, [(some (.ref 10)), (some (.int (Int32.ofInt x1_33)))], [.int (Int32.ofInt (-1))], zk c m37)) (st2 := (85, [(some (.ref 10)), (some (.int (Int32.ofInt x1_33)))], [.int (Int32.ofInt (-1))], zk c m37)) ⟨[zo, zo], _, rfl, ⟨trivial, trivial, trivial⟩⟩ rfl ?_
    exact zW.fin (zfin_i rfl rfl rfl) ⟨(-1), m37, rfl, rfl, hIm37, (by omega), (by omega), tk41⟩
  · refine zW.step (st1 := (78, [(some (.ref 10)), (some (.int (Int32.ofInt x1_33)))], [], zk c m37)) (st2 := (78, [(some (.ref 10)), (some (.int (Int32.ofInt x1_33)))], [], zk c m37)) ⟨[zo, zt], _, rfl, ⟨trivial, zbt (fun q => b42 ((zi_eq rfl rfl (by unfold zR; omega) (⟨by decide, by decide⟩ : zR (-1))).mp q)), trivial⟩⟩ rfl ?_
    refine zW.step (st1 := (85, [(some (.ref 10)), (some (.int (Int32.ofInt x1_33)))], [.int (Int32.ofInt (m37 1 2))], zk c m37)) (st2 := (85, [(some (.ref 10)), (some (.int (Int32.ofInt x1_33)))], [.int (Int32.ofInt (m37 1 2))], zk c m37)) ⟨[zo, zo, zo], _, rfl, ⟨trivial, (Nat.lt_of_lt_of_le (Nat.le_of_ble_eq_true rfl) hN), (Nat.lt_of_lt_of_le (Nat.le_of_ble_eq_true rfl) hN), trivial⟩⟩ rfl ?_
    exact zW.fin (zfin_i rfl rfl rfl) ⟨m37 1 2, m37, rfl, rfl, hIm37, (by omega), (by omega), tk41⟩

set_option maxRecDepth 100000 in
set_option maxHeartbeats 4000000 in
theorem S_X11_fault (zn : Bool) (d : Nat) {c : Nat × Nat} {mM : zM} (hN : 107 ≤ c.1) (hC : c.1 < z_RO) (which : Int) (t9 : Int) (m : zM) (hIm : zI c mM m) (r_which : -2147483648 ≤ which ∧ which ≤ 2147483647) (ht : 0 ≤ t9 ∧ t9 ≤ 999999000) (hH : zH t9 m) : zCi zn (d + 37) 140 [.ref 0, .int (Int32.ofInt which)] c m (fun (r : Int) (m1 : zM) => zI c mM m1 ∧ (-2147483648 ≤ r ∧ r ≤ 2147483647) ∧ zH (t9) m1) := by
  refine zCi.of zu_X11_fault hC (Nat.le_of_ble_eq_true rfl) ?_
  show zW zn (d + 36) 140 c (0, [(some (.ref 0)), (some (.int (Int32.ofInt which)))], [], zk c m) (fun v h1 => ∃ (r : Int) (m1 : zM), v = some (.int (Int32.ofInt r)) ∧ h1 = zk c m1 ∧ zI c mM m1 ∧ (-2147483648 ≤ r ∧ r ≤ 2147483647) ∧ zH (t9) m1)
  by_cases b1 : which = 0
  · refine zW.step (st1 := (28, [(some (.ref 0)), (some (.int (Int32.ofInt which)))], [], zk c m)) (st2 := (28, [(some (.ref 0)), (some (.int (Int32.ofInt which)))], [], zk c m)) ⟨[zo, (true, 0, none, zh0, none)], _, rfl, ⟨trivial, zls rfl (by unfold zR; omega) (by rw [b1]; rfl), trivial⟩⟩ rfl ?_
    refine zW.step (st1 := (32, [(some (.ref 0)), (some (.int (Int32.ofInt which)))], [.ref 3], zk c m)) (st2 := (32, [(some (.ref 0)), (some (.int (Int32.ofInt which)))], [.ref 3], zk c m)) ⟨[zo, zo], _, rfl, ⟨trivial, (Nat.lt_of_lt_of_le (Nat.le_of_ble_eq_true rfl) hN), trivial⟩⟩ rfl ?_
    obtain ⟨r2, m2, hs2, hIm2, q_2, kH_2⟩ := S_X4_read zn (d + 28) hN hC t9 m hIm (by omega) hH
    refine zW.step (st1 := (35, [(some (.ref 0)), (some (.int (Int32.ofInt which)))], [.int (Int32.ofInt r2)], zk c m2)) ⟨[zc (some (.int (Int32.ofInt r2))) (zk c m2)], _, rfl, ⟨⟨⟨(Nat.lt_of_lt_of_le (Nat.le_of_ble_eq_true rfl) hN), (Nat.le_of_ble_eq_true rfl)⟩, hs2, (Nat.le_of_ble_eq_true rfl), Nat.le_refl _, Nat.le_refl _, Nat.le_refl _, Nat.le_refl _⟩, trivial⟩⟩ rfl ?_
    have tk3 : zH t9 m2 := kH_2
    exact zW.fin (zfin_i rfl rfl rfl) ⟨r2, m2, rfl, rfl, hIm2, (by omega), (zH_le tk3 (by omega))⟩
  by_cases b4 : which = 1
  · refine zW.step (st1 := (36, [(some (.ref 0)), (some (.int (Int32.ofInt which)))], [], zk c m)) (st2 := (36, [(some (.ref 0)), (some (.int (Int32.ofInt which)))], [], zk c m)) ⟨[zo, (true, 1, none, zh0, none)], _, rfl, ⟨trivial, zls rfl (by unfold zR; omega) (by rw [b4]; rfl), trivial⟩⟩ rfl ?_
    refine zW.step (st1 := (40, [(some (.ref 0)), (some (.int (Int32.ofInt which)))], [.ref 10], zk c m)) (st2 := (40, [(some (.ref 0)), (some (.int (Int32.ofInt which)))], [.ref 10], zk c m)) ⟨[zo, zo], _, rfl, ⟨trivial, (Nat.lt_of_lt_of_le (Nat.le_of_ble_eq_true rfl) hN), trivial⟩⟩ rfl ?_
    obtain ⟨r5, m5, hs5, hIm5, q_5, p9_5, kN_5⟩ := S_X10_read zn (d + 0) hN hC m hIm
    refine zW.step (st1 := (43, [(some (.ref 0)), (some (.int (Int32.ofInt which)))], [.int (Int32.ofInt r5)], zk c m5)) ⟨[zc (some (.int (Int32.ofInt r5))) (zk c m5)], _, rfl, ⟨⟨⟨(Nat.lt_of_lt_of_le (Nat.le_of_ble_eq_true rfl) hN), (Nat.le_of_ble_eq_true rfl)⟩, hs5, (Nat.le_of_ble_eq_true rfl), Nat.le_refl _, Nat.le_refl _, Nat.le_refl _, Nat.le_refl _⟩, trivial⟩⟩ rfl ?_
    have tk6 : zH t9 m5 := zH_N hH kN_5
    exact zW.fin (zfin_i rfl rfl rfl) ⟨r5, m5, rfl, rfl, hIm5, (by omega), (zH_le tk6 (by omega))⟩
  refine zW.step (st1 := (44, [(some (.ref 0)), (some (.int (Int32.ofInt which)))], [], zk c m)) (st2 := (44, [(some (.ref 0)), (some (.int (Int32.ofInt which)))], [], zk c m)) ⟨[zo, zo], _, rfl, ⟨trivial, zls rfl (by unfold zR; omega) (by show (if (0 : Int) = which then _ else if (1 : Int) = which then _ else _) = _; rw [if_neg (by omega), if_neg (by omega)] <;> rfl), trivial⟩⟩ rfl ?_
  refine zW.step (st1 := (46, [(some (.ref 0)), (some (.int (Int32.ofInt which)))], [.int ((Int8.ofInt (-2)).toInt32)], zk c m)) (st2 := (46, [(some (.ref 0)), (some (.int (Int32.ofInt which)))], [.int (Int32.ofInt (-2))], zk c m)) ⟨[zo], _, rfl, ⟨trivial, trivial⟩⟩ (z_steq rfl (z_c1 (z_vi (by decide : (Int8.ofInt (-2)).toInt32 = Int32.ofInt (-2))) rfl) rfl) ?_
  exact zW.fin (zfin_i rfl rfl rfl) ⟨(-2), m, rfl, rfl, hIm, (by omega), (zH_le hH (by omega))⟩

set_option maxRecDepth 100000 in
set_option maxHeartbeats 4000000 in
theorem S_X11_taste (zn : Bool) (d : Nat) {c : Nat × Nat} {mM : zM} (hN : 107 ≤ c.1) (hC : c.1 < z_RO) (t : Int) (m : zM) (hIm : zI c mM m) (r_t : -2147483648 ≤ t ∧ t ≤ 2147483647) : zCi zn (d + 1) 179 [.ref 0, .int (Int32.ofInt t)] c m (fun (r : Int) (m1 : zM) => zI c mM m1 ∧ (-2147483648 ≤ r ∧ r ≤ 2147483647) ∧ zN m m1) := by
  refine zCi.of zu_X11_taste hC (Nat.le_of_ble_eq_true rfl) ?_
  show zW zn (d + 0) 179 c (0, [(some (.ref 0)), (some (.int (Int32.ofInt t)))], [], zk c m) (fun v h1 => ∃ (r : Int) (m1 : zM), v = some (.int (Int32.ofInt r)) ∧ h1 = zk c m1 ∧ zI c mM m1 ∧ (-2147483648 ≤ r ∧ r ≤ 2147483647) ∧ zN m m1)
  have f1 : (0 : Int) ≤ m 0 13 ∧ m 0 13 ≤ 4 := hIm.1 0 13
  by_cases b2 : t < (-1)
  · refine zW.step (st1 := (13, [(some (.ref 0)), (some (.int (Int32.ofInt t)))], [], zk c m)) (st2 := (13, [(some (.ref 0)), (some (.int (Int32.ofInt t)))], [], zk c m)) ⟨[zo, zo, zt], _, rfl, ⟨trivial, trivial, zbt ((zi_lt rfl rfl (by unfold zR; omega) (⟨by decide, by decide⟩ : zR (-1))).mpr b2), trivial⟩⟩ rfl ?_
    refine zW.step (st1 := (14, [(some (.ref 0)), (some (.int (Int32.ofInt t)))], [.int (Int32.ofInt 0)], zk c m)) (st2 := (14, [(some (.ref 0)), (some (.int (Int32.ofInt t)))], [.int (Int32.ofInt 0)], zk c m)) ⟨[zo], _, rfl, ⟨trivial, trivial⟩⟩ rfl ?_
    exact zW.fin (zfin_i rfl rfl rfl) ⟨0, m, rfl, rfl, hIm, (by omega), zN_rf⟩
  · refine zW.step (st1 := (5, [(some (.ref 0)), (some (.int (Int32.ofInt t)))], [], zk c m)) (st2 := (5, [(some (.ref 0)), (some (.int (Int32.ofInt t)))], [], zk c m)) ⟨[zo, zo, zo], _, rfl, ⟨trivial, trivial, zbf (fun q => b2 ((zi_lt rfl rfl (by unfold zR; omega) (⟨by decide, by decide⟩ : zR (-1))).mp q)), trivial⟩⟩ rfl ?_
    by_cases b3 : t < (m 0 13)
    · refine zW.step (st1 := (15, [(some (.ref 0)), (some (.int (Int32.ofInt t)))], [], zk c m)) (st2 := (15, [(some (.ref 0)), (some (.int (Int32.ofInt t)))], [], zk c m)) ⟨[zo, zo, zo, zt], _, rfl, ⟨trivial, trivial, (Nat.lt_of_lt_of_le (Nat.le_of_ble_eq_true rfl) hN), zbt ((zi_lt rfl rfl (by unfold zR; omega) (by unfold zR; omega)).mpr b3), trivial⟩⟩ rfl ?_
      obtain ⟨m4, hm4⟩ : ∃ q, q = zm_up m 0 14 t := ⟨_, rfl⟩
      have hIm4 : zI c mM m4 := by rw [hm4]; exact zI_up hIm (by unfold zOk; decide) (show (-1 : Int) ≤ t ∧ t ≤ 3 by omega)
      have em4 : m4 0 14 = t := by rw [hm4]; exact zm_eq
      have f5 : m4 0 13 = m 0 13 := by rw [hm4]; exact zm_ne (by omega)
      have tk6 : zN m m4 := by rw [hm4]; exact zN_up zN_rf (by unfold zRow; omega)
      refine zW.step (st1 := (20, [(some (.ref 0)), (some (.int (Int32.ofInt t)))], [], z_hup (zk c m) 0 (.inr (11, [.ref 1, .ref 3, .ref 10, .ref 12, .ref 13, .ref 17, .ref 18, .ref 23, .ref 68, .ref 69, .ref 73, .ref 75, .int (Int32.ofInt (m 0 12)), .int (Int32.ofInt (m 0 13)), .int (Int32.ofInt t)])))) (st2 := (20, [(some (.ref 0)), (some (.int (Int32.ofInt t)))], [], zk c m4)) ⟨[zo, zo, zo], _, rfl, ⟨trivial, trivial, ⟨(Nat.lt_of_lt_of_le (Nat.le_of_ble_eq_true rfl) hN), rfl, rfl⟩, trivial⟩⟩ (z_steq rfl rfl ((zk_up c m 0 14 t _ rfl).trans (by rw [hm4]))) ?_
      by_cases b7 : t = (-1)
      · refine zW.step (st1 := (29, [(some (.ref 0)), (some (.int (Int32.ofInt t)))], [.ref 18], zk c m4)) (st2 := (29, [(some (.ref 0)), (some (.int (Int32.ofInt t)))], [.ref 18], zk c m4)) ⟨[zo, zo, zo, zo, zo], _, rfl, ⟨trivial, (Nat.lt_of_lt_of_le (Nat.le_of_ble_eq_true rfl) hN), trivial, trivial, zbf (fun q => q ((zi_eq rfl rfl (by unfold zR; omega) (⟨by decide, by decide⟩ : zR (-1))).mpr b7)), trivial⟩⟩ rfl ?_
        have f8 : (0 : Int) ≤ m4 0 13 ∧ m4 0 13 ≤ 4 := hIm4.1 0 13
        obtain ⟨m9, hm9⟩ : ∃ q, q = zm_up m4 18 1 0 := ⟨_, rfl⟩
        have hIm9 : zI c mM m9 := by rw [hm9]; exact zI_tas hIm4 (by omega)
        have em9 : m9 18 1 = 0 := by rw [hm9]; exact zm_eq
        have f10 : m9 0 13 = m4 0 13 := by rw [hm9]; exact zm_ne (by omega)
        have tk11 : zN m m9 := by rw [hm9]; exact zN_up tk6 (by unfold zRow; omega)
        clear tk6
        refine zW.step (st1 := (42, [(some (.ref 0)), (some (.int (Int32.ofInt t)))], [], z_hup (zk c m4) 18 (.inr (3, [.ref 13, .null, .ref 19, .int (Int32.ofInt (m4 18 3)), .int (Int32.ofInt (m4 18 4)), .int (Int32.ofInt (m4 18 5)), .int (Int32.ofInt (m4 18 6)), .int (Int32.ofInt (m4 18 7)), .int (Int32.ofInt (m4 18 8)), .ref 20, .ref 21, .ref 22])))) (st2 := (42, [(some (.ref 0)), (some (.int (Int32.ofInt t)))], [], zk c m9)) ⟨[zo, zo, zo], _, rfl, ⟨trivial, trivial, ⟨(Nat.lt_of_lt_of_le (Nat.le_of_ble_eq_true rfl) hN), rfl, rfl⟩, trivial⟩⟩ (z_steq rfl rfl ((zk_up c m4 18 1 0 _ rfl).trans (by rw [hm9]))) ?_
        refine zW.step (st1 := (43, [(some (.ref 0)), (some (.int (Int32.ofInt t)))], [.int (Int32.ofInt 1)], zk c m9)) (st2 := (43, [(some (.ref 0)), (some (.int (Int32.ofInt t)))], [.int (Int32.ofInt 1)], zk c m9)) ⟨[zo], _, rfl, ⟨trivial, trivial⟩⟩ rfl ?_
        exact zW.fin (zfin_i rfl rfl rfl) ⟨1, m9, rfl, rfl, hIm9, (by omega), tk11⟩
      · refine zW.step (st1 := (33, [(some (.ref 0)), (some (.int (Int32.ofInt t)))], [.ref 18], zk c m4)) (st2 := (33, [(some (.ref 0)), (some (.int (Int32.ofInt t)))], [.ref 18], zk c m4)) ⟨[zo, zo, zo, zo, zt], _, rfl, ⟨trivial, (Nat.lt_of_lt_of_le (Nat.le_of_ble_eq_true rfl) hN), trivial, trivial, zbt (fun q => b7 ((zi_eq rfl rfl (by unfold zR; omega) (⟨by decide, by decide⟩ : zR (-1))).mp q)), trivial⟩⟩ rfl ?_
        have f12 : (0 : Int) ≤ m4 0 13 ∧ m4 0 13 ≤ 4 := hIm4.1 0 13
        obtain ⟨T13, hT13⟩ : ∃ q : Nat, q = 107 + 4 * t.toNat := ⟨_, rfl⟩
        have kT13 : zTp T13 := by unfold zTp; omega
        have jT13 : T13 = 107 ∨ T13 = 111 ∨ T13 = 115 ∨ T13 = 119 := by omega
        have lT13 : T13 + 4 ≤ c.1 := by have q9 := hIm4.2.2.1; omega
        obtain ⟨m14, hm14⟩ : ∃ q, q = zm_up m4 18 1 (T13 : Int) := ⟨_, rfl⟩
        have hIm14 : zI c mM m14 := by rw [hm14]; exact zI_tas hIm4 (by omega)
        have em14 : m14 18 1 = (T13 : Int) := by rw [hm14]; exact zm_eq
        have f15 : m14 0 13 = m4 0 13 := by rw [hm14]; exact zm_ne (by omega)
        have tk16 : zN m m14 := by rw [hm14]; exact zN_up tk6 (by unfold zRow; omega)
        clear tk6
        refine zW.step (st1 := (42, [(some (.ref 0)), (some (.int (Int32.ofInt t)))], [], z_hup (zk c m4) 18 (.inr (3, [.ref 13, .ref T13, .ref 19, .int (Int32.ofInt (m4 18 3)), .int (Int32.ofInt (m4 18 4)), .int (Int32.ofInt (m4 18 5)), .int (Int32.ofInt (m4 18 6)), .int (Int32.ofInt (m4 18 7)), .int (Int32.ofInt (m4 18 8)), .ref 20, .ref 21, .ref 22])))) (st2 := (42, [(some (.ref 0)), (some (.int (Int32.ofInt t)))], [], zk c m14)) ⟨[zo, zo, zo, (false, 0, some (.ref T13), zh0, none), zo], _, rfl, ⟨trivial, (Nat.lt_of_lt_of_le (Nat.le_of_ble_eq_true rfl) hN), trivial, ⟨(Nat.lt_of_lt_of_le (Nat.le_of_ble_eq_true rfl) hN), zi_in rfl (by omega) (by omega) (by decide), zk_tasl hIm4 rfl (by unfold zR; omega) (by omega) hT13⟩, ⟨(Nat.lt_of_lt_of_le (Nat.le_of_ble_eq_true rfl) hN), rfl, rfl⟩, trivial⟩⟩ (z_steq rfl rfl ((zk_up c m4 18 1 (T13 : Int) _ ((congrArg (fun q => (.inr (3, [.ref 13, q, .ref 19, .int (Int32.ofInt (m4 18 3)), .int (Int32.ofInt (m4 18 4)), .int (Int32.ofInt (m4 18 5)), .int (Int32.ofInt (m4 18 6)), .int (Int32.ofInt (m4 18 7)), .int (Int32.ofInt (m4 18 8)), .ref 20, .ref 21, .ref 22]) : z_E)) (zm_rf_1 (x := (T13 : Int)) rfl (by omega)).symm).trans rfl)).trans (by rw [hm14]))) ?_
        refine zW.step (st1 := (43, [(some (.ref 0)), (some (.int (Int32.ofInt t)))], [.int (Int32.ofInt 1)], zk c m14)) (st2 := (43, [(some (.ref 0)), (some (.int (Int32.ofInt t)))], [.int (Int32.ofInt 1)], zk c m14)) ⟨[zo], _, rfl, ⟨trivial, trivial⟩⟩ rfl ?_
        exact zW.fin (zfin_i rfl rfl rfl) ⟨1, m14, rfl, rfl, hIm14, (by omega), tk16⟩
    · refine zW.step (st1 := (13, [(some (.ref 0)), (some (.int (Int32.ofInt t)))], [], zk c m)) (st2 := (13, [(some (.ref 0)), (some (.int (Int32.ofInt t)))], [], zk c m)) ⟨[zo, zo, zo, zo], _, rfl, ⟨trivial, trivial, (Nat.lt_of_lt_of_le (Nat.le_of_ble_eq_true rfl) hN), zbf (fun q => b3 ((zi_lt rfl rfl (by unfold zR; omega) (by unfold zR; omega)).mp q)), trivial⟩⟩ rfl ?_
      refine zW.step (st1 := (14, [(some (.ref 0)), (some (.int (Int32.ofInt t)))], [.int (Int32.ofInt 0)], zk c m)) (st2 := (14, [(some (.ref 0)), (some (.int (Int32.ofInt t)))], [.int (Int32.ofInt 0)], zk c m)) ⟨[zo], _, rfl, ⟨trivial, trivial⟩⟩ rfl ?_
      exact zW.fin (zfin_i rfl rfl rfl) ⟨0, m, rfl, rfl, hIm, (by omega), zN_rf⟩

set_option maxRecDepth 100000 in
set_option maxHeartbeats 4000000 in
theorem S_K0_coder_0 (zn : Bool) (d : Nat) {c : Nat × Nat} {mC : zM} {t9 : Int} {e9 : Nat} (hN : 107 ≤ c.1) (hC : c.1 < z_RO) (m : zM) (hIm : zJ mC t9 e9 m) : zPi zn (d + 1) 5 [.ref (z_RO + 0)] c m (fun (r : Int) => (r = 0)) := by
  refine zPi.of zu_J0_coder_7d493 hC (Nat.le_of_ble_eq_true rfl) ?_
  show zW zn (d + 0) 5 c (0, [(some (.ref (z_RO + 0)))], [], zk c m) (fun v h1 => ∃ (r : Int), v = some (.int (Int32.ofInt r)) ∧ h1 = zk c m ∧ (r = 0))
  have b1 : ¬ ((1 : Int) = 0) := by omega
  refine zW.step (st1 := (6, [(some (.ref (z_RO + 0)))], [], zk c m)) (st2 := (6, [(some (.ref (z_RO + 0)))], [], zk c m)) ⟨[zo, zo], _, rfl, ⟨trivial, zbf (fun q => b1 ((zi_eq (by decide : (1 : Int32) = Int32.ofInt 1) (rfl : (0 : Int32) = Int32.ofInt 0) (⟨by decide, by decide⟩ : zR 1) (⟨by decide, by decide⟩ : zR 0)).mp q)), trivial⟩⟩ rfl ?_
  refine zW.step (st1 := (14, [(some (.ref (z_RO + 0)))], [.int (0 : Int32)], zk c m)) (st2 := (14, [(some (.ref (z_RO + 0)))], [.int (Int32.ofInt 0)], zk c m)) ⟨[zo, zo, zo], _, rfl, ⟨trivial, trivial, trivial, trivial⟩⟩ (z_steq rfl (z_c1 (z_vi (by decide : (0 : Int32) = Int32.ofInt 0)) rfl) rfl) ?_
  exact zW.fin (zfin_i rfl rfl rfl) ⟨0, rfl, rfl, (by omega)⟩

set_option maxRecDepth 100000 in
set_option maxHeartbeats 4000000 in
theorem S_K0_isLatin1_0 (zn : Bool) (d : Nat) {c : Nat × Nat} {mC : zM} {t9 : Int} {e9 : Nat} (hN : 107 ≤ c.1) (hC : c.1 < z_RO) (m : zM) (hIm : zJ mC t9 e9 m) : zPi zn (d + 1) 8 [.ref (z_RO + 0)] c m (fun (r : Int) => (r = 1)) := by
  refine zPi.of zu_J0_isLatin1_aae02 hC (Nat.le_of_ble_eq_true rfl) ?_
  show zW zn (d + 0) 8 c (0, [(some (.ref (z_RO + 0)))], [], zk c m) (fun v h1 => ∃ (r : Int), v = some (.int (Int32.ofInt r)) ∧ h1 = zk c m ∧ (r = 1))
  have b1 : ¬ ((1 : Int) = 0) := by omega
  refine zW.step (st1 := (6, [(some (.ref (z_RO + 0)))], [], zk c m)) (st2 := (6, [(some (.ref (z_RO + 0)))], [], zk c m)) ⟨[zo, zo], _, rfl, ⟨trivial, zbf (fun q => b1 ((zi_eq (by decide : (1 : Int32) = Int32.ofInt 1) (rfl : (0 : Int32) = Int32.ofInt 0) (⟨by decide, by decide⟩ : zR 1) (⟨by decide, by decide⟩ : zR 0)).mp q)), trivial⟩⟩ rfl ?_
  have b2 : (0 : Int) = 0 := by omega
  refine zW.step (st1 := (13, [(some (.ref (z_RO + 0)))], [], zk c m)) (st2 := (13, [(some (.ref (z_RO + 0)))], [], zk c m)) ⟨[zo, zo, zo], _, rfl, ⟨trivial, trivial, zbf (fun q => q ((zi_eq (by decide : (0 : Int32) = Int32.ofInt 0) (rfl : (0 : Int32) = Int32.ofInt 0) (⟨by decide, by decide⟩ : zR 0) (⟨by decide, by decide⟩ : zR 0)).mpr b2)), trivial⟩⟩ rfl ?_
  refine zW.step (st1 := (18, [(some (.ref (z_RO + 0)))], [.int (Int32.ofInt 1)], zk c m)) (st2 := (18, [(some (.ref (z_RO + 0)))], [.int (Int32.ofInt 1)], zk c m)) ⟨[zo, zo], _, rfl, ⟨trivial, trivial, trivial⟩⟩ rfl ?_
  exact zW.fin (zfin_i rfl rfl rfl) ⟨1, rfl, rfl, (by omega)⟩

set_option maxRecDepth 100000 in
set_option maxHeartbeats 4000000 in
theorem S_K0_length_0 (zn : Bool) (d : Nat) {c : Nat × Nat} {mC : zM} {t9 : Int} {e9 : Nat} (hN : 107 ≤ c.1) (hC : c.1 < z_RO) (m : zM) (hIm : zJ mC t9 e9 m) : zPi zn (d + 2) 9 [.ref (z_RO + 0)] c m (fun (r : Int) => (r = 1)) := by
  refine zPi.of zu_J0_length_8abf5 hC (Nat.le_of_ble_eq_true rfl) ?_
  show zW zn (d + 1) 9 c (0, [(some (.ref (z_RO + 0)))], [], zk c m) (fun v h1 => ∃ (r : Int), v = some (.int (Int32.ofInt r)) ∧ h1 = zk c m ∧ (r = 1))
  refine zW.step (st1 := (6, [(some (.ref (z_RO + 0)))], [.ref (z_RO + 0), .int (Int32.ofNat 1)], zk c m)) (st2 := (6, [(some (.ref (z_RO + 0)))], [.ref (z_RO + 0), .int (Int32.ofInt 1)], zk c m)) ⟨[zo, zo, zo, zo], _, rfl, ⟨trivial, trivial, trivial, trivial, trivial⟩⟩ (z_steq rfl (z_c1 rfl (z_c1 (z_vi (by decide : Int32.ofNat 1 = Int32.ofInt 1)) rfl)) rfl) ?_
  obtain ⟨r1, hs1, q_1⟩ := S_K0_coder_0 zn (d + 0) hN hC m hIm
  subst q_1
  refine zW.step (st1 := (9, [(some (.ref (z_RO + 0)))], [.int (Int32.ofInt 0), .int (Int32.ofInt 1)], zk c m)) ⟨[zc (some (.int (Int32.ofInt 0))) (zk c m)], _, rfl, ⟨⟨(Nat.le_of_ble_eq_true rfl), hs1, (Nat.le_of_ble_eq_true rfl), Nat.le_refl _, Nat.le_refl _, Nat.le_refl _, Nat.le_refl _⟩, trivial⟩⟩ rfl ?_
  have f2 : (-2147483648 : Int) ≤ zb_shr 1 0 ∧ zb_shr 1 0 ≤ 2147483647 := zb_shrR 1 0
  refine zW.step (st1 := (10, [(some (.ref (z_RO + 0)))], [.int ((Int32.ofInt 1) >>> ((Int32.ofInt 0) &&& 31))], zk c m)) (st2 := (10, [(some (.ref (z_RO + 0)))], [.int (Int32.ofInt 1)], zk c m)) ⟨[zo], _, rfl, ⟨trivial, trivial⟩⟩ (z_steq rfl (z_c1 (z_vi (by decide +kernel : (Int32.ofInt 1) >>> ((Int32.ofInt 0) &&& 31) = Int32.ofInt 1)) rfl) rfl) ?_
  exact zW.fin (zfin_i rfl rfl rfl) ⟨1, rfl, rfl, (by omega)⟩

set_option maxRecDepth 100000 in
set_option maxHeartbeats 4000000 in
theorem S_K3_checkIndex (zn : Bool) (d : Nat) {c : Nat × Nat} {mC : zM} {t9 : Int} {e9 : Nat} (hN : 107 ≤ c.1) (hC : c.1 < z_RO) (a : Int) (b : Int) (m : zM) (hIm : zJ mC t9 e9 m) (r_a : -2147483648 ≤ a ∧ a ≤ 2147483647) (r_b : -2147483648 ≤ b ∧ b ≤ 2147483647) (ha : 0 ≤ a ∧ a < b) : zPi zn (d + 1) 24 [.int (Int32.ofInt a), .int (Int32.ofInt b), (bif zn then Value.null else .ref (z_RO + 400))] c m (fun (r : Int) => (r = a)) := by
  cases zn
  · refine zPi.of zu_J3_checkIndex_8e157 hC (Nat.le_of_ble_eq_true rfl) ?_
    show zW false (d + 0) 24 c (0, [(some (.int (Int32.ofInt a))), (some (.int (Int32.ofInt b))), (some ((.ref (z_RO + 400))))], [], zk c m) (fun v h1 => ∃ (r : Int), v = some (.int (Int32.ofInt r)) ∧ h1 = zk c m ∧ (r = a))
    by_cases b1 : a < 0
    · refine zW.step (st1 := (9, [(some (.int (Int32.ofInt a))), (some (.int (Int32.ofInt b))), (some ((.ref (z_RO + 400))))], [], zk c m)) (st2 := (9, [(some (.int (Int32.ofInt a))), (some (.int (Int32.ofInt b))), (some ((.ref (z_RO + 400))))], [], zk c m)) ⟨[zo, zt], _, rfl, ⟨trivial, zbt ((zi_lt rfl (rfl : (0 : Int32) = Int32.ofInt 0) (by unfold zR; omega) (⟨by decide, by decide⟩ : zR 0)).mpr b1), trivial⟩⟩ rfl ?_
      exfalso; omega
    · refine zW.step (st1 := (4, [(some (.int (Int32.ofInt a))), (some (.int (Int32.ofInt b))), (some ((.ref (z_RO + 400))))], [], zk c m)) (st2 := (4, [(some (.int (Int32.ofInt a))), (some (.int (Int32.ofInt b))), (some ((.ref (z_RO + 400))))], [], zk c m)) ⟨[zo, zo], _, rfl, ⟨trivial, zbf (fun q => b1 ((zi_lt rfl (rfl : (0 : Int32) = Int32.ofInt 0) (by unfold zR; omega) (⟨by decide, by decide⟩ : zR 0)).mp q)), trivial⟩⟩ rfl ?_
      by_cases b2 : a < b
      · refine zW.step (st1 := (16, [(some (.int (Int32.ofInt a))), (some (.int (Int32.ofInt b))), (some ((.ref (z_RO + 400))))], [], zk c m)) (st2 := (16, [(some (.int (Int32.ofInt a))), (some (.int (Int32.ofInt b))), (some ((.ref (z_RO + 400))))], [], zk c m)) ⟨[zo, zo, zt], _, rfl, ⟨trivial, trivial, zbt ((zi_lt rfl rfl (by unfold zR; omega) (by unfold zR; omega)).mpr b2), trivial⟩⟩ rfl ?_
        refine zW.step (st1 := (17, [(some (.int (Int32.ofInt a))), (some (.int (Int32.ofInt b))), (some ((.ref (z_RO + 400))))], [.int (Int32.ofInt a)], zk c m)) (st2 := (17, [(some (.int (Int32.ofInt a))), (some (.int (Int32.ofInt b))), (some ((.ref (z_RO + 400))))], [.int (Int32.ofInt a)], zk c m)) ⟨[zo], _, rfl, ⟨trivial, trivial⟩⟩ rfl ?_
        exact zW.fin (zfin_i rfl rfl rfl) ⟨a, rfl, rfl, (by omega)⟩
      · refine zW.step (st1 := (9, [(some (.int (Int32.ofInt a))), (some (.int (Int32.ofInt b))), (some ((.ref (z_RO + 400))))], [], zk c m)) (st2 := (9, [(some (.int (Int32.ofInt a))), (some (.int (Int32.ofInt b))), (some ((.ref (z_RO + 400))))], [], zk c m)) ⟨[zo, zo, zo], _, rfl, ⟨trivial, trivial, zbf (fun q => b2 ((zi_lt rfl rfl (by unfold zR; omega) (by unfold zR; omega)).mp q)), trivial⟩⟩ rfl ?_
        exfalso; omega
  · refine zPi.of zu_J3_checkIndex_8e157 hC (Nat.le_of_ble_eq_true rfl) ?_
    show zW true (d + 0) 24 c (0, [(some (.int (Int32.ofInt a))), (some (.int (Int32.ofInt b))), (some (.null))], [], zk c m) (fun v h1 => ∃ (r : Int), v = some (.int (Int32.ofInt r)) ∧ h1 = zk c m ∧ (r = a))
    by_cases b1 : a < 0
    · refine zW.step (st1 := (9, [(some (.int (Int32.ofInt a))), (some (.int (Int32.ofInt b))), (some (.null))], [], zk c m)) (st2 := (9, [(some (.int (Int32.ofInt a))), (some (.int (Int32.ofInt b))), (some (.null))], [], zk c m)) ⟨[zo, zt], _, rfl, ⟨trivial, zbt ((zi_lt rfl (rfl : (0 : Int32) = Int32.ofInt 0) (by unfold zR; omega) (⟨by decide, by decide⟩ : zR 0)).mpr b1), trivial⟩⟩ rfl ?_
      exfalso; omega
    · refine zW.step (st1 := (4, [(some (.int (Int32.ofInt a))), (some (.int (Int32.ofInt b))), (some (.null))], [], zk c m)) (st2 := (4, [(some (.int (Int32.ofInt a))), (some (.int (Int32.ofInt b))), (some (.null))], [], zk c m)) ⟨[zo, zo], _, rfl, ⟨trivial, zbf (fun q => b1 ((zi_lt rfl (rfl : (0 : Int32) = Int32.ofInt 0) (by unfold zR; omega) (⟨by decide, by decide⟩ : zR 0)).mp q)), trivial⟩⟩ rfl ?_
      by_cases b2 : a < b
      · refine zW.step (st1 := (16, [(some (.int (Int32.ofInt a))), (some (.int (Int32.ofInt b))), (some (.null))], [], zk c m)) (st2 := (16, [(some (.int (Int32.ofInt a))), (some (.int (Int32.ofInt b))), (some (.null))], [], zk c m)) ⟨[zo, zo, zt], _, rfl, ⟨trivial, trivial, zbt ((zi_lt rfl rfl (by unfold zR; omega) (by unfold zR; omega)).mpr b2), trivial⟩⟩ rfl ?_
        refine zW.step (st1 := (17, [(some (.int (Int32.ofInt a))), (some (.int (Int32.ofInt b))), (some (.null))], [.int (Int32.ofInt a)], zk c m)) (st2 := (17, [(some (.int (Int32.ofInt a))), (some (.int (Int32.ofInt b))), (some (.null))], [.int (Int32.ofInt a)], zk c m)) ⟨[zo], _, rfl, ⟨trivial, trivial⟩⟩ rfl ?_
        exact zW.fin (zfin_i rfl rfl rfl) ⟨a, rfl, rfl, (by omega)⟩
      · refine zW.step (st1 := (9, [(some (.int (Int32.ofInt a))), (some (.int (Int32.ofInt b))), (some (.null))], [], zk c m)) (st2 := (9, [(some (.int (Int32.ofInt a))), (some (.int (Int32.ofInt b))), (some (.null))], [], zk c m)) ⟨[zo, zo, zo], _, rfl, ⟨trivial, trivial, zbf (fun q => b2 ((zi_lt rfl rfl (by unfold zR; omega) (by unfold zR; omega)).mp q)), trivial⟩⟩ rfl ?_
        exfalso; omega

set_option maxRecDepth 100000 in
set_option maxHeartbeats 4000000 in
theorem S_K0_checkIndex (zn : Bool) (d : Nat) {c : Nat × Nat} {mC : zM} {t9 : Int} {e9 : Nat} (hN : 107 ≤ c.1) (hC : c.1 < z_RO) (a : Int) (b : Int) (m : zM) (hIm : zJ mC t9 e9 m) (r_a : -2147483648 ≤ a ∧ a ≤ 2147483647) (r_b : -2147483648 ≤ b ∧ b ≤ 2147483647) (ha : 0 ≤ a ∧ a < b) : zPv zn (d + 2) 4 [.int (Int32.ofInt a), .int (Int32.ofInt b)] c m True := by
  refine zPv.of zu_J0_checkIndex_df160 hC (Nat.le_of_ble_eq_true rfl) ?_
  show zW zn (d + 1) 4 c (0, [(some (.int (Int32.ofInt a))), (some (.int (Int32.ofInt b)))], [], zk c m) (fun v h1 => v = none ∧ h1 = zk c m ∧ True)
  refine zW.step (st1 := (5, [(some (.int (Int32.ofInt a))), (some (.int (Int32.ofInt b)))], [(bif zn then Value.null else .ref (z_RO + 400)), .int (Int32.ofInt b), .int (Int32.ofInt a)], zk c m)) (st2 := (5, [(some (.int (Int32.ofInt a))), (some (.int (Int32.ofInt b)))], [(bif zn then Value.null else .ref (z_RO + 400)), .int (Int32.ofInt b), .int (Int32.ofInt a)], zk c m)) ⟨[zo, zo, zo], _, rfl, ⟨trivial, trivial, trivial, trivial⟩⟩ rfl ?_
  obtain ⟨r1, hs1, q_1⟩ := S_K3_checkIndex zn (d + 0) hN hC a b m hIm (by omega) (by omega) (by omega)
  refine zW.step (st1 := (8, [(some (.int (Int32.ofInt a))), (some (.int (Int32.ofInt b)))], [.int (Int32.ofInt r1)], zk c m)) ⟨[zc (some (.int (Int32.ofInt r1))) (zk c m)], _, rfl, ⟨⟨(Nat.le_of_ble_eq_true rfl), hs1, (Nat.le_of_ble_eq_true rfl), Nat.le_refl _, Nat.le_refl _, Nat.le_refl _, Nat.le_refl _⟩, trivial⟩⟩ rfl ?_
  refine zW.step (st1 := (9, [(some (.int (Int32.ofInt a))), (some (.int (Int32.ofInt b)))], [], zk c m)) (st2 := (9, [(some (.int (Int32.ofInt a))), (some (.int (Int32.ofInt b)))], [], zk c m)) ⟨[zo], _, rfl, ⟨trivial, trivial⟩⟩ rfl ?_
  exact zW.fin (zfin_v rfl rfl) ⟨rfl, rfl, trivial⟩

set_option maxRecDepth 100000 in
set_option maxHeartbeats 4000000 in
theorem S_K1_charAt_100 (zn : Bool) (d : Nat) {c : Nat × Nat} {mC : zM} {t9 : Int} {e9 : Nat} (hN : 107 ≤ c.1) (hC : c.1 < z_RO) (a : Int) (m : zM) (hIm : zJ mC t9 e9 m) (r_a : -2147483648 ≤ a ∧ a ≤ 2147483647) (ha : 0 ≤ a ∧ a < 1) : zPi zn (d + 3) 11 [.ref (z_RO + 100), .int (Int32.ofInt a)] c m (fun (r : Int) => (0 ≤ r ∧ r ≤ 122)) := by
  refine zPi.of zu_J1_charAt_3b067 hC (Nat.le_of_ble_eq_true rfl) ?_
  show zW zn (d + 2) 11 c (0, [(some (.ref (z_RO + 100))), (some (.int (Int32.ofInt a)))], [], zk c m) (fun v h1 => ∃ (r : Int), v = some (.int (Int32.ofInt r)) ∧ h1 = zk c m ∧ (0 ≤ r ∧ r ≤ 122))
  refine zW.step (st1 := (3, [(some (.ref (z_RO + 100))), (some (.int (Int32.ofInt a)))], [.int (Int32.ofNat 1), .int (Int32.ofInt a)], zk c m)) (st2 := (3, [(some (.ref (z_RO + 100))), (some (.int (Int32.ofInt a)))], [.int (Int32.ofInt 1), .int (Int32.ofInt a)], zk c m)) ⟨[zo, zo, zo], _, rfl, ⟨trivial, trivial, trivial, trivial⟩⟩ (z_steq rfl (z_c1 (z_vi (by decide : Int32.ofNat 1 = Int32.ofInt 1)) rfl) rfl) ?_
  obtain ⟨hs1, _⟩ := S_K0_checkIndex zn (d + 0) hN hC a 1 m hIm (by omega) (by omega) (by omega)
  refine zW.step (st1 := (6, [(some (.ref (z_RO + 100))), (some (.int (Int32.ofInt a)))], [], zk c m)) ⟨[zc (none) (zk c m)], _, rfl, ⟨⟨(Nat.le_of_ble_eq_true rfl), hs1, (Nat.le_of_ble_eq_true rfl), Nat.le_refl _, Nat.le_refl _, Nat.le_refl _, Nat.le_refl _⟩, trivial⟩⟩ rfl ?_
  have f2 := zbt9_b 0 a.toNat
  have f3 := zbt9_c 0 a.toNat (by decide) (by omega)
  have f4 : (-2147483648 : Int) ≤ zb_and (zbt9 0 a.toNat) 255 ∧ zb_and (zbt9 0 a.toNat) 255 ≤ 2147483647 := zb_andR (zbt9 0 a.toNat) 255
  have f5 := zb_and255 (zbt9 0 a.toNat)
  have f6 := zb_and_le (a := zbt9 0 a.toNat) (b := 255) (by decide) (by decide)
  refine zW.step (st1 := (14, [(some (.ref (z_RO + 100))), (some (.int (Int32.ofInt a)))], [.int (((((z_byt.getD 0 []).getD (Int32.ofInt a).toNatClampNeg 0) &&& ((Int16.ofInt 255).toInt32)).toUInt32 % 65536).toInt32)], zk c m)) (st2 := (14, [(some (.ref (z_RO + 100))), (some (.int (Int32.ofInt a)))], [.int (Int32.ofInt ((zb_and (zbt9 0 a.toNat) 255) % 65536))], zk c m)) ⟨[zo, zo, zo, zo, zo, zo], _, rfl, ⟨trivial, trivial, (zi_in rfl (by omega) (by omega) (by decide) : vp_in (Int32.ofInt a) 1), trivial, trivial, trivial, trivial⟩⟩ (z_steq rfl (z_c1 (z_vi (zi_i2c (zi_and (zbt9_rd 0 rfl (by unfold zR; omega)) (by decide : (Int16.ofInt 255).toInt32 = Int32.ofInt 255)))) rfl) rfl) ?_
  exact zW.fin (zfin_i rfl rfl (z_narC rfl (by omega))) ⟨(zb_and (zbt9 0 a.toNat) 255) % 65536, rfl, rfl, (by omega)⟩

set_option maxRecDepth 100000 in
set_option maxHeartbeats 4000000 in
theorem S_K0_charAt_0 (zn : Bool) (d : Nat) {c : Nat × Nat} {mC : zM} {t9 : Int} {e9 : Nat} (hN : 107 ≤ c.1) (hC : c.1 < z_RO) (a : Int) (m : zM) (hIm : zJ mC t9 e9 m) (r_a : -2147483648 ≤ a ∧ a ≤ 2147483647) (ha : 0 ≤ a ∧ a < 1) : zPi zn (d + 4) 2 [.ref (z_RO + 0), .int (Int32.ofInt a)] c m (fun (r : Int) => (0 ≤ r ∧ r ≤ 122)) := by
  refine zPi.of zu_J0_charAt_5068e hC (Nat.le_of_ble_eq_true rfl) ?_
  show zW zn (d + 3) 2 c (0, [(some (.ref (z_RO + 0))), (some (.int (Int32.ofInt a)))], [], zk c m) (fun v h1 => ∃ (r : Int), v = some (.int (Int32.ofInt r)) ∧ h1 = zk c m ∧ (0 ≤ r ∧ r ≤ 122))
  refine zW.step (st1 := (1, [(some (.ref (z_RO + 0))), (some (.int (Int32.ofInt a)))], [.ref (z_RO + 0)], zk c m)) (st2 := (1, [(some (.ref (z_RO + 0))), (some (.int (Int32.ofInt a)))], [.ref (z_RO + 0)], zk c m)) ⟨[zo], _, rfl, ⟨trivial, trivial⟩⟩ rfl ?_
  obtain ⟨r1, hs1, q_1⟩ := S_K0_isLatin1_0 zn (d + 2) hN hC m hIm
  subst q_1
  refine zW.step (st1 := (4, [(some (.ref (z_RO + 0))), (some (.int (Int32.ofInt a)))], [.int (Int32.ofInt 1)], zk c m)) ⟨[zc (some (.int (Int32.ofInt 1))) (zk c m)], _, rfl, ⟨⟨(Nat.le_of_ble_eq_true rfl), hs1, (Nat.le_of_ble_eq_true rfl), Nat.le_refl _, Nat.le_refl _, Nat.le_refl _, Nat.le_refl _⟩, trivial⟩⟩ rfl ?_
  have b2 : ¬ ((1 : Int) = 0) := by omega
  refine zW.step (st1 := (7, [(some (.ref (z_RO + 0))), (some (.int (Int32.ofInt a)))], [], zk c m)) (st2 := (7, [(some (.ref (z_RO + 0))), (some (.int (Int32.ofInt a)))], [], zk c m)) ⟨[zo], _, rfl, ⟨zbf (fun q => b2 ((zi_eq (by decide : Int32.ofInt 1 = Int32.ofInt 1) (rfl : (0 : Int32) = Int32.ofInt 0) (⟨by decide, by decide⟩ : zR 1) (⟨by decide, by decide⟩ : zR 0)).mp q)), trivial⟩⟩ rfl ?_
  refine zW.step (st1 := (12, [(some (.ref (z_RO + 0))), (some (.int (Int32.ofInt a)))], [.int (Int32.ofInt a), .ref (z_RO + 100)], zk c m)) (st2 := (12, [(some (.ref (z_RO + 0))), (some (.int (Int32.ofInt a)))], [.int (Int32.ofInt a), .ref (z_RO + 100)], zk c m)) ⟨[zo, zo, zo], _, rfl, ⟨trivial, trivial, trivial, trivial⟩⟩ rfl ?_
  obtain ⟨r3, hs3, q_3⟩ := S_K1_charAt_100 zn (d + 0) hN hC a m hIm (by omega) (by omega)
  refine zW.step (st1 := (15, [(some (.ref (z_RO + 0))), (some (.int (Int32.ofInt a)))], [.int (Int32.ofInt r3)], zk c m)) ⟨[zc (some (.int (Int32.ofInt r3))) (zk c m)], _, rfl, ⟨⟨(Nat.le_of_ble_eq_true rfl), hs3, (Nat.le_of_ble_eq_true rfl), Nat.le_refl _, Nat.le_refl _, Nat.le_refl _, Nat.le_refl _⟩, trivial⟩⟩ rfl ?_
  exact zW.fin (zfin_i rfl rfl (z_narC rfl (by omega))) ⟨r3, rfl, rfl, (by omega)⟩

set_option maxRecDepth 100000 in
set_option maxHeartbeats 4000000 in
theorem L_X12_placeOf_0_2 (zn : Bool) (d : Nat) {c : Nat × Nat} {mC : zM} {t9 : Int} {e9 : Nat} (hN : 107 ≤ c.1) (hC : c.1 < z_RO) (b : Int) (r_b : -2147483648 ≤ b ∧ b ≤ 2147483647) (m : zM) (hIm : zJ mC t9 e9 m) (Q : Option Value → z_H → Prop) (KR : ∀ v h1, (fun v h1 => ∃ (r : Int), v = some (.int (Int32.ofInt r)) ∧ h1 = zk c m ∧ (-1 ≤ r ∧ r < 1) ∧ (r = -1 ∨ 0 ≤ b)) v h1 → Q v h1) (K : ∀ (x2 : Int), 0 ≤ x2 ∧ x2 ≤ 1 → zW zn (d + 4) 263 c (27, [(some (.ref (z_RO + 0))), (some (.int (Int32.ofInt b))), (some (.int (Int32.ofInt x2)))], [], zk c m) Q) :
    ∀ (w : Nat) (x2 : Int), 0 ≤ x2 ∧ x2 ≤ 1 → w = (1 - x2).toNat → zW zn (d + 4) 263 c (2, [(some (.ref (z_RO + 0))), (some (.int (Int32.ofInt b))), (some (.int (Int32.ofInt x2)))], [], zk c m) Q := by
  intro w
  induction w using Nat.strongRecOn with | _ w ih => ?_
  intro x2 i1 hw
  refine zW.step (st1 := (4, [(some (.ref (z_RO + 0))), (some (.int (Int32.ofInt b))), (some (.int (Int32.ofInt x2)))], [.ref (z_RO + 0), .int (Int32.ofInt x2)], zk c m)) (st2 := (4, [(some (.ref (z_RO + 0))), (some (.int (Int32.ofInt b))), (some (.int (Int32.ofInt x2)))], [.ref (z_RO + 0), .int (Int32.ofInt x2)], zk c m)) ⟨[zo, zo], _, rfl, ⟨trivial, trivial, trivial⟩⟩ rfl ?_
  obtain ⟨r1, hs1, q_1⟩ := S_K0_length_0 zn (d + 2) hN hC m hIm
  subst q_1
  refine zW.step (st1 := (7, [(some (.ref (z_RO + 0))), (some (.int (Int32.ofInt b))), (some (.int (Int32.ofInt x2)))], [.int (Int32.ofInt 1), .int (Int32.ofInt x2)], zk c m)) ⟨[zc (some (.int (Int32.ofInt 1))) (zk c m)], _, rfl, ⟨⟨(Nat.le_of_ble_eq_true rfl), hs1, (Nat.le_of_ble_eq_true rfl), Nat.le_refl _, Nat.le_refl _, Nat.le_refl _, Nat.le_refl _⟩, trivial⟩⟩ rfl ?_
  by_cases b2 : 1 ≤ x2
  · refine zW.step (st1 := (27, [(some (.ref (z_RO + 0))), (some (.int (Int32.ofInt b))), (some (.int (Int32.ofInt x2)))], [], zk c m)) (st2 := (27, [(some (.ref (z_RO + 0))), (some (.int (Int32.ofInt b))), (some (.int (Int32.ofInt x2)))], [], zk c m)) ⟨[zt], _, rfl, ⟨zbt ((zi_le (by decide : Int32.ofInt 1 = Int32.ofInt 1) rfl (⟨by decide, by decide⟩ : zR 1) (by unfold zR; omega)).mpr b2), trivial⟩⟩ rfl ?_
    exact K x2 (by omega)
  · refine zW.step (st1 := (10, [(some (.ref (z_RO + 0))), (some (.int (Int32.ofInt b))), (some (.int (Int32.ofInt x2)))], [], zk c m)) (st2 := (10, [(some (.ref (z_RO + 0))), (some (.int (Int32.ofInt b))), (some (.int (Int32.ofInt x2)))], [], zk c m)) ⟨[zo], _, rfl, ⟨zbf (fun q => b2 ((zi_le (by decide : Int32.ofInt 1 = Int32.ofInt 1) rfl (⟨by decide, by decide⟩ : zR 1) (by unfold zR; omega)).mp q)), trivial⟩⟩ rfl ?_
    refine zW.step (st1 := (12, [(some (.ref (z_RO + 0))), (some (.int (Int32.ofInt b))), (some (.int (Int32.ofInt x2)))], [.int (Int32.ofInt x2), .ref (z_RO + 0)], zk c m)) (st2 := (12, [(some (.ref (z_RO + 0))), (some (.int (Int32.ofInt b))), (some (.int (Int32.ofInt x2)))], [.int (Int32.ofInt x2), .ref (z_RO + 0)], zk c m)) ⟨[zo, zo], _, rfl, ⟨trivial, trivial, trivial⟩⟩ rfl ?_
    obtain ⟨r3, hs3, q_3⟩ := S_K0_charAt_0 zn (d + 0) hN hC x2 m hIm (by omega) (by omega)
    refine zW.step (st1 := (15, [(some (.ref (z_RO + 0))), (some (.int (Int32.ofInt b))), (some (.int (Int32.ofInt x2)))], [.int (Int32.ofInt r3)], zk c m)) ⟨[zc (some (.int (Int32.ofInt r3))) (zk c m)], _, rfl, ⟨⟨(Nat.le_of_ble_eq_true rfl), hs3, (Nat.le_of_ble_eq_true rfl), Nat.le_refl _, Nat.le_refl _, Nat.le_refl _, Nat.le_refl _⟩, trivial⟩⟩ rfl ?_
    by_cases b4 : r3 = b
    · refine zW.step (st1 := (19, [(some (.ref (z_RO + 0))), (some (.int (Int32.ofInt b))), (some (.int (Int32.ofInt x2)))], [], zk c m)) (st2 := (19, [(some (.ref (z_RO + 0))), (some (.int (Int32.ofInt b))), (some (.int (Int32.ofInt x2)))], [], zk c m)) ⟨[zo, zo], _, rfl, ⟨trivial, zbf (fun q => q ((zi_eq rfl rfl (by unfold zR; omega) (by unfold zR; omega)).mpr b4)), trivial⟩⟩ rfl ?_
      refine zW.step (st1 := (20, [(some (.ref (z_RO + 0))), (some (.int (Int32.ofInt b))), (some (.int (Int32.ofInt x2)))], [.int (Int32.ofInt x2)], zk c m)) (st2 := (20, [(some (.ref (z_RO + 0))), (some (.int (Int32.ofInt b))), (some (.int (Int32.ofInt x2)))], [.int (Int32.ofInt x2)], zk c m)) ⟨[zo], _, rfl, ⟨trivial, trivial⟩⟩ rfl ?_
      exact zW.fin (zfin_i rfl rfl rfl) (KR _ _ ⟨x2, rfl, rfl, (by omega), (by omega)⟩)
    · refine zW.step (st1 := (21, [(some (.ref (z_RO + 0))), (some (.int (Int32.ofInt b))), (some (.int (Int32.ofInt x2)))], [], zk c m)) (st2 := (21, [(some (.ref (z_RO + 0))), (some (.int (Int32.ofInt b))), (some (.int (Int32.ofInt x2)))], [], zk c m)) ⟨[zo, zt], _, rfl, ⟨trivial, zbt (fun q => b4 ((zi_eq rfl rfl (by unfold zR; omega) (by unfold zR; omega)).mp q)), trivial⟩⟩ rfl ?_
      refine zW.step (st1 := (2, [(some (.ref (z_RO + 0))), (some (.int (Int32.ofInt b))), (some (.int ((Int32.ofInt x2) + Int32.ofInt 1)))], [], zk c m)) (st2 := (2, [(some (.ref (z_RO + 0))), (some (.int (Int32.ofInt b))), (some (.int (Int32.ofInt (x2 + 1))))], [], zk c m)) ⟨[zo, zo], _, rfl, ⟨trivial, trivial, trivial⟩⟩ (z_steq (z_c1 rfl (z_c1 rfl (z_c1 (z_si (zi_add rfl rfl)) rfl))) rfl rfl) ?_
      exact ih _ (by omega) (x2 + 1) (by omega) rfl

set_option maxRecDepth 100000 in
set_option maxHeartbeats 4000000 in
theorem S_X12_placeOf_0 (zn : Bool) (d : Nat) {c : Nat × Nat} {mC : zM} {t9 : Int} {e9 : Nat} (hN : 107 ≤ c.1) (hC : c.1 < z_RO) (b : Int) (m : zM) (hIm : zJ mC t9 e9 m) (r_b : -2147483648 ≤ b ∧ b ≤ 2147483647) : zPi zn (d + 5) 263 [.ref (z_RO + 0), .int (Int32.ofInt b)] c m (fun (r : Int) => (-1 ≤ r ∧ r < 1) ∧ (r = -1 ∨ 0 ≤ b)) := by
  refine zPi.of zu_X12_placeOf hC (Nat.le_of_ble_eq_true rfl) ?_
  show zW zn (d + 4) 263 c (0, [(some (.ref (z_RO + 0))), (some (.int (Int32.ofInt b))), none], [], zk c m) (fun v h1 => ∃ (r : Int), v = some (.int (Int32.ofInt r)) ∧ h1 = zk c m ∧ (-1 ≤ r ∧ r < 1) ∧ (r = -1 ∨ 0 ≤ b))
  refine zW.step (st1 := (2, [(some (.ref (z_RO + 0))), (some (.int (Int32.ofInt b))), (some (.int (Int32.ofInt 0)))], [], zk c m)) (st2 := (2, [(some (.ref (z_RO + 0))), (some (.int (Int32.ofInt b))), (some (.int (Int32.ofInt 0)))], [], zk c m)) ⟨[zo, zo], _, rfl, ⟨trivial, trivial, trivial⟩⟩ rfl ?_
  refine L_X12_placeOf_0_2 zn _ hN hC b r_b m hIm _ (fun v9 h9 hq9 => hq9) (fun x2_5 i1_5 => ?_) _ 0 (by omega) rfl
  refine zW.step (st1 := (28, [(some (.ref (z_RO + 0))), (some (.int (Int32.ofInt b))), (some (.int (Int32.ofInt x2_5)))], [.int (Int32.ofInt (-1))], zk c m)) (st2 := (28, [(some (.ref (z_RO + 0))), (some (.int (Int32.ofInt b))), (some (.int (Int32.ofInt x2_5)))], [.int (Int32.ofInt (-1))], zk c m)) ⟨[zo], _, rfl, ⟨trivial, trivial⟩⟩ rfl ?_
  exact zW.fin (zfin_i rfl rfl rfl) ⟨(-1), rfl, rfl, (by omega), (by omega)⟩

set_option maxRecDepth 100000 in
set_option maxHeartbeats 4000000 in
theorem S_K0_coder_1 (zn : Bool) (d : Nat) {c : Nat × Nat} {mC : zM} {t9 : Int} {e9 : Nat} (hN : 107 ≤ c.1) (hC : c.1 < z_RO) (m : zM) (hIm : zJ mC t9 e9 m) : zPi zn (d + 1) 5 [.ref (z_RO + 1)] c m (fun (r : Int) => (r = 0)) := by
  refine zPi.of zu_J0_coder_7d493 hC (Nat.le_of_ble_eq_true rfl) ?_
  show zW zn (d + 0) 5 c (0, [(some (.ref (z_RO + 1)))], [], zk c m) (fun v h1 => ∃ (r : Int), v = some (.int (Int32.ofInt r)) ∧ h1 = zk c m ∧ (r = 0))
  have b1 : ¬ ((1 : Int) = 0) := by omega
  refine zW.step (st1 := (6, [(some (.ref (z_RO + 1)))], [], zk c m)) (st2 := (6, [(some (.ref (z_RO + 1)))], [], zk c m)) ⟨[zo, zo], _, rfl, ⟨trivial, zbf (fun q => b1 ((zi_eq (by decide : (1 : Int32) = Int32.ofInt 1) (rfl : (0 : Int32) = Int32.ofInt 0) (⟨by decide, by decide⟩ : zR 1) (⟨by decide, by decide⟩ : zR 0)).mp q)), trivial⟩⟩ rfl ?_
  refine zW.step (st1 := (14, [(some (.ref (z_RO + 1)))], [.int (0 : Int32)], zk c m)) (st2 := (14, [(some (.ref (z_RO + 1)))], [.int (Int32.ofInt 0)], zk c m)) ⟨[zo, zo, zo], _, rfl, ⟨trivial, trivial, trivial, trivial⟩⟩ (z_steq rfl (z_c1 (z_vi (by decide : (0 : Int32) = Int32.ofInt 0)) rfl) rfl) ?_
  exact zW.fin (zfin_i rfl rfl rfl) ⟨0, rfl, rfl, (by omega)⟩

set_option maxRecDepth 100000 in
set_option maxHeartbeats 4000000 in
theorem S_K0_isLatin1_1 (zn : Bool) (d : Nat) {c : Nat × Nat} {mC : zM} {t9 : Int} {e9 : Nat} (hN : 107 ≤ c.1) (hC : c.1 < z_RO) (m : zM) (hIm : zJ mC t9 e9 m) : zPi zn (d + 1) 8 [.ref (z_RO + 1)] c m (fun (r : Int) => (r = 1)) := by
  refine zPi.of zu_J0_isLatin1_aae02 hC (Nat.le_of_ble_eq_true rfl) ?_
  show zW zn (d + 0) 8 c (0, [(some (.ref (z_RO + 1)))], [], zk c m) (fun v h1 => ∃ (r : Int), v = some (.int (Int32.ofInt r)) ∧ h1 = zk c m ∧ (r = 1))
  have b1 : ¬ ((1 : Int) = 0) := by omega
  refine zW.step (st1 := (6, [(some (.ref (z_RO + 1)))], [], zk c m)) (st2 := (6, [(some (.ref (z_RO + 1)))], [], zk c m)) ⟨[zo, zo], _, rfl, ⟨trivial, zbf (fun q => b1 ((zi_eq (by decide : (1 : Int32) = Int32.ofInt 1) (rfl : (0 : Int32) = Int32.ofInt 0) (⟨by decide, by decide⟩ : zR 1) (⟨by decide, by decide⟩ : zR 0)).mp q)), trivial⟩⟩ rfl ?_
  have b2 : (0 : Int) = 0 := by omega
  refine zW.step (st1 := (13, [(some (.ref (z_RO + 1)))], [], zk c m)) (st2 := (13, [(some (.ref (z_RO + 1)))], [], zk c m)) ⟨[zo, zo, zo], _, rfl, ⟨trivial, trivial, zbf (fun q => q ((zi_eq (by decide : (0 : Int32) = Int32.ofInt 0) (rfl : (0 : Int32) = Int32.ofInt 0) (⟨by decide, by decide⟩ : zR 0) (⟨by decide, by decide⟩ : zR 0)).mpr b2)), trivial⟩⟩ rfl ?_
  refine zW.step (st1 := (18, [(some (.ref (z_RO + 1)))], [.int (Int32.ofInt 1)], zk c m)) (st2 := (18, [(some (.ref (z_RO + 1)))], [.int (Int32.ofInt 1)], zk c m)) ⟨[zo, zo], _, rfl, ⟨trivial, trivial, trivial⟩⟩ rfl ?_
  exact zW.fin (zfin_i rfl rfl rfl) ⟨1, rfl, rfl, (by omega)⟩

set_option maxRecDepth 100000 in
set_option maxHeartbeats 4000000 in
theorem S_K0_length_1 (zn : Bool) (d : Nat) {c : Nat × Nat} {mC : zM} {t9 : Int} {e9 : Nat} (hN : 107 ≤ c.1) (hC : c.1 < z_RO) (m : zM) (hIm : zJ mC t9 e9 m) : zPi zn (d + 2) 9 [.ref (z_RO + 1)] c m (fun (r : Int) => (r = 7)) := by
  refine zPi.of zu_J0_length_8abf5 hC (Nat.le_of_ble_eq_true rfl) ?_
  show zW zn (d + 1) 9 c (0, [(some (.ref (z_RO + 1)))], [], zk c m) (fun v h1 => ∃ (r : Int), v = some (.int (Int32.ofInt r)) ∧ h1 = zk c m ∧ (r = 7))
  refine zW.step (st1 := (6, [(some (.ref (z_RO + 1)))], [.ref (z_RO + 1), .int (Int32.ofNat 7)], zk c m)) (st2 := (6, [(some (.ref (z_RO + 1)))], [.ref (z_RO + 1), .int (Int32.ofInt 7)], zk c m)) ⟨[zo, zo, zo, zo], _, rfl, ⟨trivial, trivial, trivial, trivial, trivial⟩⟩ (z_steq rfl (z_c1 rfl (z_c1 (z_vi (by decide : Int32.ofNat 7 = Int32.ofInt 7)) rfl)) rfl) ?_
  obtain ⟨r1, hs1, q_1⟩ := S_K0_coder_1 zn (d + 0) hN hC m hIm
  subst q_1
  refine zW.step (st1 := (9, [(some (.ref (z_RO + 1)))], [.int (Int32.ofInt 0), .int (Int32.ofInt 7)], zk c m)) ⟨[zc (some (.int (Int32.ofInt 0))) (zk c m)], _, rfl, ⟨⟨(Nat.le_of_ble_eq_true rfl), hs1, (Nat.le_of_ble_eq_true rfl), Nat.le_refl _, Nat.le_refl _, Nat.le_refl _, Nat.le_refl _⟩, trivial⟩⟩ rfl ?_
  have f2 : (-2147483648 : Int) ≤ zb_shr 7 0 ∧ zb_shr 7 0 ≤ 2147483647 := zb_shrR 7 0
  refine zW.step (st1 := (10, [(some (.ref (z_RO + 1)))], [.int ((Int32.ofInt 7) >>> ((Int32.ofInt 0) &&& 31))], zk c m)) (st2 := (10, [(some (.ref (z_RO + 1)))], [.int (Int32.ofInt 7)], zk c m)) ⟨[zo], _, rfl, ⟨trivial, trivial⟩⟩ (z_steq rfl (z_c1 (z_vi (by decide +kernel : (Int32.ofInt 7) >>> ((Int32.ofInt 0) &&& 31) = Int32.ofInt 7)) rfl) rfl) ?_
  exact zW.fin (zfin_i rfl rfl rfl) ⟨7, rfl, rfl, (by omega)⟩

set_option maxRecDepth 100000 in
set_option maxHeartbeats 4000000 in
theorem S_K1_charAt_101 (zn : Bool) (d : Nat) {c : Nat × Nat} {mC : zM} {t9 : Int} {e9 : Nat} (hN : 107 ≤ c.1) (hC : c.1 < z_RO) (a : Int) (m : zM) (hIm : zJ mC t9 e9 m) (r_a : -2147483648 ≤ a ∧ a ≤ 2147483647) (ha : 0 ≤ a ∧ a < 7) : zPi zn (d + 3) 11 [.ref (z_RO + 101), .int (Int32.ofInt a)] c m (fun (r : Int) => (0 ≤ r ∧ r ≤ 122)) := by
  refine zPi.of zu_J1_charAt_3b067 hC (Nat.le_of_ble_eq_true rfl) ?_
  show zW zn (d + 2) 11 c (0, [(some (.ref (z_RO + 101))), (some (.int (Int32.ofInt a)))], [], zk c m) (fun v h1 => ∃ (r : Int), v = some (.int (Int32.ofInt r)) ∧ h1 = zk c m ∧ (0 ≤ r ∧ r ≤ 122))
  refine zW.step (st1 := (3, [(some (.ref (z_RO + 101))), (some (.int (Int32.ofInt a)))], [.int (Int32.ofNat 7), .int (Int32.ofInt a)], zk c m)) (st2 := (3, [(some (.ref (z_RO + 101))), (some (.int (Int32.ofInt a)))], [.int (Int32.ofInt 7), .int (Int32.ofInt a)], zk c m)) ⟨[zo, zo, zo], _, rfl, ⟨trivial, trivial, trivial, trivial⟩⟩ (z_steq rfl (z_c1 (z_vi (by decide : Int32.ofNat 7 = Int32.ofInt 7)) rfl) rfl) ?_
  obtain ⟨hs1, _⟩ := S_K0_checkIndex zn (d + 0) hN hC a 7 m hIm (by omega) (by omega) (by omega)
  refine zW.step (st1 := (6, [(some (.ref (z_RO + 101))), (some (.int (Int32.ofInt a)))], [], zk c m)) ⟨[zc (none) (zk c m)], _, rfl, ⟨⟨(Nat.le_of_ble_eq_true rfl), hs1, (Nat.le_of_ble_eq_true rfl), Nat.le_refl _, Nat.le_refl _, Nat.le_refl _, Nat.le_refl _⟩, trivial⟩⟩ rfl ?_
  have f2 := zbt9_b 1 a.toNat
  have f3 := zbt9_c 1 a.toNat (by decide) (by omega)
  have f4 : (-2147483648 : Int) ≤ zb_and (zbt9 1 a.toNat) 255 ∧ zb_and (zbt9 1 a.toNat) 255 ≤ 2147483647 := zb_andR (zbt9 1 a.toNat) 255
  have f5 := zb_and255 (zbt9 1 a.toNat)
  have f6 := zb_and_le (a := zbt9 1 a.toNat) (b := 255) (by decide) (by decide)
  refine zW.step (st1 := (14, [(some (.ref (z_RO + 101))), (some (.int (Int32.ofInt a)))], [.int (((((z_byt.getD 1 []).getD (Int32.ofInt a).toNatClampNeg 0) &&& ((Int16.ofInt 255).toInt32)).toUInt32 % 65536).toInt32)], zk c m)) (st2 := (14, [(some (.ref (z_RO + 101))), (some (.int (Int32.ofInt a)))], [.int (Int32.ofInt ((zb_and (zbt9 1 a.toNat) 255) % 65536))], zk c m)) ⟨[zo, zo, zo, zo, zo, zo], _, rfl, ⟨trivial, trivial, (zi_in rfl (by omega) (by omega) (by decide) : vp_in (Int32.ofInt a) 7), trivial, trivial, trivial, trivial⟩⟩ (z_steq rfl (z_c1 (z_vi (zi_i2c (zi_and (zbt9_rd 1 rfl (by unfold zR; omega)) (by decide : (Int16.ofInt 255).toInt32 = Int32.ofInt 255)))) rfl) rfl) ?_
  exact zW.fin (zfin_i rfl rfl (z_narC rfl (by omega))) ⟨(zb_and (zbt9 1 a.toNat) 255) % 65536, rfl, rfl, (by omega)⟩

set_option maxRecDepth 100000 in
set_option maxHeartbeats 4000000 in
theorem S_K0_charAt_1 (zn : Bool) (d : Nat) {c : Nat × Nat} {mC : zM} {t9 : Int} {e9 : Nat} (hN : 107 ≤ c.1) (hC : c.1 < z_RO) (a : Int) (m : zM) (hIm : zJ mC t9 e9 m) (r_a : -2147483648 ≤ a ∧ a ≤ 2147483647) (ha : 0 ≤ a ∧ a < 7) : zPi zn (d + 4) 2 [.ref (z_RO + 1), .int (Int32.ofInt a)] c m (fun (r : Int) => (0 ≤ r ∧ r ≤ 122)) := by
  refine zPi.of zu_J0_charAt_5068e hC (Nat.le_of_ble_eq_true rfl) ?_
  show zW zn (d + 3) 2 c (0, [(some (.ref (z_RO + 1))), (some (.int (Int32.ofInt a)))], [], zk c m) (fun v h1 => ∃ (r : Int), v = some (.int (Int32.ofInt r)) ∧ h1 = zk c m ∧ (0 ≤ r ∧ r ≤ 122))
  refine zW.step (st1 := (1, [(some (.ref (z_RO + 1))), (some (.int (Int32.ofInt a)))], [.ref (z_RO + 1)], zk c m)) (st2 := (1, [(some (.ref (z_RO + 1))), (some (.int (Int32.ofInt a)))], [.ref (z_RO + 1)], zk c m)) ⟨[zo], _, rfl, ⟨trivial, trivial⟩⟩ rfl ?_
  obtain ⟨r1, hs1, q_1⟩ := S_K0_isLatin1_1 zn (d + 2) hN hC m hIm
  subst q_1
  refine zW.step (st1 := (4, [(some (.ref (z_RO + 1))), (some (.int (Int32.ofInt a)))], [.int (Int32.ofInt 1)], zk c m)) ⟨[zc (some (.int (Int32.ofInt 1))) (zk c m)], _, rfl, ⟨⟨(Nat.le_of_ble_eq_true rfl), hs1, (Nat.le_of_ble_eq_true rfl), Nat.le_refl _, Nat.le_refl _, Nat.le_refl _, Nat.le_refl _⟩, trivial⟩⟩ rfl ?_
  have b2 : ¬ ((1 : Int) = 0) := by omega
  refine zW.step (st1 := (7, [(some (.ref (z_RO + 1))), (some (.int (Int32.ofInt a)))], [], zk c m)) (st2 := (7, [(some (.ref (z_RO + 1))), (some (.int (Int32.ofInt a)))], [], zk c m)) ⟨[zo], _, rfl, ⟨zbf (fun q => b2 ((zi_eq (by decide : Int32.ofInt 1 = Int32.ofInt 1) (rfl : (0 : Int32) = Int32.ofInt 0) (⟨by decide, by decide⟩ : zR 1) (⟨by decide, by decide⟩ : zR 0)).mp q)), trivial⟩⟩ rfl ?_
  refine zW.step (st1 := (12, [(some (.ref (z_RO + 1))), (some (.int (Int32.ofInt a)))], [.int (Int32.ofInt a), .ref (z_RO + 101)], zk c m)) (st2 := (12, [(some (.ref (z_RO + 1))), (some (.int (Int32.ofInt a)))], [.int (Int32.ofInt a), .ref (z_RO + 101)], zk c m)) ⟨[zo, zo, zo], _, rfl, ⟨trivial, trivial, trivial, trivial⟩⟩ rfl ?_
  obtain ⟨r3, hs3, q_3⟩ := S_K1_charAt_101 zn (d + 0) hN hC a m hIm (by omega) (by omega)
  refine zW.step (st1 := (15, [(some (.ref (z_RO + 1))), (some (.int (Int32.ofInt a)))], [.int (Int32.ofInt r3)], zk c m)) ⟨[zc (some (.int (Int32.ofInt r3))) (zk c m)], _, rfl, ⟨⟨(Nat.le_of_ble_eq_true rfl), hs3, (Nat.le_of_ble_eq_true rfl), Nat.le_refl _, Nat.le_refl _, Nat.le_refl _, Nat.le_refl _⟩, trivial⟩⟩ rfl ?_
  exact zW.fin (zfin_i rfl rfl (z_narC rfl (by omega))) ⟨r3, rfl, rfl, (by omega)⟩

set_option maxRecDepth 100000 in
set_option maxHeartbeats 4000000 in
theorem L_X12_placeOf_1_2 (zn : Bool) (d : Nat) {c : Nat × Nat} {mC : zM} {t9 : Int} {e9 : Nat} (hN : 107 ≤ c.1) (hC : c.1 < z_RO) (b : Int) (r_b : -2147483648 ≤ b ∧ b ≤ 2147483647) (m : zM) (hIm : zJ mC t9 e9 m) (Q : Option Value → z_H → Prop) (KR : ∀ v h1, (fun v h1 => ∃ (r : Int), v = some (.int (Int32.ofInt r)) ∧ h1 = zk c m ∧ (-1 ≤ r ∧ r < 7) ∧ (r = -1 ∨ 0 ≤ b)) v h1 → Q v h1) (K : ∀ (x2 : Int), 0 ≤ x2 ∧ x2 ≤ 7 → zW zn (d + 4) 263 c (27, [(some (.ref (z_RO + 1))), (some (.int (Int32.ofInt b))), (some (.int (Int32.ofInt x2)))], [], zk c m) Q) :
    ∀ (w : Nat) (x2 : Int), 0 ≤ x2 ∧ x2 ≤ 7 → w = (7 - x2).toNat → zW zn (d + 4) 263 c (2, [(some (.ref (z_RO + 1))), (some (.int (Int32.ofInt b))), (some (.int (Int32.ofInt x2)))], [], zk c m) Q := by
  intro w
  induction w using Nat.strongRecOn with | _ w ih => ?_
  intro x2 i1 hw
  refine zW.step (st1 := (4, [(some (.ref (z_RO + 1))), (some (.int (Int32.ofInt b))), (some (.int (Int32.ofInt x2)))], [.ref (z_RO + 1), .int (Int32.ofInt x2)], zk c m)) (st2 := (4, [(some (.ref (z_RO + 1))), (some (.int (Int32.ofInt b))), (some (.int (Int32.ofInt x2)))], [.ref (z_RO + 1), .int (Int32.ofInt x2)], zk c m)) ⟨[zo, zo], _, rfl, ⟨trivial, trivial, trivial⟩⟩ rfl ?_
  obtain ⟨r1, hs1, q_1⟩ := S_K0_length_1 zn (d + 2) hN hC m hIm
  subst q_1
  refine zW.step (st1 := (7, [(some (.ref (z_RO + 1))), (some (.int (Int32.ofInt b))), (some (.int (Int32.ofInt x2)))], [.int (Int32.ofInt 7), .int (Int32.ofInt x2)], zk c m)) ⟨[zc (some (.int (Int32.ofInt 7))) (zk c m)], _, rfl, ⟨⟨(Nat.le_of_ble_eq_true rfl), hs1, (Nat.le_of_ble_eq_true rfl), Nat.le_refl _, Nat.le_refl _, Nat.le_refl _, Nat.le_refl _⟩, trivial⟩⟩ rfl ?_
  by_cases b2 : 7 ≤ x2
  · refine zW.step (st1 := (27, [(some (.ref (z_RO + 1))), (some (.int (Int32.ofInt b))), (some (.int (Int32.ofInt x2)))], [], zk c m)) (st2 := (27, [(some (.ref (z_RO + 1))), (some (.int (Int32.ofInt b))), (some (.int (Int32.ofInt x2)))], [], zk c m)) ⟨[zt], _, rfl, ⟨zbt ((zi_le (by decide : Int32.ofInt 7 = Int32.ofInt 7) rfl (⟨by decide, by decide⟩ : zR 7) (by unfold zR; omega)).mpr b2), trivial⟩⟩ rfl ?_
    exact K x2 (by omega)
  · refine zW.step (st1 := (10, [(some (.ref (z_RO + 1))), (some (.int (Int32.ofInt b))), (some (.int (Int32.ofInt x2)))], [], zk c m)) (st2 := (10, [(some (.ref (z_RO + 1))), (some (.int (Int32.ofInt b))), (some (.int (Int32.ofInt x2)))], [], zk c m)) ⟨[zo], _, rfl, ⟨zbf (fun q => b2 ((zi_le (by decide : Int32.ofInt 7 = Int32.ofInt 7) rfl (⟨by decide, by decide⟩ : zR 7) (by unfold zR; omega)).mp q)), trivial⟩⟩ rfl ?_
    refine zW.step (st1 := (12, [(some (.ref (z_RO + 1))), (some (.int (Int32.ofInt b))), (some (.int (Int32.ofInt x2)))], [.int (Int32.ofInt x2), .ref (z_RO + 1)], zk c m)) (st2 := (12, [(some (.ref (z_RO + 1))), (some (.int (Int32.ofInt b))), (some (.int (Int32.ofInt x2)))], [.int (Int32.ofInt x2), .ref (z_RO + 1)], zk c m)) ⟨[zo, zo], _, rfl, ⟨trivial, trivial, trivial⟩⟩ rfl ?_
    obtain ⟨r3, hs3, q_3⟩ := S_K0_charAt_1 zn (d + 0) hN hC x2 m hIm (by omega) (by omega)
    refine zW.step (st1 := (15, [(some (.ref (z_RO + 1))), (some (.int (Int32.ofInt b))), (some (.int (Int32.ofInt x2)))], [.int (Int32.ofInt r3)], zk c m)) ⟨[zc (some (.int (Int32.ofInt r3))) (zk c m)], _, rfl, ⟨⟨(Nat.le_of_ble_eq_true rfl), hs3, (Nat.le_of_ble_eq_true rfl), Nat.le_refl _, Nat.le_refl _, Nat.le_refl _, Nat.le_refl _⟩, trivial⟩⟩ rfl ?_
    by_cases b4 : r3 = b
    · refine zW.step (st1 := (19, [(some (.ref (z_RO + 1))), (some (.int (Int32.ofInt b))), (some (.int (Int32.ofInt x2)))], [], zk c m)) (st2 := (19, [(some (.ref (z_RO + 1))), (some (.int (Int32.ofInt b))), (some (.int (Int32.ofInt x2)))], [], zk c m)) ⟨[zo, zo], _, rfl, ⟨trivial, zbf (fun q => q ((zi_eq rfl rfl (by unfold zR; omega) (by unfold zR; omega)).mpr b4)), trivial⟩⟩ rfl ?_
      refine zW.step (st1 := (20, [(some (.ref (z_RO + 1))), (some (.int (Int32.ofInt b))), (some (.int (Int32.ofInt x2)))], [.int (Int32.ofInt x2)], zk c m)) (st2 := (20, [(some (.ref (z_RO + 1))), (some (.int (Int32.ofInt b))), (some (.int (Int32.ofInt x2)))], [.int (Int32.ofInt x2)], zk c m)) ⟨[zo], _, rfl, ⟨trivial, trivial⟩⟩ rfl ?_
      exact zW.fin (zfin_i rfl rfl rfl) (KR _ _ ⟨x2, rfl, rfl, (by omega), (by omega)⟩)
    · refine zW.step (st1 := (21, [(some (.ref (z_RO + 1))), (some (.int (Int32.ofInt b))), (some (.int (Int32.ofInt x2)))], [], zk c m)) (st2 := (21, [(some (.ref (z_RO + 1))), (some (.int (Int32.ofInt b))), (some (.int (Int32.ofInt x2)))], [], zk c m)) ⟨[zo, zt], _, rfl, ⟨trivial, zbt (fun q => b4 ((zi_eq rfl rfl (by unfold zR; omega) (by unfold zR; omega)).mp q)), trivial⟩⟩ rfl ?_
      refine zW.step (st1 := (2, [(some (.ref (z_RO + 1))), (some (.int (Int32.ofInt b))), (some (.int ((Int32.ofInt x2) + Int32.ofInt 1)))], [], zk c m)) (st2 := (2, [(some (.ref (z_RO + 1))), (some (.int (Int32.ofInt b))), (some (.int (Int32.ofInt (x2 + 1))))], [], zk c m)) ⟨[zo, zo], _, rfl, ⟨trivial, trivial, trivial⟩⟩ (z_steq (z_c1 rfl (z_c1 rfl (z_c1 (z_si (zi_add rfl rfl)) rfl))) rfl rfl) ?_
      exact ih _ (by omega) (x2 + 1) (by omega) rfl

set_option maxRecDepth 100000 in
set_option maxHeartbeats 4000000 in
theorem S_X12_placeOf_1 (zn : Bool) (d : Nat) {c : Nat × Nat} {mC : zM} {t9 : Int} {e9 : Nat} (hN : 107 ≤ c.1) (hC : c.1 < z_RO) (b : Int) (m : zM) (hIm : zJ mC t9 e9 m) (r_b : -2147483648 ≤ b ∧ b ≤ 2147483647) : zPi zn (d + 5) 263 [.ref (z_RO + 1), .int (Int32.ofInt b)] c m (fun (r : Int) => (-1 ≤ r ∧ r < 7) ∧ (r = -1 ∨ 0 ≤ b)) := by
  refine zPi.of zu_X12_placeOf hC (Nat.le_of_ble_eq_true rfl) ?_
  show zW zn (d + 4) 263 c (0, [(some (.ref (z_RO + 1))), (some (.int (Int32.ofInt b))), none], [], zk c m) (fun v h1 => ∃ (r : Int), v = some (.int (Int32.ofInt r)) ∧ h1 = zk c m ∧ (-1 ≤ r ∧ r < 7) ∧ (r = -1 ∨ 0 ≤ b))
  refine zW.step (st1 := (2, [(some (.ref (z_RO + 1))), (some (.int (Int32.ofInt b))), (some (.int (Int32.ofInt 0)))], [], zk c m)) (st2 := (2, [(some (.ref (z_RO + 1))), (some (.int (Int32.ofInt b))), (some (.int (Int32.ofInt 0)))], [], zk c m)) ⟨[zo, zo], _, rfl, ⟨trivial, trivial, trivial⟩⟩ rfl ?_
  refine L_X12_placeOf_1_2 zn _ hN hC b r_b m hIm _ (fun v9 h9 hq9 => hq9) (fun x2_5 i1_5 => ?_) _ 0 (by omega) rfl
  refine zW.step (st1 := (28, [(some (.ref (z_RO + 1))), (some (.int (Int32.ofInt b))), (some (.int (Int32.ofInt x2_5)))], [.int (Int32.ofInt (-1))], zk c m)) (st2 := (28, [(some (.ref (z_RO + 1))), (some (.int (Int32.ofInt b))), (some (.int (Int32.ofInt x2_5)))], [.int (Int32.ofInt (-1))], zk c m)) ⟨[zo], _, rfl, ⟨trivial, trivial⟩⟩ rfl ?_
  exact zW.fin (zfin_i rfl rfl rfl) ⟨(-1), rfl, rfl, (by omega), (by omega)⟩

set_option maxRecDepth 100000 in
set_option maxHeartbeats 4000000 in
theorem S_K0_coder_2 (zn : Bool) (d : Nat) {c : Nat × Nat} {mC : zM} {t9 : Int} {e9 : Nat} (hN : 107 ≤ c.1) (hC : c.1 < z_RO) (m : zM) (hIm : zJ mC t9 e9 m) : zPi zn (d + 1) 5 [.ref (z_RO + 2)] c m (fun (r : Int) => (r = 0)) := by
  refine zPi.of zu_J0_coder_7d493 hC (Nat.le_of_ble_eq_true rfl) ?_
  show zW zn (d + 0) 5 c (0, [(some (.ref (z_RO + 2)))], [], zk c m) (fun v h1 => ∃ (r : Int), v = some (.int (Int32.ofInt r)) ∧ h1 = zk c m ∧ (r = 0))
  have b1 : ¬ ((1 : Int) = 0) := by omega
  refine zW.step (st1 := (6, [(some (.ref (z_RO + 2)))], [], zk c m)) (st2 := (6, [(some (.ref (z_RO + 2)))], [], zk c m)) ⟨[zo, zo], _, rfl, ⟨trivial, zbf (fun q => b1 ((zi_eq (by decide : (1 : Int32) = Int32.ofInt 1) (rfl : (0 : Int32) = Int32.ofInt 0) (⟨by decide, by decide⟩ : zR 1) (⟨by decide, by decide⟩ : zR 0)).mp q)), trivial⟩⟩ rfl ?_
  refine zW.step (st1 := (14, [(some (.ref (z_RO + 2)))], [.int (0 : Int32)], zk c m)) (st2 := (14, [(some (.ref (z_RO + 2)))], [.int (Int32.ofInt 0)], zk c m)) ⟨[zo, zo, zo], _, rfl, ⟨trivial, trivial, trivial, trivial⟩⟩ (z_steq rfl (z_c1 (z_vi (by decide : (0 : Int32) = Int32.ofInt 0)) rfl) rfl) ?_
  exact zW.fin (zfin_i rfl rfl rfl) ⟨0, rfl, rfl, (by omega)⟩

set_option maxRecDepth 100000 in
set_option maxHeartbeats 4000000 in
theorem S_K0_isLatin1_2 (zn : Bool) (d : Nat) {c : Nat × Nat} {mC : zM} {t9 : Int} {e9 : Nat} (hN : 107 ≤ c.1) (hC : c.1 < z_RO) (m : zM) (hIm : zJ mC t9 e9 m) : zPi zn (d + 1) 8 [.ref (z_RO + 2)] c m (fun (r : Int) => (r = 1)) := by
  refine zPi.of zu_J0_isLatin1_aae02 hC (Nat.le_of_ble_eq_true rfl) ?_
  show zW zn (d + 0) 8 c (0, [(some (.ref (z_RO + 2)))], [], zk c m) (fun v h1 => ∃ (r : Int), v = some (.int (Int32.ofInt r)) ∧ h1 = zk c m ∧ (r = 1))
  have b1 : ¬ ((1 : Int) = 0) := by omega
  refine zW.step (st1 := (6, [(some (.ref (z_RO + 2)))], [], zk c m)) (st2 := (6, [(some (.ref (z_RO + 2)))], [], zk c m)) ⟨[zo, zo], _, rfl, ⟨trivial, zbf (fun q => b1 ((zi_eq (by decide : (1 : Int32) = Int32.ofInt 1) (rfl : (0 : Int32) = Int32.ofInt 0) (⟨by decide, by decide⟩ : zR 1) (⟨by decide, by decide⟩ : zR 0)).mp q)), trivial⟩⟩ rfl ?_
  have b2 : (0 : Int) = 0 := by omega
  refine zW.step (st1 := (13, [(some (.ref (z_RO + 2)))], [], zk c m)) (st2 := (13, [(some (.ref (z_RO + 2)))], [], zk c m)) ⟨[zo, zo, zo], _, rfl, ⟨trivial, trivial, zbf (fun q => q ((zi_eq (by decide : (0 : Int32) = Int32.ofInt 0) (rfl : (0 : Int32) = Int32.ofInt 0) (⟨by decide, by decide⟩ : zR 0) (⟨by decide, by decide⟩ : zR 0)).mpr b2)), trivial⟩⟩ rfl ?_
  refine zW.step (st1 := (18, [(some (.ref (z_RO + 2)))], [.int (Int32.ofInt 1)], zk c m)) (st2 := (18, [(some (.ref (z_RO + 2)))], [.int (Int32.ofInt 1)], zk c m)) ⟨[zo, zo], _, rfl, ⟨trivial, trivial, trivial⟩⟩ rfl ?_
  exact zW.fin (zfin_i rfl rfl rfl) ⟨1, rfl, rfl, (by omega)⟩

set_option maxRecDepth 100000 in
set_option maxHeartbeats 4000000 in
theorem S_K0_length_2 (zn : Bool) (d : Nat) {c : Nat × Nat} {mC : zM} {t9 : Int} {e9 : Nat} (hN : 107 ≤ c.1) (hC : c.1 < z_RO) (m : zM) (hIm : zJ mC t9 e9 m) : zPi zn (d + 2) 9 [.ref (z_RO + 2)] c m (fun (r : Int) => (r = 2)) := by
  refine zPi.of zu_J0_length_8abf5 hC (Nat.le_of_ble_eq_true rfl) ?_
  show zW zn (d + 1) 9 c (0, [(some (.ref (z_RO + 2)))], [], zk c m) (fun v h1 => ∃ (r : Int), v = some (.int (Int32.ofInt r)) ∧ h1 = zk c m ∧ (r = 2))
  refine zW.step (st1 := (6, [(some (.ref (z_RO + 2)))], [.ref (z_RO + 2), .int (Int32.ofNat 2)], zk c m)) (st2 := (6, [(some (.ref (z_RO + 2)))], [.ref (z_RO + 2), .int (Int32.ofInt 2)], zk c m)) ⟨[zo, zo, zo, zo], _, rfl, ⟨trivial, trivial, trivial, trivial, trivial⟩⟩ (z_steq rfl (z_c1 rfl (z_c1 (z_vi (by decide : Int32.ofNat 2 = Int32.ofInt 2)) rfl)) rfl) ?_
  obtain ⟨r1, hs1, q_1⟩ := S_K0_coder_2 zn (d + 0) hN hC m hIm
  subst q_1
  refine zW.step (st1 := (9, [(some (.ref (z_RO + 2)))], [.int (Int32.ofInt 0), .int (Int32.ofInt 2)], zk c m)) ⟨[zc (some (.int (Int32.ofInt 0))) (zk c m)], _, rfl, ⟨⟨(Nat.le_of_ble_eq_true rfl), hs1, (Nat.le_of_ble_eq_true rfl), Nat.le_refl _, Nat.le_refl _, Nat.le_refl _, Nat.le_refl _⟩, trivial⟩⟩ rfl ?_
  have f2 : (-2147483648 : Int) ≤ zb_shr 2 0 ∧ zb_shr 2 0 ≤ 2147483647 := zb_shrR 2 0
  refine zW.step (st1 := (10, [(some (.ref (z_RO + 2)))], [.int ((Int32.ofInt 2) >>> ((Int32.ofInt 0) &&& 31))], zk c m)) (st2 := (10, [(some (.ref (z_RO + 2)))], [.int (Int32.ofInt 2)], zk c m)) ⟨[zo], _, rfl, ⟨trivial, trivial⟩⟩ (z_steq rfl (z_c1 (z_vi (by decide +kernel : (Int32.ofInt 2) >>> ((Int32.ofInt 0) &&& 31) = Int32.ofInt 2)) rfl) rfl) ?_
  exact zW.fin (zfin_i rfl rfl rfl) ⟨2, rfl, rfl, (by omega)⟩

set_option maxRecDepth 100000 in
set_option maxHeartbeats 4000000 in
theorem S_K1_charAt_102 (zn : Bool) (d : Nat) {c : Nat × Nat} {mC : zM} {t9 : Int} {e9 : Nat} (hN : 107 ≤ c.1) (hC : c.1 < z_RO) (a : Int) (m : zM) (hIm : zJ mC t9 e9 m) (r_a : -2147483648 ≤ a ∧ a ≤ 2147483647) (ha : 0 ≤ a ∧ a < 2) : zPi zn (d + 3) 11 [.ref (z_RO + 102), .int (Int32.ofInt a)] c m (fun (r : Int) => (0 ≤ r ∧ r ≤ 122)) := by
  refine zPi.of zu_J1_charAt_3b067 hC (Nat.le_of_ble_eq_true rfl) ?_
  show zW zn (d + 2) 11 c (0, [(some (.ref (z_RO + 102))), (some (.int (Int32.ofInt a)))], [], zk c m) (fun v h1 => ∃ (r : Int), v = some (.int (Int32.ofInt r)) ∧ h1 = zk c m ∧ (0 ≤ r ∧ r ≤ 122))
  refine zW.step (st1 := (3, [(some (.ref (z_RO + 102))), (some (.int (Int32.ofInt a)))], [.int (Int32.ofNat 2), .int (Int32.ofInt a)], zk c m)) (st2 := (3, [(some (.ref (z_RO + 102))), (some (.int (Int32.ofInt a)))], [.int (Int32.ofInt 2), .int (Int32.ofInt a)], zk c m)) ⟨[zo, zo, zo], _, rfl, ⟨trivial, trivial, trivial, trivial⟩⟩ (z_steq rfl (z_c1 (z_vi (by decide : Int32.ofNat 2 = Int32.ofInt 2)) rfl) rfl) ?_
  obtain ⟨hs1, _⟩ := S_K0_checkIndex zn (d + 0) hN hC a 2 m hIm (by omega) (by omega) (by omega)
  refine zW.step (st1 := (6, [(some (.ref (z_RO + 102))), (some (.int (Int32.ofInt a)))], [], zk c m)) ⟨[zc (none) (zk c m)], _, rfl, ⟨⟨(Nat.le_of_ble_eq_true rfl), hs1, (Nat.le_of_ble_eq_true rfl), Nat.le_refl _, Nat.le_refl _, Nat.le_refl _, Nat.le_refl _⟩, trivial⟩⟩ rfl ?_
  have f2 := zbt9_b 2 a.toNat
  have f3 := zbt9_c 2 a.toNat (by decide) (by omega)
  have f4 : (-2147483648 : Int) ≤ zb_and (zbt9 2 a.toNat) 255 ∧ zb_and (zbt9 2 a.toNat) 255 ≤ 2147483647 := zb_andR (zbt9 2 a.toNat) 255
  have f5 := zb_and255 (zbt9 2 a.toNat)
  have f6 := zb_and_le (a := zbt9 2 a.toNat) (b := 255) (by decide) (by decide)
  refine zW.step (st1 := (14, [(some (.ref (z_RO + 102))), (some (.int (Int32.ofInt a)))], [.int (((((z_byt.getD 2 []).getD (Int32.ofInt a).toNatClampNeg 0) &&& ((Int16.ofInt 255).toInt32)).toUInt32 % 65536).toInt32)], zk c m)) (st2 := (14, [(some (.ref (z_RO + 102))), (some (.int (Int32.ofInt a)))], [.int (Int32.ofInt ((zb_and (zbt9 2 a.toNat) 255) % 65536))], zk c m)) ⟨[zo, zo, zo, zo, zo, zo], _, rfl, ⟨trivial, trivial, (zi_in rfl (by omega) (by omega) (by decide) : vp_in (Int32.ofInt a) 2), trivial, trivial, trivial, trivial⟩⟩ (z_steq rfl (z_c1 (z_vi (zi_i2c (zi_and (zbt9_rd 2 rfl (by unfold zR; omega)) (by decide : (Int16.ofInt 255).toInt32 = Int32.ofInt 255)))) rfl) rfl) ?_
  exact zW.fin (zfin_i rfl rfl (z_narC rfl (by omega))) ⟨(zb_and (zbt9 2 a.toNat) 255) % 65536, rfl, rfl, (by omega)⟩

set_option maxRecDepth 100000 in
set_option maxHeartbeats 4000000 in
theorem S_K0_charAt_2 (zn : Bool) (d : Nat) {c : Nat × Nat} {mC : zM} {t9 : Int} {e9 : Nat} (hN : 107 ≤ c.1) (hC : c.1 < z_RO) (a : Int) (m : zM) (hIm : zJ mC t9 e9 m) (r_a : -2147483648 ≤ a ∧ a ≤ 2147483647) (ha : 0 ≤ a ∧ a < 2) : zPi zn (d + 4) 2 [.ref (z_RO + 2), .int (Int32.ofInt a)] c m (fun (r : Int) => (0 ≤ r ∧ r ≤ 122)) := by
  refine zPi.of zu_J0_charAt_5068e hC (Nat.le_of_ble_eq_true rfl) ?_
  show zW zn (d + 3) 2 c (0, [(some (.ref (z_RO + 2))), (some (.int (Int32.ofInt a)))], [], zk c m) (fun v h1 => ∃ (r : Int), v = some (.int (Int32.ofInt r)) ∧ h1 = zk c m ∧ (0 ≤ r ∧ r ≤ 122))
  refine zW.step (st1 := (1, [(some (.ref (z_RO + 2))), (some (.int (Int32.ofInt a)))], [.ref (z_RO + 2)], zk c m)) (st2 := (1, [(some (.ref (z_RO + 2))), (some (.int (Int32.ofInt a)))], [.ref (z_RO + 2)], zk c m)) ⟨[zo], _, rfl, ⟨trivial, trivial⟩⟩ rfl ?_
  obtain ⟨r1, hs1, q_1⟩ := S_K0_isLatin1_2 zn (d + 2) hN hC m hIm
  subst q_1
  refine zW.step (st1 := (4, [(some (.ref (z_RO + 2))), (some (.int (Int32.ofInt a)))], [.int (Int32.ofInt 1)], zk c m)) ⟨[zc (some (.int (Int32.ofInt 1))) (zk c m)], _, rfl, ⟨⟨(Nat.le_of_ble_eq_true rfl), hs1, (Nat.le_of_ble_eq_true rfl), Nat.le_refl _, Nat.le_refl _, Nat.le_refl _, Nat.le_refl _⟩, trivial⟩⟩ rfl ?_
  have b2 : ¬ ((1 : Int) = 0) := by omega
  refine zW.step (st1 := (7, [(some (.ref (z_RO + 2))), (some (.int (Int32.ofInt a)))], [], zk c m)) (st2 := (7, [(some (.ref (z_RO + 2))), (some (.int (Int32.ofInt a)))], [], zk c m)) ⟨[zo], _, rfl, ⟨zbf (fun q => b2 ((zi_eq (by decide : Int32.ofInt 1 = Int32.ofInt 1) (rfl : (0 : Int32) = Int32.ofInt 0) (⟨by decide, by decide⟩ : zR 1) (⟨by decide, by decide⟩ : zR 0)).mp q)), trivial⟩⟩ rfl ?_
  refine zW.step (st1 := (12, [(some (.ref (z_RO + 2))), (some (.int (Int32.ofInt a)))], [.int (Int32.ofInt a), .ref (z_RO + 102)], zk c m)) (st2 := (12, [(some (.ref (z_RO + 2))), (some (.int (Int32.ofInt a)))], [.int (Int32.ofInt a), .ref (z_RO + 102)], zk c m)) ⟨[zo, zo, zo], _, rfl, ⟨trivial, trivial, trivial, trivial⟩⟩ rfl ?_
  obtain ⟨r3, hs3, q_3⟩ := S_K1_charAt_102 zn (d + 0) hN hC a m hIm (by omega) (by omega)
  refine zW.step (st1 := (15, [(some (.ref (z_RO + 2))), (some (.int (Int32.ofInt a)))], [.int (Int32.ofInt r3)], zk c m)) ⟨[zc (some (.int (Int32.ofInt r3))) (zk c m)], _, rfl, ⟨⟨(Nat.le_of_ble_eq_true rfl), hs3, (Nat.le_of_ble_eq_true rfl), Nat.le_refl _, Nat.le_refl _, Nat.le_refl _, Nat.le_refl _⟩, trivial⟩⟩ rfl ?_
  exact zW.fin (zfin_i rfl rfl (z_narC rfl (by omega))) ⟨r3, rfl, rfl, (by omega)⟩

set_option maxRecDepth 100000 in
set_option maxHeartbeats 4000000 in
theorem L_X12_placeOf_2_2 (zn : Bool) (d : Nat) {c : Nat × Nat} {mC : zM} {t9 : Int} {e9 : Nat} (hN : 107 ≤ c.1) (hC : c.1 < z_RO) (b : Int) (r_b : -2147483648 ≤ b ∧ b ≤ 2147483647) (m : zM) (hIm : zJ mC t9 e9 m) (Q : Option Value → z_H → Prop) (KR : ∀ v h1, (fun v h1 => ∃ (r : Int), v = some (.int (Int32.ofInt r)) ∧ h1 = zk c m ∧ (-1 ≤ r ∧ r < 2) ∧ (r = -1 ∨ 0 ≤ b)) v h1 → Q v h1) (K : ∀ (x2 : Int), 0 ≤ x2 ∧ x2 ≤ 2 → zW zn (d + 4) 263 c (27, [(some (.ref (z_RO + 2))), (some (.int (Int32.ofInt b))), (some (.int (Int32.ofInt x2)))], [], zk c m) Q) :
    ∀ (w : Nat) (x2 : Int), 0 ≤ x2 ∧ x2 ≤ 2 → w = (2 - x2).toNat → zW zn (d + 4) 263 c (2, [(some (.ref (z_RO + 2))), (some (.int (Int32.ofInt b))), (some (.int (Int32.ofInt x2)))], [], zk c m) Q := by
  intro w
  induction w using Nat.strongRecOn with | _ w ih => ?_
  intro x2 i1 hw
  refine zW.step (st1 := (4, [(some (.ref (z_RO + 2))), (some (.int (Int32.ofInt b))), (some (.int (Int32.ofInt x2)))], [.ref (z_RO + 2), .int (Int32.ofInt x2)], zk c m)) (st2 := (4, [(some (.ref (z_RO + 2))), (some (.int (Int32.ofInt b))), (some (.int (Int32.ofInt x2)))], [.ref (z_RO + 2), .int (Int32.ofInt x2)], zk c m)) ⟨[zo, zo], _, rfl, ⟨trivial, trivial, trivial⟩⟩ rfl ?_
  obtain ⟨r1, hs1, q_1⟩ := S_K0_length_2 zn (d + 2) hN hC m hIm
  subst q_1
  refine zW.step (st1 := (7, [(some (.ref (z_RO + 2))), (some (.int (Int32.ofInt b))), (some (.int (Int32.ofInt x2)))], [.int (Int32.ofInt 2), .int (Int32.ofInt x2)], zk c m)) ⟨[zc (some (.int (Int32.ofInt 2))) (zk c m)], _, rfl, ⟨⟨(Nat.le_of_ble_eq_true rfl), hs1, (Nat.le_of_ble_eq_true rfl), Nat.le_refl _, Nat.le_refl _, Nat.le_refl _, Nat.le_refl _⟩, trivial⟩⟩ rfl ?_
  by_cases b2 : 2 ≤ x2
  · refine zW.step (st1 := (27, [(some (.ref (z_RO + 2))), (some (.int (Int32.ofInt b))), (some (.int (Int32.ofInt x2)))], [], zk c m)) (st2 := (27, [(some (.ref (z_RO + 2))), (some (.int (Int32.ofInt b))), (some (.int (Int32.ofInt x2)))], [], zk c m)) ⟨[zt], _, rfl, ⟨zbt ((zi_le (by decide : Int32.ofInt 2 = Int32.ofInt 2) rfl (⟨by decide, by decide⟩ : zR 2) (by unfold zR; omega)).mpr b2), trivial⟩⟩ rfl ?_
    exact K x2 (by omega)
  · refine zW.step (st1 := (10, [(some (.ref (z_RO + 2))), (some (.int (Int32.ofInt b))), (some (.int (Int32.ofInt x2)))], [], zk c m)) (st2 := (10, [(some (.ref (z_RO + 2))), (some (.int (Int32.ofInt b))), (some (.int (Int32.ofInt x2)))], [], zk c m)) ⟨[zo], _, rfl, ⟨zbf (fun q => b2 ((zi_le (by decide : Int32.ofInt 2 = Int32.ofInt 2) rfl (⟨by decide, by decide⟩ : zR 2) (by unfold zR; omega)).mp q)), trivial⟩⟩ rfl ?_
    refine zW.step (st1 := (12, [(some (.ref (z_RO + 2))), (some (.int (Int32.ofInt b))), (some (.int (Int32.ofInt x2)))], [.int (Int32.ofInt x2), .ref (z_RO + 2)], zk c m)) (st2 := (12, [(some (.ref (z_RO + 2))), (some (.int (Int32.ofInt b))), (some (.int (Int32.ofInt x2)))], [.int (Int32.ofInt x2), .ref (z_RO + 2)], zk c m)) ⟨[zo, zo], _, rfl, ⟨trivial, trivial, trivial⟩⟩ rfl ?_
    obtain ⟨r3, hs3, q_3⟩ := S_K0_charAt_2 zn (d + 0) hN hC x2 m hIm (by omega) (by omega)
    refine zW.step (st1 := (15, [(some (.ref (z_RO + 2))), (some (.int (Int32.ofInt b))), (some (.int (Int32.ofInt x2)))], [.int (Int32.ofInt r3)], zk c m)) ⟨[zc (some (.int (Int32.ofInt r3))) (zk c m)], _, rfl, ⟨⟨(Nat.le_of_ble_eq_true rfl), hs3, (Nat.le_of_ble_eq_true rfl), Nat.le_refl _, Nat.le_refl _, Nat.le_refl _, Nat.le_refl _⟩, trivial⟩⟩ rfl ?_
    by_cases b4 : r3 = b
    · refine zW.step (st1 := (19, [(some (.ref (z_RO + 2))), (some (.int (Int32.ofInt b))), (some (.int (Int32.ofInt x2)))], [], zk c m)) (st2 := (19, [(some (.ref (z_RO + 2))), (some (.int (Int32.ofInt b))), (some (.int (Int32.ofInt x2)))], [], zk c m)) ⟨[zo, zo], _, rfl, ⟨trivial, zbf (fun q => q ((zi_eq rfl rfl (by unfold zR; omega) (by unfold zR; omega)).mpr b4)), trivial⟩⟩ rfl ?_
      refine zW.step (st1 := (20, [(some (.ref (z_RO + 2))), (some (.int (Int32.ofInt b))), (some (.int (Int32.ofInt x2)))], [.int (Int32.ofInt x2)], zk c m)) (st2 := (20, [(some (.ref (z_RO + 2))), (some (.int (Int32.ofInt b))), (some (.int (Int32.ofInt x2)))], [.int (Int32.ofInt x2)], zk c m)) ⟨[zo], _, rfl, ⟨trivial, trivial⟩⟩ rfl ?_
      exact zW.fin (zfin_i rfl rfl rfl) (KR _ _ ⟨x2, rfl, rfl, (by omega), (by omega)⟩)
    · refine zW.step (st1 := (21, [(some (.ref (z_RO + 2))), (some (.int (Int32.ofInt b))), (some (.int (Int32.ofInt x2)))], [], zk c m)) (st2 := (21, [(some (.ref (z_RO + 2))), (some (.int (Int32.ofInt b))), (some (.int (Int32.ofInt x2)))], [], zk c m)) ⟨[zo, zt], _, rfl, ⟨trivial, zbt (fun q => b4 ((zi_eq rfl rfl (by unfold zR; omega) (by unfold zR; omega)).mp q)), trivial⟩⟩ rfl ?_
      refine zW.step (st1 := (2, [(some (.ref (z_RO + 2))), (some (.int (Int32.ofInt b))), (some (.int ((Int32.ofInt x2) + Int32.ofInt 1)))], [], zk c m)) (st2 := (2, [(some (.ref (z_RO + 2))), (some (.int (Int32.ofInt b))), (some (.int (Int32.ofInt (x2 + 1))))], [], zk c m)) ⟨[zo, zo], _, rfl, ⟨trivial, trivial, trivial⟩⟩ (z_steq (z_c1 rfl (z_c1 rfl (z_c1 (z_si (zi_add rfl rfl)) rfl))) rfl rfl) ?_
      exact ih _ (by omega) (x2 + 1) (by omega) rfl

set_option maxRecDepth 100000 in
set_option maxHeartbeats 4000000 in
theorem S_X12_placeOf_2 (zn : Bool) (d : Nat) {c : Nat × Nat} {mC : zM} {t9 : Int} {e9 : Nat} (hN : 107 ≤ c.1) (hC : c.1 < z_RO) (b : Int) (m : zM) (hIm : zJ mC t9 e9 m) (r_b : -2147483648 ≤ b ∧ b ≤ 2147483647) : zPi zn (d + 5) 263 [.ref (z_RO + 2), .int (Int32.ofInt b)] c m (fun (r : Int) => (-1 ≤ r ∧ r < 2) ∧ (r = -1 ∨ 0 ≤ b)) := by
  refine zPi.of zu_X12_placeOf hC (Nat.le_of_ble_eq_true rfl) ?_
  show zW zn (d + 4) 263 c (0, [(some (.ref (z_RO + 2))), (some (.int (Int32.ofInt b))), none], [], zk c m) (fun v h1 => ∃ (r : Int), v = some (.int (Int32.ofInt r)) ∧ h1 = zk c m ∧ (-1 ≤ r ∧ r < 2) ∧ (r = -1 ∨ 0 ≤ b))
  refine zW.step (st1 := (2, [(some (.ref (z_RO + 2))), (some (.int (Int32.ofInt b))), (some (.int (Int32.ofInt 0)))], [], zk c m)) (st2 := (2, [(some (.ref (z_RO + 2))), (some (.int (Int32.ofInt b))), (some (.int (Int32.ofInt 0)))], [], zk c m)) ⟨[zo, zo], _, rfl, ⟨trivial, trivial, trivial⟩⟩ rfl ?_
  refine L_X12_placeOf_2_2 zn _ hN hC b r_b m hIm _ (fun v9 h9 hq9 => hq9) (fun x2_5 i1_5 => ?_) _ 0 (by omega) rfl
  refine zW.step (st1 := (28, [(some (.ref (z_RO + 2))), (some (.int (Int32.ofInt b))), (some (.int (Int32.ofInt x2_5)))], [.int (Int32.ofInt (-1))], zk c m)) (st2 := (28, [(some (.ref (z_RO + 2))), (some (.int (Int32.ofInt b))), (some (.int (Int32.ofInt x2_5)))], [.int (Int32.ofInt (-1))], zk c m)) ⟨[zo], _, rfl, ⟨trivial, trivial⟩⟩ rfl ?_
  exact zW.fin (zfin_i rfl rfl rfl) ⟨(-1), rfl, rfl, (by omega), (by omega)⟩

set_option maxRecDepth 100000 in
set_option maxHeartbeats 4000000 in
theorem S_K0_coder_3 (zn : Bool) (d : Nat) {c : Nat × Nat} {mC : zM} {t9 : Int} {e9 : Nat} (hN : 107 ≤ c.1) (hC : c.1 < z_RO) (m : zM) (hIm : zJ mC t9 e9 m) : zPi zn (d + 1) 5 [.ref (z_RO + 3)] c m (fun (r : Int) => (r = 0)) := by
  refine zPi.of zu_J0_coder_7d493 hC (Nat.le_of_ble_eq_true rfl) ?_
  show zW zn (d + 0) 5 c (0, [(some (.ref (z_RO + 3)))], [], zk c m) (fun v h1 => ∃ (r : Int), v = some (.int (Int32.ofInt r)) ∧ h1 = zk c m ∧ (r = 0))
  have b1 : ¬ ((1 : Int) = 0) := by omega
  refine zW.step (st1 := (6, [(some (.ref (z_RO + 3)))], [], zk c m)) (st2 := (6, [(some (.ref (z_RO + 3)))], [], zk c m)) ⟨[zo, zo], _, rfl, ⟨trivial, zbf (fun q => b1 ((zi_eq (by decide : (1 : Int32) = Int32.ofInt 1) (rfl : (0 : Int32) = Int32.ofInt 0) (⟨by decide, by decide⟩ : zR 1) (⟨by decide, by decide⟩ : zR 0)).mp q)), trivial⟩⟩ rfl ?_
  refine zW.step (st1 := (14, [(some (.ref (z_RO + 3)))], [.int (0 : Int32)], zk c m)) (st2 := (14, [(some (.ref (z_RO + 3)))], [.int (Int32.ofInt 0)], zk c m)) ⟨[zo, zo, zo], _, rfl, ⟨trivial, trivial, trivial, trivial⟩⟩ (z_steq rfl (z_c1 (z_vi (by decide : (0 : Int32) = Int32.ofInt 0)) rfl) rfl) ?_
  exact zW.fin (zfin_i rfl rfl rfl) ⟨0, rfl, rfl, (by omega)⟩

set_option maxRecDepth 100000 in
set_option maxHeartbeats 4000000 in
theorem S_K0_isLatin1_3 (zn : Bool) (d : Nat) {c : Nat × Nat} {mC : zM} {t9 : Int} {e9 : Nat} (hN : 107 ≤ c.1) (hC : c.1 < z_RO) (m : zM) (hIm : zJ mC t9 e9 m) : zPi zn (d + 1) 8 [.ref (z_RO + 3)] c m (fun (r : Int) => (r = 1)) := by
  refine zPi.of zu_J0_isLatin1_aae02 hC (Nat.le_of_ble_eq_true rfl) ?_
  show zW zn (d + 0) 8 c (0, [(some (.ref (z_RO + 3)))], [], zk c m) (fun v h1 => ∃ (r : Int), v = some (.int (Int32.ofInt r)) ∧ h1 = zk c m ∧ (r = 1))
  have b1 : ¬ ((1 : Int) = 0) := by omega
  refine zW.step (st1 := (6, [(some (.ref (z_RO + 3)))], [], zk c m)) (st2 := (6, [(some (.ref (z_RO + 3)))], [], zk c m)) ⟨[zo, zo], _, rfl, ⟨trivial, zbf (fun q => b1 ((zi_eq (by decide : (1 : Int32) = Int32.ofInt 1) (rfl : (0 : Int32) = Int32.ofInt 0) (⟨by decide, by decide⟩ : zR 1) (⟨by decide, by decide⟩ : zR 0)).mp q)), trivial⟩⟩ rfl ?_
  have b2 : (0 : Int) = 0 := by omega
  refine zW.step (st1 := (13, [(some (.ref (z_RO + 3)))], [], zk c m)) (st2 := (13, [(some (.ref (z_RO + 3)))], [], zk c m)) ⟨[zo, zo, zo], _, rfl, ⟨trivial, trivial, zbf (fun q => q ((zi_eq (by decide : (0 : Int32) = Int32.ofInt 0) (rfl : (0 : Int32) = Int32.ofInt 0) (⟨by decide, by decide⟩ : zR 0) (⟨by decide, by decide⟩ : zR 0)).mpr b2)), trivial⟩⟩ rfl ?_
  refine zW.step (st1 := (18, [(some (.ref (z_RO + 3)))], [.int (Int32.ofInt 1)], zk c m)) (st2 := (18, [(some (.ref (z_RO + 3)))], [.int (Int32.ofInt 1)], zk c m)) ⟨[zo, zo], _, rfl, ⟨trivial, trivial, trivial⟩⟩ rfl ?_
  exact zW.fin (zfin_i rfl rfl rfl) ⟨1, rfl, rfl, (by omega)⟩

set_option maxRecDepth 100000 in
set_option maxHeartbeats 4000000 in
theorem S_K0_length_3 (zn : Bool) (d : Nat) {c : Nat × Nat} {mC : zM} {t9 : Int} {e9 : Nat} (hN : 107 ≤ c.1) (hC : c.1 < z_RO) (m : zM) (hIm : zJ mC t9 e9 m) : zPi zn (d + 2) 9 [.ref (z_RO + 3)] c m (fun (r : Int) => (r = 6)) := by
  refine zPi.of zu_J0_length_8abf5 hC (Nat.le_of_ble_eq_true rfl) ?_
  show zW zn (d + 1) 9 c (0, [(some (.ref (z_RO + 3)))], [], zk c m) (fun v h1 => ∃ (r : Int), v = some (.int (Int32.ofInt r)) ∧ h1 = zk c m ∧ (r = 6))
  refine zW.step (st1 := (6, [(some (.ref (z_RO + 3)))], [.ref (z_RO + 3), .int (Int32.ofNat 6)], zk c m)) (st2 := (6, [(some (.ref (z_RO + 3)))], [.ref (z_RO + 3), .int (Int32.ofInt 6)], zk c m)) ⟨[zo, zo, zo, zo], _, rfl, ⟨trivial, trivial, trivial, trivial, trivial⟩⟩ (z_steq rfl (z_c1 rfl (z_c1 (z_vi (by decide : Int32.ofNat 6 = Int32.ofInt 6)) rfl)) rfl) ?_
  obtain ⟨r1, hs1, q_1⟩ := S_K0_coder_3 zn (d + 0) hN hC m hIm
  subst q_1
  refine zW.step (st1 := (9, [(some (.ref (z_RO + 3)))], [.int (Int32.ofInt 0), .int (Int32.ofInt 6)], zk c m)) ⟨[zc (some (.int (Int32.ofInt 0))) (zk c m)], _, rfl, ⟨⟨(Nat.le_of_ble_eq_true rfl), hs1, (Nat.le_of_ble_eq_true rfl), Nat.le_refl _, Nat.le_refl _, Nat.le_refl _, Nat.le_refl _⟩, trivial⟩⟩ rfl ?_
  have f2 : (-2147483648 : Int) ≤ zb_shr 6 0 ∧ zb_shr 6 0 ≤ 2147483647 := zb_shrR 6 0
  refine zW.step (st1 := (10, [(some (.ref (z_RO + 3)))], [.int ((Int32.ofInt 6) >>> ((Int32.ofInt 0) &&& 31))], zk c m)) (st2 := (10, [(some (.ref (z_RO + 3)))], [.int (Int32.ofInt 6)], zk c m)) ⟨[zo], _, rfl, ⟨trivial, trivial⟩⟩ (z_steq rfl (z_c1 (z_vi (by decide +kernel : (Int32.ofInt 6) >>> ((Int32.ofInt 0) &&& 31) = Int32.ofInt 6)) rfl) rfl) ?_
  exact zW.fin (zfin_i rfl rfl rfl) ⟨6, rfl, rfl, (by omega)⟩

set_option maxRecDepth 100000 in
set_option maxHeartbeats 4000000 in
theorem S_K1_charAt_103 (zn : Bool) (d : Nat) {c : Nat × Nat} {mC : zM} {t9 : Int} {e9 : Nat} (hN : 107 ≤ c.1) (hC : c.1 < z_RO) (a : Int) (m : zM) (hIm : zJ mC t9 e9 m) (r_a : -2147483648 ≤ a ∧ a ≤ 2147483647) (ha : 0 ≤ a ∧ a < 6) : zPi zn (d + 3) 11 [.ref (z_RO + 103), .int (Int32.ofInt a)] c m (fun (r : Int) => (0 ≤ r ∧ r ≤ 122)) := by
  refine zPi.of zu_J1_charAt_3b067 hC (Nat.le_of_ble_eq_true rfl) ?_
  show zW zn (d + 2) 11 c (0, [(some (.ref (z_RO + 103))), (some (.int (Int32.ofInt a)))], [], zk c m) (fun v h1 => ∃ (r : Int), v = some (.int (Int32.ofInt r)) ∧ h1 = zk c m ∧ (0 ≤ r ∧ r ≤ 122))
  refine zW.step (st1 := (3, [(some (.ref (z_RO + 103))), (some (.int (Int32.ofInt a)))], [.int (Int32.ofNat 6), .int (Int32.ofInt a)], zk c m)) (st2 := (3, [(some (.ref (z_RO + 103))), (some (.int (Int32.ofInt a)))], [.int (Int32.ofInt 6), .int (Int32.ofInt a)], zk c m)) ⟨[zo, zo, zo], _, rfl, ⟨trivial, trivial, trivial, trivial⟩⟩ (z_steq rfl (z_c1 (z_vi (by decide : Int32.ofNat 6 = Int32.ofInt 6)) rfl) rfl) ?_
  obtain ⟨hs1, _⟩ := S_K0_checkIndex zn (d + 0) hN hC a 6 m hIm (by omega) (by omega) (by omega)
  refine zW.step (st1 := (6, [(some (.ref (z_RO + 103))), (some (.int (Int32.ofInt a)))], [], zk c m)) ⟨[zc (none) (zk c m)], _, rfl, ⟨⟨(Nat.le_of_ble_eq_true rfl), hs1, (Nat.le_of_ble_eq_true rfl), Nat.le_refl _, Nat.le_refl _, Nat.le_refl _, Nat.le_refl _⟩, trivial⟩⟩ rfl ?_
  have f2 := zbt9_b 3 a.toNat
  have f3 := zbt9_c 3 a.toNat (by decide) (by omega)
  have f4 : (-2147483648 : Int) ≤ zb_and (zbt9 3 a.toNat) 255 ∧ zb_and (zbt9 3 a.toNat) 255 ≤ 2147483647 := zb_andR (zbt9 3 a.toNat) 255
  have f5 := zb_and255 (zbt9 3 a.toNat)
  have f6 := zb_and_le (a := zbt9 3 a.toNat) (b := 255) (by decide) (by decide)
  refine zW.step (st1 := (14, [(some (.ref (z_RO + 103))), (some (.int (Int32.ofInt a)))], [.int (((((z_byt.getD 3 []).getD (Int32.ofInt a).toNatClampNeg 0) &&& ((Int16.ofInt 255).toInt32)).toUInt32 % 65536).toInt32)], zk c m)) (st2 := (14, [(some (.ref (z_RO + 103))), (some (.int (Int32.ofInt a)))], [.int (Int32.ofInt ((zb_and (zbt9 3 a.toNat) 255) % 65536))], zk c m)) ⟨[zo, zo, zo, zo, zo, zo], _, rfl, ⟨trivial, trivial, (zi_in rfl (by omega) (by omega) (by decide) : vp_in (Int32.ofInt a) 6), trivial, trivial, trivial, trivial⟩⟩ (z_steq rfl (z_c1 (z_vi (zi_i2c (zi_and (zbt9_rd 3 rfl (by unfold zR; omega)) (by decide : (Int16.ofInt 255).toInt32 = Int32.ofInt 255)))) rfl) rfl) ?_
  exact zW.fin (zfin_i rfl rfl (z_narC rfl (by omega))) ⟨(zb_and (zbt9 3 a.toNat) 255) % 65536, rfl, rfl, (by omega)⟩

set_option maxRecDepth 100000 in
set_option maxHeartbeats 4000000 in
theorem S_K0_charAt_3 (zn : Bool) (d : Nat) {c : Nat × Nat} {mC : zM} {t9 : Int} {e9 : Nat} (hN : 107 ≤ c.1) (hC : c.1 < z_RO) (a : Int) (m : zM) (hIm : zJ mC t9 e9 m) (r_a : -2147483648 ≤ a ∧ a ≤ 2147483647) (ha : 0 ≤ a ∧ a < 6) : zPi zn (d + 4) 2 [.ref (z_RO + 3), .int (Int32.ofInt a)] c m (fun (r : Int) => (0 ≤ r ∧ r ≤ 122)) := by
  refine zPi.of zu_J0_charAt_5068e hC (Nat.le_of_ble_eq_true rfl) ?_
  show zW zn (d + 3) 2 c (0, [(some (.ref (z_RO + 3))), (some (.int (Int32.ofInt a)))], [], zk c m) (fun v h1 => ∃ (r : Int), v = some (.int (Int32.ofInt r)) ∧ h1 = zk c m ∧ (0 ≤ r ∧ r ≤ 122))
  refine zW.step (st1 := (1, [(some (.ref (z_RO + 3))), (some (.int (Int32.ofInt a)))], [.ref (z_RO + 3)], zk c m)) (st2 := (1, [(some (.ref (z_RO + 3))), (some (.int (Int32.ofInt a)))], [.ref (z_RO + 3)], zk c m)) ⟨[zo], _, rfl, ⟨trivial, trivial⟩⟩ rfl ?_
  obtain ⟨r1, hs1, q_1⟩ := S_K0_isLatin1_3 zn (d + 2) hN hC m hIm
  subst q_1
  refine zW.step (st1 := (4, [(some (.ref (z_RO + 3))), (some (.int (Int32.ofInt a)))], [.int (Int32.ofInt 1)], zk c m)) ⟨[zc (some (.int (Int32.ofInt 1))) (zk c m)], _, rfl, ⟨⟨(Nat.le_of_ble_eq_true rfl), hs1, (Nat.le_of_ble_eq_true rfl), Nat.le_refl _, Nat.le_refl _, Nat.le_refl _, Nat.le_refl _⟩, trivial⟩⟩ rfl ?_
  have b2 : ¬ ((1 : Int) = 0) := by omega
  refine zW.step (st1 := (7, [(some (.ref (z_RO + 3))), (some (.int (Int32.ofInt a)))], [], zk c m)) (st2 := (7, [(some (.ref (z_RO + 3))), (some (.int (Int32.ofInt a)))], [], zk c m)) ⟨[zo], _, rfl, ⟨zbf (fun q => b2 ((zi_eq (by decide : Int32.ofInt 1 = Int32.ofInt 1) (rfl : (0 : Int32) = Int32.ofInt 0) (⟨by decide, by decide⟩ : zR 1) (⟨by decide, by decide⟩ : zR 0)).mp q)), trivial⟩⟩ rfl ?_
  refine zW.step (st1 := (12, [(some (.ref (z_RO + 3))), (some (.int (Int32.ofInt a)))], [.int (Int32.ofInt a), .ref (z_RO + 103)], zk c m)) (st2 := (12, [(some (.ref (z_RO + 3))), (some (.int (Int32.ofInt a)))], [.int (Int32.ofInt a), .ref (z_RO + 103)], zk c m)) ⟨[zo, zo, zo], _, rfl, ⟨trivial, trivial, trivial, trivial⟩⟩ rfl ?_
  obtain ⟨r3, hs3, q_3⟩ := S_K1_charAt_103 zn (d + 0) hN hC a m hIm (by omega) (by omega)
  refine zW.step (st1 := (15, [(some (.ref (z_RO + 3))), (some (.int (Int32.ofInt a)))], [.int (Int32.ofInt r3)], zk c m)) ⟨[zc (some (.int (Int32.ofInt r3))) (zk c m)], _, rfl, ⟨⟨(Nat.le_of_ble_eq_true rfl), hs3, (Nat.le_of_ble_eq_true rfl), Nat.le_refl _, Nat.le_refl _, Nat.le_refl _, Nat.le_refl _⟩, trivial⟩⟩ rfl ?_
  exact zW.fin (zfin_i rfl rfl (z_narC rfl (by omega))) ⟨r3, rfl, rfl, (by omega)⟩

set_option maxRecDepth 100000 in
set_option maxHeartbeats 4000000 in
theorem L_X12_isAmong_3_2 (zn : Bool) (d : Nat) {c : Nat × Nat} {mC : zM} {t9 : Int} {e9 : Nat} (hN : 107 ≤ c.1) (hC : c.1 < z_RO) (b : Int) (r_b : -2147483648 ≤ b ∧ b ≤ 2147483647) (m : zM) (hIm : zJ mC t9 e9 m) (Q : Option Value → z_H → Prop) (KR : ∀ v h1, (fun v h1 => ∃ (r : Int), v = some (.int (Int32.ofInt r)) ∧ h1 = zk c m ∧ (0 ≤ r ∧ r ≤ 1) ∧ (r = 1 → 0 ≤ b ∧ b ≤ 122)) v h1 → Q v h1) (K : ∀ (x2 : Int), 0 ≤ x2 ∧ x2 ≤ 6 → zW zn (d + 4) 231 c (27, [(some (.ref (z_RO + 3))), (some (.int (Int32.ofInt b))), (some (.int (Int32.ofInt x2)))], [], zk c m) Q) :
    ∀ (w : Nat) (x2 : Int), 0 ≤ x2 ∧ x2 ≤ 6 → w = (6 - x2).toNat → zW zn (d + 4) 231 c (2, [(some (.ref (z_RO + 3))), (some (.int (Int32.ofInt b))), (some (.int (Int32.ofInt x2)))], [], zk c m) Q := by
  intro w
  induction w using Nat.strongRecOn with | _ w ih => ?_
  intro x2 i1 hw
  refine zW.step (st1 := (4, [(some (.ref (z_RO + 3))), (some (.int (Int32.ofInt b))), (some (.int (Int32.ofInt x2)))], [.ref (z_RO + 3), .int (Int32.ofInt x2)], zk c m)) (st2 := (4, [(some (.ref (z_RO + 3))), (some (.int (Int32.ofInt b))), (some (.int (Int32.ofInt x2)))], [.ref (z_RO + 3), .int (Int32.ofInt x2)], zk c m)) ⟨[zo, zo], _, rfl, ⟨trivial, trivial, trivial⟩⟩ rfl ?_
  obtain ⟨r1, hs1, q_1⟩ := S_K0_length_3 zn (d + 2) hN hC m hIm
  subst q_1
  refine zW.step (st1 := (7, [(some (.ref (z_RO + 3))), (some (.int (Int32.ofInt b))), (some (.int (Int32.ofInt x2)))], [.int (Int32.ofInt 6), .int (Int32.ofInt x2)], zk c m)) ⟨[zc (some (.int (Int32.ofInt 6))) (zk c m)], _, rfl, ⟨⟨(Nat.le_of_ble_eq_true rfl), hs1, (Nat.le_of_ble_eq_true rfl), Nat.le_refl _, Nat.le_refl _, Nat.le_refl _, Nat.le_refl _⟩, trivial⟩⟩ rfl ?_
  by_cases b2 : 6 ≤ x2
  · refine zW.step (st1 := (27, [(some (.ref (z_RO + 3))), (some (.int (Int32.ofInt b))), (some (.int (Int32.ofInt x2)))], [], zk c m)) (st2 := (27, [(some (.ref (z_RO + 3))), (some (.int (Int32.ofInt b))), (some (.int (Int32.ofInt x2)))], [], zk c m)) ⟨[zt], _, rfl, ⟨zbt ((zi_le (by decide : Int32.ofInt 6 = Int32.ofInt 6) rfl (⟨by decide, by decide⟩ : zR 6) (by unfold zR; omega)).mpr b2), trivial⟩⟩ rfl ?_
    exact K x2 (by omega)
  · refine zW.step (st1 := (10, [(some (.ref (z_RO + 3))), (some (.int (Int32.ofInt b))), (some (.int (Int32.ofInt x2)))], [], zk c m)) (st2 := (10, [(some (.ref (z_RO + 3))), (some (.int (Int32.ofInt b))), (some (.int (Int32.ofInt x2)))], [], zk c m)) ⟨[zo], _, rfl, ⟨zbf (fun q => b2 ((zi_le (by decide : Int32.ofInt 6 = Int32.ofInt 6) rfl (⟨by decide, by decide⟩ : zR 6) (by unfold zR; omega)).mp q)), trivial⟩⟩ rfl ?_
    refine zW.step (st1 := (12, [(some (.ref (z_RO + 3))), (some (.int (Int32.ofInt b))), (some (.int (Int32.ofInt x2)))], [.int (Int32.ofInt x2), .ref (z_RO + 3)], zk c m)) (st2 := (12, [(some (.ref (z_RO + 3))), (some (.int (Int32.ofInt b))), (some (.int (Int32.ofInt x2)))], [.int (Int32.ofInt x2), .ref (z_RO + 3)], zk c m)) ⟨[zo, zo], _, rfl, ⟨trivial, trivial, trivial⟩⟩ rfl ?_
    obtain ⟨r3, hs3, q_3⟩ := S_K0_charAt_3 zn (d + 0) hN hC x2 m hIm (by omega) (by omega)
    refine zW.step (st1 := (15, [(some (.ref (z_RO + 3))), (some (.int (Int32.ofInt b))), (some (.int (Int32.ofInt x2)))], [.int (Int32.ofInt r3)], zk c m)) ⟨[zc (some (.int (Int32.ofInt r3))) (zk c m)], _, rfl, ⟨⟨(Nat.le_of_ble_eq_true rfl), hs3, (Nat.le_of_ble_eq_true rfl), Nat.le_refl _, Nat.le_refl _, Nat.le_refl _, Nat.le_refl _⟩, trivial⟩⟩ rfl ?_
    by_cases b4 : r3 = b
    · refine zW.step (st1 := (19, [(some (.ref (z_RO + 3))), (some (.int (Int32.ofInt b))), (some (.int (Int32.ofInt x2)))], [], zk c m)) (st2 := (19, [(some (.ref (z_RO + 3))), (some (.int (Int32.ofInt b))), (some (.int (Int32.ofInt x2)))], [], zk c m)) ⟨[zo, zo], _, rfl, ⟨trivial, zbf (fun q => q ((zi_eq rfl rfl (by unfold zR; omega) (by unfold zR; omega)).mpr b4)), trivial⟩⟩ rfl ?_
      refine zW.step (st1 := (20, [(some (.ref (z_RO + 3))), (some (.int (Int32.ofInt b))), (some (.int (Int32.ofInt x2)))], [.int (Int32.ofInt 1)], zk c m)) (st2 := (20, [(some (.ref (z_RO + 3))), (some (.int (Int32.ofInt b))), (some (.int (Int32.ofInt x2)))], [.int (Int32.ofInt 1)], zk c m)) ⟨[zo], _, rfl, ⟨trivial, trivial⟩⟩ rfl ?_
      exact zW.fin (zfin_i rfl rfl rfl) (KR _ _ ⟨1, rfl, rfl, (by omega), (by omega)⟩)
    · refine zW.step (st1 := (21, [(some (.ref (z_RO + 3))), (some (.int (Int32.ofInt b))), (some (.int (Int32.ofInt x2)))], [], zk c m)) (st2 := (21, [(some (.ref (z_RO + 3))), (some (.int (Int32.ofInt b))), (some (.int (Int32.ofInt x2)))], [], zk c m)) ⟨[zo, zt], _, rfl, ⟨trivial, zbt (fun q => b4 ((zi_eq rfl rfl (by unfold zR; omega) (by unfold zR; omega)).mp q)), trivial⟩⟩ rfl ?_
      refine zW.step (st1 := (2, [(some (.ref (z_RO + 3))), (some (.int (Int32.ofInt b))), (some (.int ((Int32.ofInt x2) + Int32.ofInt 1)))], [], zk c m)) (st2 := (2, [(some (.ref (z_RO + 3))), (some (.int (Int32.ofInt b))), (some (.int (Int32.ofInt (x2 + 1))))], [], zk c m)) ⟨[zo, zo], _, rfl, ⟨trivial, trivial, trivial⟩⟩ (z_steq (z_c1 rfl (z_c1 rfl (z_c1 (z_si (zi_add rfl rfl)) rfl))) rfl rfl) ?_
      exact ih _ (by omega) (x2 + 1) (by omega) rfl

set_option maxRecDepth 100000 in
set_option maxHeartbeats 4000000 in
theorem S_X12_isAmong_3 (zn : Bool) (d : Nat) {c : Nat × Nat} {mC : zM} {t9 : Int} {e9 : Nat} (hN : 107 ≤ c.1) (hC : c.1 < z_RO) (b : Int) (m : zM) (hIm : zJ mC t9 e9 m) (r_b : -2147483648 ≤ b ∧ b ≤ 2147483647) : zPi zn (d + 5) 231 [.ref (z_RO + 3), .int (Int32.ofInt b)] c m (fun (r : Int) => (0 ≤ r ∧ r ≤ 1) ∧ (r = 1 → 0 ≤ b ∧ b ≤ 122)) := by
  refine zPi.of zu_X12_isAmong hC (Nat.le_of_ble_eq_true rfl) ?_
  show zW zn (d + 4) 231 c (0, [(some (.ref (z_RO + 3))), (some (.int (Int32.ofInt b))), none], [], zk c m) (fun v h1 => ∃ (r : Int), v = some (.int (Int32.ofInt r)) ∧ h1 = zk c m ∧ (0 ≤ r ∧ r ≤ 1) ∧ (r = 1 → 0 ≤ b ∧ b ≤ 122))
  refine zW.step (st1 := (2, [(some (.ref (z_RO + 3))), (some (.int (Int32.ofInt b))), (some (.int (Int32.ofInt 0)))], [], zk c m)) (st2 := (2, [(some (.ref (z_RO + 3))), (some (.int (Int32.ofInt b))), (some (.int (Int32.ofInt 0)))], [], zk c m)) ⟨[zo, zo], _, rfl, ⟨trivial, trivial, trivial⟩⟩ rfl ?_
  refine L_X12_isAmong_3_2 zn _ hN hC b r_b m hIm _ (fun v9 h9 hq9 => hq9) (fun x2_5 i1_5 => ?_) _ 0 (by omega) rfl
  refine zW.step (st1 := (28, [(some (.ref (z_RO + 3))), (some (.int (Int32.ofInt b))), (some (.int (Int32.ofInt x2_5)))], [.int (Int32.ofInt 0)], zk c m)) (st2 := (28, [(some (.ref (z_RO + 3))), (some (.int (Int32.ofInt b))), (some (.int (Int32.ofInt x2_5)))], [.int (Int32.ofInt 0)], zk c m)) ⟨[zo], _, rfl, ⟨trivial, trivial⟩⟩ rfl ?_
  exact zW.fin (zfin_i rfl rfl rfl) ⟨0, rfl, rfl, (by omega), (by omega)⟩

set_option maxRecDepth 100000 in
set_option maxHeartbeats 4000000 in
theorem S_K0_coder_5 (zn : Bool) (d : Nat) {c : Nat × Nat} {mC : zM} {t9 : Int} {e9 : Nat} (hN : 107 ≤ c.1) (hC : c.1 < z_RO) (m : zM) (hIm : zJ mC t9 e9 m) : zPi zn (d + 1) 5 [.ref (z_RO + 5)] c m (fun (r : Int) => (r = 0)) := by
  refine zPi.of zu_J0_coder_7d493 hC (Nat.le_of_ble_eq_true rfl) ?_
  show zW zn (d + 0) 5 c (0, [(some (.ref (z_RO + 5)))], [], zk c m) (fun v h1 => ∃ (r : Int), v = some (.int (Int32.ofInt r)) ∧ h1 = zk c m ∧ (r = 0))
  have b1 : ¬ ((1 : Int) = 0) := by omega
  refine zW.step (st1 := (6, [(some (.ref (z_RO + 5)))], [], zk c m)) (st2 := (6, [(some (.ref (z_RO + 5)))], [], zk c m)) ⟨[zo, zo], _, rfl, ⟨trivial, zbf (fun q => b1 ((zi_eq (by decide : (1 : Int32) = Int32.ofInt 1) (rfl : (0 : Int32) = Int32.ofInt 0) (⟨by decide, by decide⟩ : zR 1) (⟨by decide, by decide⟩ : zR 0)).mp q)), trivial⟩⟩ rfl ?_
  refine zW.step (st1 := (14, [(some (.ref (z_RO + 5)))], [.int (0 : Int32)], zk c m)) (st2 := (14, [(some (.ref (z_RO + 5)))], [.int (Int32.ofInt 0)], zk c m)) ⟨[zo, zo, zo], _, rfl, ⟨trivial, trivial, trivial, trivial⟩⟩ (z_steq rfl (z_c1 (z_vi (by decide : (0 : Int32) = Int32.ofInt 0)) rfl) rfl) ?_
  exact zW.fin (zfin_i rfl rfl rfl) ⟨0, rfl, rfl, (by omega)⟩

set_option maxRecDepth 100000 in
set_option maxHeartbeats 4000000 in
theorem S_K0_isLatin1_5 (zn : Bool) (d : Nat) {c : Nat × Nat} {mC : zM} {t9 : Int} {e9 : Nat} (hN : 107 ≤ c.1) (hC : c.1 < z_RO) (m : zM) (hIm : zJ mC t9 e9 m) : zPi zn (d + 1) 8 [.ref (z_RO + 5)] c m (fun (r : Int) => (r = 1)) := by
  refine zPi.of zu_J0_isLatin1_aae02 hC (Nat.le_of_ble_eq_true rfl) ?_
  show zW zn (d + 0) 8 c (0, [(some (.ref (z_RO + 5)))], [], zk c m) (fun v h1 => ∃ (r : Int), v = some (.int (Int32.ofInt r)) ∧ h1 = zk c m ∧ (r = 1))
  have b1 : ¬ ((1 : Int) = 0) := by omega
  refine zW.step (st1 := (6, [(some (.ref (z_RO + 5)))], [], zk c m)) (st2 := (6, [(some (.ref (z_RO + 5)))], [], zk c m)) ⟨[zo, zo], _, rfl, ⟨trivial, zbf (fun q => b1 ((zi_eq (by decide : (1 : Int32) = Int32.ofInt 1) (rfl : (0 : Int32) = Int32.ofInt 0) (⟨by decide, by decide⟩ : zR 1) (⟨by decide, by decide⟩ : zR 0)).mp q)), trivial⟩⟩ rfl ?_
  have b2 : (0 : Int) = 0 := by omega
  refine zW.step (st1 := (13, [(some (.ref (z_RO + 5)))], [], zk c m)) (st2 := (13, [(some (.ref (z_RO + 5)))], [], zk c m)) ⟨[zo, zo, zo], _, rfl, ⟨trivial, trivial, zbf (fun q => q ((zi_eq (by decide : (0 : Int32) = Int32.ofInt 0) (rfl : (0 : Int32) = Int32.ofInt 0) (⟨by decide, by decide⟩ : zR 0) (⟨by decide, by decide⟩ : zR 0)).mpr b2)), trivial⟩⟩ rfl ?_
  refine zW.step (st1 := (18, [(some (.ref (z_RO + 5)))], [.int (Int32.ofInt 1)], zk c m)) (st2 := (18, [(some (.ref (z_RO + 5)))], [.int (Int32.ofInt 1)], zk c m)) ⟨[zo, zo], _, rfl, ⟨trivial, trivial, trivial⟩⟩ rfl ?_
  exact zW.fin (zfin_i rfl rfl rfl) ⟨1, rfl, rfl, (by omega)⟩

set_option maxRecDepth 100000 in
set_option maxHeartbeats 4000000 in
theorem S_K0_length_5 (zn : Bool) (d : Nat) {c : Nat × Nat} {mC : zM} {t9 : Int} {e9 : Nat} (hN : 107 ≤ c.1) (hC : c.1 < z_RO) (m : zM) (hIm : zJ mC t9 e9 m) : zPi zn (d + 2) 9 [.ref (z_RO + 5)] c m (fun (r : Int) => (r = 1)) := by
  refine zPi.of zu_J0_length_8abf5 hC (Nat.le_of_ble_eq_true rfl) ?_
  show zW zn (d + 1) 9 c (0, [(some (.ref (z_RO + 5)))], [], zk c m) (fun v h1 => ∃ (r : Int), v = some (.int (Int32.ofInt r)) ∧ h1 = zk c m ∧ (r = 1))
  refine zW.step (st1 := (6, [(some (.ref (z_RO + 5)))], [.ref (z_RO + 5), .int (Int32.ofNat 1)], zk c m)) (st2 := (6, [(some (.ref (z_RO + 5)))], [.ref (z_RO + 5), .int (Int32.ofInt 1)], zk c m)) ⟨[zo, zo, zo, zo], _, rfl, ⟨trivial, trivial, trivial, trivial, trivial⟩⟩ (z_steq rfl (z_c1 rfl (z_c1 (z_vi (by decide : Int32.ofNat 1 = Int32.ofInt 1)) rfl)) rfl) ?_
  obtain ⟨r1, hs1, q_1⟩ := S_K0_coder_5 zn (d + 0) hN hC m hIm
  subst q_1
  refine zW.step (st1 := (9, [(some (.ref (z_RO + 5)))], [.int (Int32.ofInt 0), .int (Int32.ofInt 1)], zk c m)) ⟨[zc (some (.int (Int32.ofInt 0))) (zk c m)], _, rfl, ⟨⟨(Nat.le_of_ble_eq_true rfl), hs1, (Nat.le_of_ble_eq_true rfl), Nat.le_refl _, Nat.le_refl _, Nat.le_refl _, Nat.le_refl _⟩, trivial⟩⟩ rfl ?_
  have f2 : (-2147483648 : Int) ≤ zb_shr 1 0 ∧ zb_shr 1 0 ≤ 2147483647 := zb_shrR 1 0
  refine zW.step (st1 := (10, [(some (.ref (z_RO + 5)))], [.int ((Int32.ofInt 1) >>> ((Int32.ofInt 0) &&& 31))], zk c m)) (st2 := (10, [(some (.ref (z_RO + 5)))], [.int (Int32.ofInt 1)], zk c m)) ⟨[zo], _, rfl, ⟨trivial, trivial⟩⟩ (z_steq rfl (z_c1 (z_vi (by decide +kernel : (Int32.ofInt 1) >>> ((Int32.ofInt 0) &&& 31) = Int32.ofInt 1)) rfl) rfl) ?_
  exact zW.fin (zfin_i rfl rfl rfl) ⟨1, rfl, rfl, (by omega)⟩

set_option maxRecDepth 100000 in
set_option maxHeartbeats 4000000 in
theorem S_K1_charAt_105 (zn : Bool) (d : Nat) {c : Nat × Nat} {mC : zM} {t9 : Int} {e9 : Nat} (hN : 107 ≤ c.1) (hC : c.1 < z_RO) (a : Int) (m : zM) (hIm : zJ mC t9 e9 m) (r_a : -2147483648 ≤ a ∧ a ≤ 2147483647) (ha : 0 ≤ a ∧ a < 1) : zPi zn (d + 3) 11 [.ref (z_RO + 105), .int (Int32.ofInt a)] c m (fun (r : Int) => (0 ≤ r ∧ r ≤ 122)) := by
  refine zPi.of zu_J1_charAt_3b067 hC (Nat.le_of_ble_eq_true rfl) ?_
  show zW zn (d + 2) 11 c (0, [(some (.ref (z_RO + 105))), (some (.int (Int32.ofInt a)))], [], zk c m) (fun v h1 => ∃ (r : Int), v = some (.int (Int32.ofInt r)) ∧ h1 = zk c m ∧ (0 ≤ r ∧ r ≤ 122))
  refine zW.step (st1 := (3, [(some (.ref (z_RO + 105))), (some (.int (Int32.ofInt a)))], [.int (Int32.ofNat 1), .int (Int32.ofInt a)], zk c m)) (st2 := (3, [(some (.ref (z_RO + 105))), (some (.int (Int32.ofInt a)))], [.int (Int32.ofInt 1), .int (Int32.ofInt a)], zk c m)) ⟨[zo, zo, zo], _, rfl, ⟨trivial, trivial, trivial, trivial⟩⟩ (z_steq rfl (z_c1 (z_vi (by decide : Int32.ofNat 1 = Int32.ofInt 1)) rfl) rfl) ?_
  obtain ⟨hs1, _⟩ := S_K0_checkIndex zn (d + 0) hN hC a 1 m hIm (by omega) (by omega) (by omega)
  refine zW.step (st1 := (6, [(some (.ref (z_RO + 105))), (some (.int (Int32.ofInt a)))], [], zk c m)) ⟨[zc (none) (zk c m)], _, rfl, ⟨⟨(Nat.le_of_ble_eq_true rfl), hs1, (Nat.le_of_ble_eq_true rfl), Nat.le_refl _, Nat.le_refl _, Nat.le_refl _, Nat.le_refl _⟩, trivial⟩⟩ rfl ?_
  have f2 := zbt9_b 5 a.toNat
  have f3 := zbt9_c 5 a.toNat (by decide) (by omega)
  have f4 : (-2147483648 : Int) ≤ zb_and (zbt9 5 a.toNat) 255 ∧ zb_and (zbt9 5 a.toNat) 255 ≤ 2147483647 := zb_andR (zbt9 5 a.toNat) 255
  have f5 := zb_and255 (zbt9 5 a.toNat)
  have f6 := zb_and_le (a := zbt9 5 a.toNat) (b := 255) (by decide) (by decide)
  refine zW.step (st1 := (14, [(some (.ref (z_RO + 105))), (some (.int (Int32.ofInt a)))], [.int (((((z_byt.getD 5 []).getD (Int32.ofInt a).toNatClampNeg 0) &&& ((Int16.ofInt 255).toInt32)).toUInt32 % 65536).toInt32)], zk c m)) (st2 := (14, [(some (.ref (z_RO + 105))), (some (.int (Int32.ofInt a)))], [.int (Int32.ofInt ((zb_and (zbt9 5 a.toNat) 255) % 65536))], zk c m)) ⟨[zo, zo, zo, zo, zo, zo], _, rfl, ⟨trivial, trivial, (zi_in rfl (by omega) (by omega) (by decide) : vp_in (Int32.ofInt a) 1), trivial, trivial, trivial, trivial⟩⟩ (z_steq rfl (z_c1 (z_vi (zi_i2c (zi_and (zbt9_rd 5 rfl (by unfold zR; omega)) (by decide : (Int16.ofInt 255).toInt32 = Int32.ofInt 255)))) rfl) rfl) ?_
  exact zW.fin (zfin_i rfl rfl (z_narC rfl (by omega))) ⟨(zb_and (zbt9 5 a.toNat) 255) % 65536, rfl, rfl, (by omega)⟩

set_option maxRecDepth 100000 in
set_option maxHeartbeats 4000000 in
theorem S_K0_charAt_5 (zn : Bool) (d : Nat) {c : Nat × Nat} {mC : zM} {t9 : Int} {e9 : Nat} (hN : 107 ≤ c.1) (hC : c.1 < z_RO) (a : Int) (m : zM) (hIm : zJ mC t9 e9 m) (r_a : -2147483648 ≤ a ∧ a ≤ 2147483647) (ha : 0 ≤ a ∧ a < 1) : zPi zn (d + 4) 2 [.ref (z_RO + 5), .int (Int32.ofInt a)] c m (fun (r : Int) => (0 ≤ r ∧ r ≤ 122)) := by
  refine zPi.of zu_J0_charAt_5068e hC (Nat.le_of_ble_eq_true rfl) ?_
  show zW zn (d + 3) 2 c (0, [(some (.ref (z_RO + 5))), (some (.int (Int32.ofInt a)))], [], zk c m) (fun v h1 => ∃ (r : Int), v = some (.int (Int32.ofInt r)) ∧ h1 = zk c m ∧ (0 ≤ r ∧ r ≤ 122))
  refine zW.step (st1 := (1, [(some (.ref (z_RO + 5))), (some (.int (Int32.ofInt a)))], [.ref (z_RO + 5)], zk c m)) (st2 := (1, [(some (.ref (z_RO + 5))), (some (.int (Int32.ofInt a)))], [.ref (z_RO + 5)], zk c m)) ⟨[zo], _, rfl, ⟨trivial, trivial⟩⟩ rfl ?_
  obtain ⟨r1, hs1, q_1⟩ := S_K0_isLatin1_5 zn (d + 2) hN hC m hIm
  subst q_1
  refine zW.step (st1 := (4, [(some (.ref (z_RO + 5))), (some (.int (Int32.ofInt a)))], [.int (Int32.ofInt 1)], zk c m)) ⟨[zc (some (.int (Int32.ofInt 1))) (zk c m)], _, rfl, ⟨⟨(Nat.le_of_ble_eq_true rfl), hs1, (Nat.le_of_ble_eq_true rfl), Nat.le_refl _, Nat.le_refl _, Nat.le_refl _, Nat.le_refl _⟩, trivial⟩⟩ rfl ?_
  have b2 : ¬ ((1 : Int) = 0) := by omega
  refine zW.step (st1 := (7, [(some (.ref (z_RO + 5))), (some (.int (Int32.ofInt a)))], [], zk c m)) (st2 := (7, [(some (.ref (z_RO + 5))), (some (.int (Int32.ofInt a)))], [], zk c m)) ⟨[zo], _, rfl, ⟨zbf (fun q => b2 ((zi_eq (by decide : Int32.ofInt 1 = Int32.ofInt 1) (rfl : (0 : Int32) = Int32.ofInt 0) (⟨by decide, by decide⟩ : zR 1) (⟨by decide, by decide⟩ : zR 0)).mp q)), trivial⟩⟩ rfl ?_
  refine zW.step (st1 := (12, [(some (.ref (z_RO + 5))), (some (.int (Int32.ofInt a)))], [.int (Int32.ofInt a), .ref (z_RO + 105)], zk c m)) (st2 := (12, [(some (.ref (z_RO + 5))), (some (.int (Int32.ofInt a)))], [.int (Int32.ofInt a), .ref (z_RO + 105)], zk c m)) ⟨[zo, zo, zo], _, rfl, ⟨trivial, trivial, trivial, trivial⟩⟩ rfl ?_
  obtain ⟨r3, hs3, q_3⟩ := S_K1_charAt_105 zn (d + 0) hN hC a m hIm (by omega) (by omega)
  refine zW.step (st1 := (15, [(some (.ref (z_RO + 5))), (some (.int (Int32.ofInt a)))], [.int (Int32.ofInt r3)], zk c m)) ⟨[zc (some (.int (Int32.ofInt r3))) (zk c m)], _, rfl, ⟨⟨(Nat.le_of_ble_eq_true rfl), hs3, (Nat.le_of_ble_eq_true rfl), Nat.le_refl _, Nat.le_refl _, Nat.le_refl _, Nat.le_refl _⟩, trivial⟩⟩ rfl ?_
  exact zW.fin (zfin_i rfl rfl (z_narC rfl (by omega))) ⟨r3, rfl, rfl, (by omega)⟩

set_option maxRecDepth 100000 in
set_option maxHeartbeats 4000000 in
theorem L_X12_isAmong_5_2 (zn : Bool) (d : Nat) {c : Nat × Nat} {mC : zM} {t9 : Int} {e9 : Nat} (hN : 107 ≤ c.1) (hC : c.1 < z_RO) (b : Int) (r_b : -2147483648 ≤ b ∧ b ≤ 2147483647) (m : zM) (hIm : zJ mC t9 e9 m) (Q : Option Value → z_H → Prop) (KR : ∀ v h1, (fun v h1 => ∃ (r : Int), v = some (.int (Int32.ofInt r)) ∧ h1 = zk c m ∧ (0 ≤ r ∧ r ≤ 1) ∧ (r = 1 → 0 ≤ b ∧ b ≤ 122)) v h1 → Q v h1) (K : ∀ (x2 : Int), 0 ≤ x2 ∧ x2 ≤ 1 → zW zn (d + 4) 231 c (27, [(some (.ref (z_RO + 5))), (some (.int (Int32.ofInt b))), (some (.int (Int32.ofInt x2)))], [], zk c m) Q) :
    ∀ (w : Nat) (x2 : Int), 0 ≤ x2 ∧ x2 ≤ 1 → w = (1 - x2).toNat → zW zn (d + 4) 231 c (2, [(some (.ref (z_RO + 5))), (some (.int (Int32.ofInt b))), (some (.int (Int32.ofInt x2)))], [], zk c m) Q := by
  intro w
  induction w using Nat.strongRecOn with | _ w ih => ?_
  intro x2 i1 hw
  refine zW.step (st1 := (4, [(some (.ref (z_RO + 5))), (some (.int (Int32.ofInt b))), (some (.int (Int32.ofInt x2)))], [.ref (z_RO + 5), .int (Int32.ofInt x2)], zk c m)) (st2 := (4, [(some (.ref (z_RO + 5))), (some (.int (Int32.ofInt b))), (some (.int (Int32.ofInt x2)))], [.ref (z_RO + 5), .int (Int32.ofInt x2)], zk c m)) ⟨[zo, zo], _, rfl, ⟨trivial, trivial, trivial⟩⟩ rfl ?_
  obtain ⟨r1, hs1, q_1⟩ := S_K0_length_5 zn (d + 2) hN hC m hIm
  subst q_1
  refine zW.step (st1 := (7, [(some (.ref (z_RO + 5))), (some (.int (Int32.ofInt b))), (some (.int (Int32.ofInt x2)))], [.int (Int32.ofInt 1), .int (Int32.ofInt x2)], zk c m)) ⟨[zc (some (.int (Int32.ofInt 1))) (zk c m)], _, rfl, ⟨⟨(Nat.le_of_ble_eq_true rfl), hs1, (Nat.le_of_ble_eq_true rfl), Nat.le_refl _, Nat.le_refl _, Nat.le_refl _, Nat.le_refl _⟩, trivial⟩⟩ rfl ?_
  by_cases b2 : 1 ≤ x2
  · refine zW.step (st1 := (27, [(some (.ref (z_RO + 5))), (some (.int (Int32.ofInt b))), (some (.int (Int32.ofInt x2)))], [], zk c m)) (st2 := (27, [(some (.ref (z_RO + 5))), (some (.int (Int32.ofInt b))), (some (.int (Int32.ofInt x2)))], [], zk c m)) ⟨[zt], _, rfl, ⟨zbt ((zi_le (by decide : Int32.ofInt 1 = Int32.ofInt 1) rfl (⟨by decide, by decide⟩ : zR 1) (by unfold zR; omega)).mpr b2), trivial⟩⟩ rfl ?_
    exact K x2 (by omega)
  · refine zW.step (st1 := (10, [(some (.ref (z_RO + 5))), (some (.int (Int32.ofInt b))), (some (.int (Int32.ofInt x2)))], [], zk c m)) (st2 := (10, [(some (.ref (z_RO + 5))), (some (.int (Int32.ofInt b))), (some (.int (Int32.ofInt x2)))], [], zk c m)) ⟨[zo], _, rfl, ⟨zbf (fun q => b2 ((zi_le (by decide : Int32.ofInt 1 = Int32.ofInt 1) rfl (⟨by decide, by decide⟩ : zR 1) (by unfold zR; omega)).mp q)), trivial⟩⟩ rfl ?_
    refine zW.step (st1 := (12, [(some (.ref (z_RO + 5))), (some (.int (Int32.ofInt b))), (some (.int (Int32.ofInt x2)))], [.int (Int32.ofInt x2), .ref (z_RO + 5)], zk c m)) (st2 := (12, [(some (.ref (z_RO + 5))), (some (.int (Int32.ofInt b))), (some (.int (Int32.ofInt x2)))], [.int (Int32.ofInt x2), .ref (z_RO + 5)], zk c m)) ⟨[zo, zo], _, rfl, ⟨trivial, trivial, trivial⟩⟩ rfl ?_
    obtain ⟨r3, hs3, q_3⟩ := S_K0_charAt_5 zn (d + 0) hN hC x2 m hIm (by omega) (by omega)
    refine zW.step (st1 := (15, [(some (.ref (z_RO + 5))), (some (.int (Int32.ofInt b))), (some (.int (Int32.ofInt x2)))], [.int (Int32.ofInt r3)], zk c m)) ⟨[zc (some (.int (Int32.ofInt r3))) (zk c m)], _, rfl, ⟨⟨(Nat.le_of_ble_eq_true rfl), hs3, (Nat.le_of_ble_eq_true rfl), Nat.le_refl _, Nat.le_refl _, Nat.le_refl _, Nat.le_refl _⟩, trivial⟩⟩ rfl ?_
    by_cases b4 : r3 = b
    · refine zW.step (st1 := (19, [(some (.ref (z_RO + 5))), (some (.int (Int32.ofInt b))), (some (.int (Int32.ofInt x2)))], [], zk c m)) (st2 := (19, [(some (.ref (z_RO + 5))), (some (.int (Int32.ofInt b))), (some (.int (Int32.ofInt x2)))], [], zk c m)) ⟨[zo, zo], _, rfl, ⟨trivial, zbf (fun q => q ((zi_eq rfl rfl (by unfold zR; omega) (by unfold zR; omega)).mpr b4)), trivial⟩⟩ rfl ?_
      refine zW.step (st1 := (20, [(some (.ref (z_RO + 5))), (some (.int (Int32.ofInt b))), (some (.int (Int32.ofInt x2)))], [.int (Int32.ofInt 1)], zk c m)) (st2 := (20, [(some (.ref (z_RO + 5))), (some (.int (Int32.ofInt b))), (some (.int (Int32.ofInt x2)))], [.int (Int32.ofInt 1)], zk c m)) ⟨[zo], _, rfl, ⟨trivial, trivial⟩⟩ rfl ?_
      exact zW.fin (zfin_i rfl rfl rfl) (KR _ _ ⟨1, rfl, rfl, (by omega), (by omega)⟩)
    · refine zW.step (st1 := (21, [(some (.ref (z_RO + 5))), (some (.int (Int32.ofInt b))), (some (.int (Int32.ofInt x2)))], [], zk c m)) (st2 := (21, [(some (.ref (z_RO + 5))), (some (.int (Int32.ofInt b))), (some (.int (Int32.ofInt x2)))], [], zk c m)) ⟨[zo, zt], _, rfl, ⟨trivial, zbt (fun q => b4 ((zi_eq rfl rfl (by unfold zR; omega) (by unfold zR; omega)).mp q)), trivial⟩⟩ rfl ?_
      refine zW.step (st1 := (2, [(some (.ref (z_RO + 5))), (some (.int (Int32.ofInt b))), (some (.int ((Int32.ofInt x2) + Int32.ofInt 1)))], [], zk c m)) (st2 := (2, [(some (.ref (z_RO + 5))), (some (.int (Int32.ofInt b))), (some (.int (Int32.ofInt (x2 + 1))))], [], zk c m)) ⟨[zo, zo], _, rfl, ⟨trivial, trivial, trivial⟩⟩ (z_steq (z_c1 rfl (z_c1 rfl (z_c1 (z_si (zi_add rfl rfl)) rfl))) rfl rfl) ?_
      exact ih _ (by omega) (x2 + 1) (by omega) rfl

set_option maxRecDepth 100000 in
set_option maxHeartbeats 4000000 in
theorem S_X12_isAmong_5 (zn : Bool) (d : Nat) {c : Nat × Nat} {mC : zM} {t9 : Int} {e9 : Nat} (hN : 107 ≤ c.1) (hC : c.1 < z_RO) (b : Int) (m : zM) (hIm : zJ mC t9 e9 m) (r_b : -2147483648 ≤ b ∧ b ≤ 2147483647) : zPi zn (d + 5) 231 [.ref (z_RO + 5), .int (Int32.ofInt b)] c m (fun (r : Int) => (0 ≤ r ∧ r ≤ 1) ∧ (r = 1 → 0 ≤ b ∧ b ≤ 122)) := by
  refine zPi.of zu_X12_isAmong hC (Nat.le_of_ble_eq_true rfl) ?_
  show zW zn (d + 4) 231 c (0, [(some (.ref (z_RO + 5))), (some (.int (Int32.ofInt b))), none], [], zk c m) (fun v h1 => ∃ (r : Int), v = some (.int (Int32.ofInt r)) ∧ h1 = zk c m ∧ (0 ≤ r ∧ r ≤ 1) ∧ (r = 1 → 0 ≤ b ∧ b ≤ 122))
  refine zW.step (st1 := (2, [(some (.ref (z_RO + 5))), (some (.int (Int32.ofInt b))), (some (.int (Int32.ofInt 0)))], [], zk c m)) (st2 := (2, [(some (.ref (z_RO + 5))), (some (.int (Int32.ofInt b))), (some (.int (Int32.ofInt 0)))], [], zk c m)) ⟨[zo, zo], _, rfl, ⟨trivial, trivial, trivial⟩⟩ rfl ?_
  refine L_X12_isAmong_5_2 zn _ hN hC b r_b m hIm _ (fun v9 h9 hq9 => hq9) (fun x2_5 i1_5 => ?_) _ 0 (by omega) rfl
  refine zW.step (st1 := (28, [(some (.ref (z_RO + 5))), (some (.int (Int32.ofInt b))), (some (.int (Int32.ofInt x2_5)))], [.int (Int32.ofInt 0)], zk c m)) (st2 := (28, [(some (.ref (z_RO + 5))), (some (.int (Int32.ofInt b))), (some (.int (Int32.ofInt x2_5)))], [.int (Int32.ofInt 0)], zk c m)) ⟨[zo], _, rfl, ⟨trivial, trivial⟩⟩ rfl ?_
  exact zW.fin (zfin_i rfl rfl rfl) ⟨0, rfl, rfl, (by omega), (by omega)⟩

