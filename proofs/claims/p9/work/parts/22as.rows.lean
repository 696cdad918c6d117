/-! what methods do over memory, by program (wip/tools/gw): X10_sum_G, X10_term_G, X10_atom_G, X10_atom_L6, X10_term_L6, X10_sum_L6, X10_atom_L5, X10_term_L5, X10_sum_L5, X10_atom_L4, X10_term_L4, X10_sum_L4, X10_atom_L3, X10_term_L3, X10_sum_L3, X10_atom_L2, X10_term_L2, X10_sum_L2, X10_atom_L1, X10_term_L1, X10_sum_L1, X10_atom_L0, X10_term_L0, X10_sum_L0, X10_deeperUnit_G, X10_unit_L6, X10_truths_L6, X10_condition_L6, X10_deeperUnit_L6, X10_unit_L5, X10_truths_L5, X10_condition_L5 -/
set_option maxRecDepth 100000 in
set_option maxHeartbeats 4000000 in
theorem L_X10_sum_G_12 (zn : Bool) (d : Nat) {c : Nat × Nat} {mM : zM} (hN : 107 ≤ c.1) (hC : c.1 < z_RO) (Lv : Int) (h_term : ∀ (m : zM) (hIm : zI c mM m), zCi zn (d + 6) 123 [.ref 10, .int (Int32.ofInt Lv)] c m (fun (r : Int) (m1 : zM) => zI c mM m1 ∧ (0 ≤ r ∧ r ≤ 1) ∧ (m1 10 2 - m1 1 2 ≤ m 10 2 - m 1 2) ∧ zN m m1)) (hLv : 0 ≤ Lv ∧ Lv ≤ 6) (m0 : zM) (Q : Option Value → z_H → Prop) (KR : ∀ v h1, (fun v h1 => ∃ (r : Int) (m1 : zM), v = some (.int (Int32.ofInt r)) ∧ h1 = zk c m1 ∧ zI c mM m1 ∧ (0 ≤ r ∧ r ≤ 1) ∧ (m1 10 2 - m1 1 2 ≤ m0 10 2 - m0 1 2) ∧ zN m0 m1) v h1 → Q v h1) (K : ∀ (x2 : Int) (o3 : Option Value) (m : zM), zI c mM m → 0 ≤ x2 ∧ x2 ≤ 240 → m 10 2 - m 1 2 ≤ m0 10 2 - m0 1 2 → 0 ≤ Lv ∧ Lv ≤ 6 → zN m0 m → zW zn (d + 6) 122 c (88, [(some (.ref 10)), (some (.int (Int32.ofInt Lv))), (some (.int (Int32.ofInt x2))), o3], [], zk c m) Q) :
    ∀ (w : Nat) (x2 : Int) (o3 : Option Value) (m : zM), zI c mM m → 0 ≤ x2 ∧ x2 ≤ 240 → m 10 2 - m 1 2 ≤ m0 10 2 - m0 1 2 → 0 ≤ Lv ∧ Lv ≤ 6 → zN m0 m → w = (240 - x2).toNat → zW zn (d + 6) 122 c (12, [(some (.ref 10)), (some (.int (Int32.ofInt Lv))), (some (.int (Int32.ofInt x2))), o3], [], zk c m) Q := by
  intro w
  induction w using Nat.strongRecOn with | _ w ih => ?_
  intro x2 o3 m hIm i1 pt hLw tN hw
  have f1 : (0 : Int) ≤ m 1 1 ∧ m 1 1 ≤ 240 := hIm.1 1 1
  have f2 : (0 : Int) ≤ m 1 2 ∧ m 1 2 ≤ 240 := hIm.1 1 2
  have f3 : (0 : Int) ≤ m 10 2 ∧ m 10 2 ≤ 240 := hIm.1 10 2
  by_cases b4 : 240 ≤ x2
  · refine zW.step (st1 := (88, [(some (.ref 10)), (some (.int (Int32.ofInt Lv))), (some (.int (Int32.ofInt x2))), o3], [], zk c m)) (st2 := (88, [(some (.ref 10)), (some (.int (Int32.ofInt Lv))), (some (.int (Int32.ofInt x2))), o3], [], zk c m)) ⟨[zo, zo, zt], _, rfl, ⟨trivial, trivial, zbt ((zi_le (by decide : (Int16.ofInt 240).toInt32 = Int32.ofInt 240) rfl (⟨by decide, by decide⟩ : zR 240) (by unfold zR; omega)).mpr b4), trivial⟩⟩ rfl ?_
    exact K x2 o3 m hIm (by omega) (by omega) (by omega) tN
  · refine zW.step (st1 := (19, [(some (.ref 10)), (some (.int (Int32.ofInt Lv))), (some (.int (Int32.ofInt x2))), o3], [], zk c m)) (st2 := (19, [(some (.ref 10)), (some (.int (Int32.ofInt Lv))), (some (.int (Int32.ofInt x2))), o3], [], zk c m)) ⟨[zo, zo, zo], _, rfl, ⟨trivial, trivial, zbf (fun q => b4 ((zi_le (by decide : (Int16.ofInt 240).toInt32 = Int32.ofInt 240) rfl (⟨by decide, by decide⟩ : zR 240) (by unfold zR; omega)).mp q)), trivial⟩⟩ rfl ?_
    refine zW.step (st1 := (23, [(some (.ref 10)), (some (.int (Int32.ofInt Lv))), (some (.int (Int32.ofInt x2))), o3], [.ref 1], zk c m)) (st2 := (23, [(some (.ref 10)), (some (.int (Int32.ofInt Lv))), (some (.int (Int32.ofInt x2))), o3], [.ref 1], zk c m)) ⟨[zo, zo], _, rfl, ⟨trivial, (Nat.lt_of_lt_of_le (Nat.le_of_ble_eq_true rfl) hN), trivial⟩⟩ rfl ?_
    obtain ⟨r5, m5, hs5, hIm5, z_5, q_5, l_5, a9_5, r9_5, p9_5, n9_5, c3_5, e2_5, v9_5, kN_5⟩ := S_X8_next zn (d + 4) hN hC m hIm
    refine zW.step (st1 := (26, [(some (.ref 10)), (some (.int (Int32.ofInt Lv))), (some (.int (Int32.ofInt x2))), o3], [.int (Int32.ofInt r5)], zk c m5)) ⟨[zc (some (.int (Int32.ofInt r5))) (zk c m5)], _, rfl, ⟨⟨⟨(Nat.lt_of_lt_of_le (Nat.le_of_ble_eq_true rfl) hN), (Nat.le_of_ble_eq_true rfl)⟩, hs5, (Nat.le_of_ble_eq_true rfl), Nat.le_refl _, Nat.le_refl _, Nat.le_refl _, Nat.le_refl _⟩, trivial⟩⟩ rfl ?_
    have f6 : (0 : Int) ≤ m5 1 1 ∧ m5 1 1 ≤ 240 := hIm5.1 1 1
    have f7 : (0 : Int) ≤ m5 1 2 ∧ m5 1 2 ≤ 240 := hIm5.1 1 2
    have f8 : (0 : Int) ≤ m5 10 2 ∧ m5 10 2 ≤ 240 := hIm5.1 10 2
    have tk9 : zN m0 m5 := zN_tr tN kN_5
    by_cases b10 : r5 = 43
    · refine zW.step (st1 := (41, [(some (.ref 10)), (some (.int (Int32.ofInt Lv))), (some (.int (Int32.ofInt x2))), (some (.int (Int32.ofInt r5)))], [], zk c m5)) (st2 := (41, [(some (.ref 10)), (some (.int (Int32.ofInt Lv))), (some (.int (Int32.ofInt x2))), (some (.int (Int32.ofInt r5)))], [], zk c m5)) ⟨[zo, zo, zo, zt], _, rfl, ⟨trivial, trivial, trivial, zbt ((zi_eq rfl (by decide : (Int8.ofInt 43).toInt32 = Int32.ofInt 43) (by unfold zR; omega) (⟨by decide, by decide⟩ : zR 43)).mpr b10), trivial⟩⟩ rfl ?_
      obtain ⟨m11, hm11⟩ : ∃ q, q = zm_up m5 1 2 ((m5 1 2) + 1) := ⟨_, rfl⟩
      have hIm11 : zI c mM m11 := by rw [hm11]; exact zI_up hIm5 (by unfold zOk; decide) (show (0 : Int) ≤ ((m5 1 2) + 1) ∧ ((m5 1 2) + 1) ≤ 240 by omega)
      have em11 : m11 1 2 = ((m5 1 2) + 1) := by rw [hm11]; exact zm_eq
      have f12 : m11 1 1 = m5 1 1 := by rw [hm11]; exact zm_ne (by omega)
      have f13 : m11 10 2 = m5 10 2 := by rw [hm11]; exact zm_ne (by omega)
      have tk14 : zN m0 m11 := by rw [hm11]; exact zN_up tk9 (by unfold zRow; omega)
      clear tk9
      refine zW.step (st1 := (54, [(some (.ref 10)), (some (.int (Int32.ofInt Lv))), (some (.int (Int32.ofInt x2))), (some (.int (Int32.ofInt r5)))], [], z_hup (zk c m5) 1 (.inr (8, [.ref 2, .int (Int32.ofInt (m5 1 1)), .int ((Int32.ofInt (m5 1 2)) + (Int32.ofInt 1)), .int (Int32.ofInt (m5 1 3))])))) (st2 := (54, [(some (.ref 10)), (some (.int (Int32.ofInt Lv))), (some (.int (Int32.ofInt x2))), (some (.int (Int32.ofInt r5)))], [], zk c m11)) ⟨[zo, zo, zo, zo, zo, zo, zo], _, rfl, ⟨trivial, (Nat.lt_of_lt_of_le (Nat.le_of_ble_eq_true rfl) hN), trivial, (Nat.lt_of_lt_of_le (Nat.le_of_ble_eq_true rfl) hN), trivial, trivial, ⟨(Nat.lt_of_lt_of_le (Nat.le_of_ble_eq_true rfl) hN), rfl, rfl⟩, trivial⟩⟩ (z_steq rfl rfl ((zk_up c m5 1 2 ((m5 1 2) + 1) _ ((congrArg (fun q => (.inr (8, [.ref 2, .int (Int32.ofInt (m5 1 1)), .int q, .int (Int32.ofInt (m5 1 3))]) : z_E)) (zi_add rfl rfl)).trans rfl)).trans (by rw [hm11]))) ?_
      refine zW.step (st1 := (56, [(some (.ref 10)), (some (.int (Int32.ofInt Lv))), (some (.int (Int32.ofInt x2))), (some (.int (Int32.ofInt r5)))], [.int (Int32.ofInt Lv), .ref 10], zk c m11)) (st2 := (56, [(some (.ref 10)), (some (.int (Int32.ofInt Lv))), (some (.int (Int32.ofInt x2))), (some (.int (Int32.ofInt r5)))], [.int (Int32.ofInt Lv), .ref 10], zk c m11)) ⟨[zo, zo], _, rfl, ⟨trivial, trivial, trivial⟩⟩ rfl ?_
      obtain ⟨r15, m15, hs15, hIm15, z_15, p9_15, kN_15⟩ := h_term m11 hIm11
      refine zW.step (st1 := (59, [(some (.ref 10)), (some (.int (Int32.ofInt Lv))), (some (.int (Int32.ofInt x2))), (some (.int (Int32.ofInt r5)))], [.int (Int32.ofInt r15)], zk c m15)) ⟨[zc (some (.int (Int32.ofInt r15))) (zk c m15)], _, rfl, ⟨⟨⟨(Nat.lt_of_lt_of_le (Nat.le_of_ble_eq_true rfl) hN), (Nat.le_of_ble_eq_true rfl)⟩, hs15, (Nat.le_of_ble_eq_true rfl), Nat.le_refl _, Nat.le_refl _, Nat.le_refl _, Nat.le_refl _⟩, trivial⟩⟩ rfl ?_
      have f16 : (0 : Int) ≤ m15 1 1 ∧ m15 1 1 ≤ 240 := hIm15.1 1 1
      have f17 : (0 : Int) ≤ m15 1 2 ∧ m15 1 2 ≤ 240 := hIm15.1 1 2
      have f18 : (0 : Int) ≤ m15 10 2 ∧ m15 10 2 ≤ 240 := hIm15.1 10 2
      have tk19 : zN m0 m15 := zN_tr tk14 kN_15
      by_cases b20 : r15 = 0
      · refine zW.step (st1 := (62, [(some (.ref 10)), (some (.int (Int32.ofInt Lv))), (some (.int (Int32.ofInt x2))), (some (.int (Int32.ofInt r5)))], [], zk c m15)) (st2 := (62, [(some (.ref 10)), (some (.int (Int32.ofInt Lv))), (some (.int (Int32.ofInt x2))), (some (.int (Int32.ofInt r5)))], [], zk c m15)) ⟨[zo], _, rfl, ⟨zbf (fun q => q ((zi_eq rfl (rfl : (0 : Int32) = Int32.ofInt 0) (by unfold zR; omega) (⟨by decide, by decide⟩ : zR 0)).mpr b20)), trivial⟩⟩ rfl ?_
        refine zW.step (st1 := (63, [(some (.ref 10)), (some (.int (Int32.ofInt Lv))), (some (.int (Int32.ofInt x2))), (some (.int (Int32.ofInt r5)))], [.int (Int32.ofInt 0)], zk c m15)) (st2 := (63, [(some (.ref 10)), (some (.int (Int32.ofInt Lv))), (some (.int (Int32.ofInt x2))), (some (.int (Int32.ofInt r5)))], [.int (Int32.ofInt 0)], zk c m15)) ⟨[zo], _, rfl, ⟨trivial, trivial⟩⟩ rfl ?_
        exact zW.fin (zfin_i rfl rfl rfl) (KR _ _ ⟨0, m15, rfl, rfl, hIm15, (by omega), (by omega), tk19⟩)
      · refine zW.step (st1 := (64, [(some (.ref 10)), (some (.int (Int32.ofInt Lv))), (some (.int (Int32.ofInt x2))), (some (.int (Int32.ofInt r5)))], [], zk c m15)) (st2 := (64, [(some (.ref 10)), (some (.int (Int32.ofInt Lv))), (some (.int (Int32.ofInt x2))), (some (.int (Int32.ofInt r5)))], [], zk c m15)) ⟨[zt], _, rfl, ⟨zbt (fun q => b20 ((zi_eq rfl (rfl : (0 : Int32) = Int32.ofInt 0) (by unfold zR; omega) (⟨by decide, by decide⟩ : zR 0)).mp q)), trivial⟩⟩ rfl ?_
        by_cases b21 : r5 = 43
        · refine zW.step (st1 := (71, [(some (.ref 10)), (some (.int (Int32.ofInt Lv))), (some (.int (Int32.ofInt x2))), (some (.int (Int32.ofInt r5)))], [.ref 10], zk c m15)) (st2 := (71, [(some (.ref 10)), (some (.int (Int32.ofInt Lv))), (some (.int (Int32.ofInt x2))), (some (.int (Int32.ofInt r5)))], [.ref 10], zk c m15)) ⟨[zo, zo, zo, zo], _, rfl, ⟨trivial, trivial, trivial, zbf (fun q => q ((zi_eq rfl (by decide : (Int8.ofInt 43).toInt32 = Int32.ofInt 43) (by unfold zR; omega) (⟨by decide, by decide⟩ : zR 43)).mpr b21)), trivial⟩⟩ rfl ?_
          refine zW.step (st1 := (78, [(some (.ref 10)), (some (.int (Int32.ofInt Lv))), (some (.int (Int32.ofInt x2))), (some (.int (Int32.ofInt r5)))], [.int (Int32.ofInt 0), .int (Int32.ofInt 5), .ref 10], zk c m15)) (st2 := (78, [(some (.ref 10)), (some (.int (Int32.ofInt Lv))), (some (.int (Int32.ofInt x2))), (some (.int (Int32.ofInt r5)))], [.int (Int32.ofInt 0), .int (Int32.ofInt 5), .ref 10], zk c m15)) ⟨[zo, zo, zo], _, rfl, ⟨trivial, trivial, trivial, trivial⟩⟩ rfl ?_
          obtain ⟨r22, m22, hs22, hIm22, z_22, p9_22, kN_22⟩ := S_X10_emit zn (d + 5) hN hC 5 0 m15 hIm15 (by omega) (by omega) (by omega) (by omega)
          refine zW.step (st1 := (81, [(some (.ref 10)), (some (.int (Int32.ofInt Lv))), (some (.int (Int32.ofInt x2))), (some (.int (Int32.ofInt r5)))], [.int (Int32.ofInt r22)], zk c m22)) ⟨[zc (some (.int (Int32.ofInt r22))) (zk c m22)], _, rfl, ⟨⟨⟨(Nat.lt_of_lt_of_le (Nat.le_of_ble_eq_true rfl) hN), (Nat.le_of_ble_eq_true rfl)⟩, hs22, (Nat.le_of_ble_eq_true rfl), Nat.le_refl _, Nat.le_refl _, Nat.le_refl _, Nat.le_refl _⟩, trivial⟩⟩ rfl ?_
          have f23 : (0 : Int) ≤ m22 1 1 ∧ m22 1 1 ≤ 240 := hIm22.1 1 1
          have f24 : (0 : Int) ≤ m22 1 2 ∧ m22 1 2 ≤ 240 := hIm22.1 1 2
          have f25 : (0 : Int) ≤ m22 10 2 ∧ m22 10 2 ≤ 240 := hIm22.1 10 2
          have tk26 : zN m0 m22 := zN_tr tk19 kN_22
          refine zW.step (st1 := (12, [(some (.ref 10)), (some (.int (Int32.ofInt Lv))), (some (.int ((Int32.ofInt x2) + Int32.ofInt 1))), (some (.int (Int32.ofInt r5)))], [], zk c m22)) (st2 := (12, [(some (.ref 10)), (some (.int (Int32.ofInt Lv))), (some (.int (Int32.ofInt (x2 + 1)))), (some (.int (Int32.ofInt r5)))], [], zk c m22)) ⟨[zo, zo, zo], _, rfl, ⟨trivial, trivial, trivial, trivial⟩⟩ (z_steq (z_c1 rfl (z_c1 rfl (z_c1 (z_si (zi_add rfl rfl)) rfl))) rfl rfl) ?_
          exact ih _ (by omega) (x2 + 1) (some (.int (Int32.ofInt r5))) m22 hIm22 (by omega) (by omega) (by omega) tk26 rfl
        · refine zW.step (st1 := (75, [(some (.ref 10)), (some (.int (Int32.ofInt Lv))), (some (.int (Int32.ofInt x2))), (some (.int (Int32.ofInt r5)))], [.ref 10], zk c m15)) (st2 := (75, [(some (.ref 10)), (some (.int (Int32.ofInt Lv))), (some (.int (Int32.ofInt x2))), (some (.int (Int32.ofInt r5)))], [.ref 10], zk c m15)) ⟨[zo, zo, zo, zt], _, rfl, ⟨trivial, trivial, trivial, zbt (fun q => b21 ((zi_eq rfl (by decide : (Int8.ofInt 43).toInt32 = Int32.ofInt 43) (by unfold zR; omega) (⟨by decide, by decide⟩ : zR 43)).mp q)), trivial⟩⟩ rfl ?_
          refine zW.step (st1 := (78, [(some (.ref 10)), (some (.int (Int32.ofInt Lv))), (some (.int (Int32.ofInt x2))), (some (.int (Int32.ofInt r5)))], [.int (Int32.ofInt 0), .int ((Int8.ofInt 6).toInt32), .ref 10], zk c m15)) (st2 := (78, [(some (.ref 10)), (some (.int (Int32.ofInt Lv))), (some (.int (Int32.ofInt x2))), (some (.int (Int32.ofInt r5)))], [.int (Int32.ofInt 0), .int (Int32.ofInt 6), .ref 10], zk c m15)) ⟨[zo, zo], _, rfl, ⟨trivial, trivial, trivial⟩⟩ (z_steq rfl (z_c1 rfl (z_c1 (z_vi (by decide : (Int8.ofInt 6).toInt32 = Int32.ofInt 6)) rfl)) rfl) ?_
          obtain ⟨r27, m27, hs27, hIm27, z_27, p9_27, kN_27⟩ := S_X10_emit zn (d + 5) hN hC 6 0 m15 hIm15 (by omega) (by omega) (by omega) (by omega)
          refine zW.step (st1 := (81, [(some (.ref 10)), (some (.int (Int32.ofInt Lv))), (some (.int (Int32.ofInt x2))), (some (.int (Int32.ofInt r5)))], [.int (Int32.ofInt r27)], zk c m27)) ⟨[zc (some (.int (Int32.ofInt r27))) (zk c m27)], _, rfl, ⟨⟨⟨(Nat.lt_of_lt_of_le (Nat.le_of_ble_eq_true rfl) hN), (Nat.le_of_ble_eq_true rfl)⟩, hs27, (Nat.le_of_ble_eq_true rfl), Nat.le_refl _, Nat.le_refl _, Nat.le_refl _, Nat.le_refl _⟩, trivial⟩⟩ rfl ?_
          have f28 : (0 : Int) ≤ m27 1 1 ∧ m27 1 1 ≤ 240 := hIm27.1 1 1
          have f29 : (0 : Int) ≤ m27 1 2 ∧ m27 1 2 ≤ 240 := hIm27.1 1 2
          have f30 : (0 : Int) ≤ m27 10 2 ∧ m27 10 2 ≤ 240 := hIm27.1 10 2
          have tk31 : zN m0 m27 := zN_tr tk19 kN_27
          refine zW.step (st1 := (12, [(some (.ref 10)), (some (.int (Int32.ofInt Lv))), (some (.int ((Int32.ofInt x2) + Int32.ofInt 1))), (some (.int (Int32.ofInt r5)))], [], zk c m27)) (st2 := (12, [(some (.ref 10)), (some (.int (Int32.ofInt Lv))), (some (.int (Int32.ofInt (x2 + 1)))), (some (.int (Int32.ofInt r5)))], [], zk c m27)) ⟨[zo, zo, zo], _, rfl, ⟨trivial, trivial, trivial, trivial⟩⟩ (z_steq (z_c1 rfl (z_c1 rfl (z_c1 (z_si (zi_add rfl rfl)) rfl))) rfl rfl) ?_
          exact ih _ (by omega) (x2 + 1) (some (.int (Int32.ofInt r5))) m27 hIm27 (by omega) (by omega) (by omega) tk31 rfl
    · refine zW.step (st1 := (33, [(some (.ref 10)), (some (.int (Int32.ofInt Lv))), (some (.int (Int32.ofInt x2))), (some (.int (Int32.ofInt r5)))], [], zk c m5)) (st2 := (33, [(some (.ref 10)), (some (.int (Int32.ofInt Lv))), (some (.int (Int32.ofInt x2))), (some (.int (Int32.ofInt r5)))], [], zk c m5)) ⟨[zo, zo, zo, zo], _, rfl, ⟨trivial, trivial, trivial, zbf (fun q => b10 ((zi_eq rfl (by decide : (Int8.ofInt 43).toInt32 = Int32.ofInt 43) (by unfold zR; omega) (⟨by decide, by decide⟩ : zR 43)).mp q)), trivial⟩⟩ rfl ?_
      by_cases b32 : r5 = 45
      · refine zW.step (st1 := (41, [(some (.ref 10)), (some (.int (Int32.ofInt Lv))), (some (.int (Int32.ofInt x2))), (some (.int (Int32.ofInt r5)))], [], zk c m5)) (st2 := (41, [(some (.ref 10)), (some (.int (Int32.ofInt Lv))), (some (.int (Int32.ofInt x2))), (some (.int (Int32.ofInt r5)))], [], zk c m5)) ⟨[zo, zo, zt], _, rfl, ⟨trivial, trivial, zbt ((zi_eq rfl (by decide : (Int8.ofInt 45).toInt32 = Int32.ofInt 45) (by unfold zR; omega) (⟨by decide, by decide⟩ : zR 45)).mpr b32), trivial⟩⟩ rfl ?_
        obtain ⟨m33, hm33⟩ : ∃ q, q = zm_up m5 1 2 ((m5 1 2) + 1) := ⟨_, rfl⟩
        have hIm33 : zI c mM m33 := by rw [hm33]; exact zI_up hIm5 (by unfold zOk; decide) (show (0 : Int) ≤ ((m5 1 2) + 1) ∧ ((m5 1 2) + 1) ≤ 240 by omega)
        have em33 : m33 1 2 = ((m5 1 2) + 1) := by rw [hm33]; exact zm_eq
        have f34 : m33 1 1 = m5 1 1 := by rw [hm33]; exact zm_ne (by omega)
        have f35 : m33 10 2 = m5 10 2 := by rw [hm33]; exact zm_ne (by omega)
        have tk36 : zN m0 m33 := by rw [hm33]; exact zN_up tk9 (by unfold zRow; omega)
        clear tk9
        refine zW.step (st1 := (54, [(some (.ref 10)), (some (.int (Int32.ofInt Lv))), (some (.int (Int32.ofInt x2))), (some (.int (Int32.ofInt r5)))], [], z_hup (zk c m5) 1 (.inr (8, [.ref 2, .int (Int32.ofInt (m5 1 1)), .int ((Int32.ofInt (m5 1 2)) + (Int32.ofInt 1)), .int (Int32.ofInt (m5 1 3))])))) (st2 := (54, [(some (.ref 10)), (some (.int (Int32.ofInt Lv))), (some (.int (Int32.ofInt x2))), (some (.int (Int32.ofInt r5)))], [], zk c m33)) ⟨[zo, zo, zo, zo, zo, zo, zo], _, rfl, ⟨trivial, (Nat.lt_of_lt_of_le (Nat.le_of_ble_eq_true rfl) hN), trivial, (Nat.lt_of_lt_of_le (Nat.le_of_ble_eq_true rfl) hN), trivial, trivial, ⟨(Nat.lt_of_lt_of_le (Nat.le_of_ble_eq_true rfl) hN), rfl, rfl⟩, trivial⟩⟩ (z_steq rfl rfl ((zk_up c m5 1 2 ((m5 1 2) + 1) _ ((congrArg (fun q => (.inr (8, [.ref 2, .int (Int32.ofInt (m5 1 1)), .int q, .int (Int32.ofInt (m5 1 3))]) : z_E)) (zi_add rfl rfl)).trans rfl)).trans (by rw [hm33]))) ?_
        refine zW.step (st1 := (56, [(some (.ref 10)), (some (.int (Int32.ofInt Lv))), (some (.int (Int32.ofInt x2))), (some (.int (Int32.ofInt r5)))], [.int (Int32.ofInt Lv), .ref 10], zk c m33)) (st2 := (56, [(some (.ref 10)), (some (.int (Int32.ofInt Lv))), (some (.int (Int32.ofInt x2))), (some (.int (Int32.ofInt r5)))], [.int (Int32.ofInt Lv), .ref 10], zk c m33)) ⟨[zo, zo], _, rfl, ⟨trivial, trivial, trivial⟩⟩ rfl ?_
        obtain ⟨r37, m37, hs37, hIm37, z_37, p9_37, kN_37⟩ := h_term m33 hIm33
        refine zW.step (st1 := (59, [(some (.ref 10)), (some (.int (Int32.ofInt Lv))), (some (.int (Int32.ofInt x2))), (some (.int (Int32.ofInt r5)))], [.int (Int32.ofInt r37)], zk c m37)) ⟨[zc (some (.int (Int32.ofInt r37))) (zk c m37)], _, rfl, ⟨⟨⟨(Nat.lt_of_lt_of_le (Nat.le_of_ble_eq_true rfl) hN), (Nat.le_of_ble_eq_true rfl)⟩, hs37, (Nat.le_of_ble_eq_true rfl), Nat.le_refl _, Nat.le_refl _, Nat.le_refl _, Nat.le_refl _⟩, trivial⟩⟩ rfl ?_
        have f38 : (0 : Int) ≤ m37 1 1 ∧ m37 1 1 ≤ 240 := hIm37.1 1 1
        have f39 : (0 : Int) ≤ m37 1 2 ∧ m37 1 2 ≤ 240 := hIm37.1 1 2
        have f40 : (0 : Int) ≤ m37 10 2 ∧ m37 10 2 ≤ 240 := hIm37.1 10 2
        have tk41 : zN m0 m37 := zN_tr tk36 kN_37
        by_cases b42 : r37 = 0
        · refine zW.step (st1 := (62, [(some (.ref 10)), (some (.int (Int32.ofInt Lv))), (some (.int (Int32.ofInt x2))), (some (.int (Int32.ofInt r5)))], [], zk c m37)) (st2 := (62, [(some (.ref 10)), (some (.int (Int32.ofInt Lv))), (some (.int (Int32.ofInt x2))), (some (.int (Int32.ofInt r5)))], [], zk c m37)) ⟨[zo], _, rfl, ⟨zbf (fun q => q ((zi_eq rfl (rfl : (0 : Int32) = Int32.ofInt 0) (by unfold zR; omega) (⟨by decide, by decide⟩ : zR 0)).mpr b42)), trivial⟩⟩ rfl ?_
          refine zW.step (st1 := (63, [(some (.ref 10)), (some (.int (Int32.ofInt Lv))), (some (.int (Int32.ofInt x2))), (some (.int (Int32.ofInt r5)))], [.int (Int32.ofInt 0)], zk c m37)) (st2 := (63, [(some (.ref 10)), (some (.int (Int32.ofInt Lv))), (some (.int (Int32.ofInt x2))), (some (.int (Int32.ofInt r5)))], [.int (Int32.ofInt 0)], zk c m37)) ⟨[zo], _, rfl, ⟨trivial, trivial⟩⟩ rfl ?_
          exact zW.fin (zfin_i rfl rfl rfl) (KR _ _ ⟨0, m37, rfl, rfl, hIm37, (by omega), (by omega), tk41⟩)
        · refine zW.step (st1 := (64, [(some (.ref 10)), (some (.int (Int32.ofInt Lv))), (some (.int (Int32.ofInt x2))), (some (.int (Int32.ofInt r5)))], [], zk c m37)) (st2 := (64, [(some (.ref 10)), (some (.int (Int32.ofInt Lv))), (some (.int (Int32.ofInt x2))), (some (.int (Int32.ofInt r5)))], [], zk c m37)) ⟨[zt], _, rfl, ⟨zbt (fun q => b42 ((zi_eq rfl (rfl : (0 : Int32) = Int32.ofInt 0) (by unfold zR; omega) (⟨by decide, by decide⟩ : zR 0)).mp q)), trivial⟩⟩ rfl ?_
          by_cases b43 : r5 = 43
          · refine zW.step (st1 := (71, [(some (.ref 10)), (some (.int (Int32.ofInt Lv))), (some (.int (Int32.ofInt x2))), (some (.int (Int32.ofInt r5)))], [.ref 10], zk c m37)) (st2 := (71, [(some (.ref 10)), (some (.int (Int32.ofInt Lv))), (some (.int (Int32.ofInt x2))), (some (.int (Int32.ofInt r5)))], [.ref 10], zk c m37)) ⟨[zo, zo, zo, zo], _, rfl, ⟨trivial, trivial, trivial, zbf (fun q => q ((zi_eq rfl (by decide : (Int8.ofInt 43).toInt32 = Int32.ofInt 43) (by unfold zR; omega) (⟨by decide, by decide⟩ : zR 43)).mpr b43)), trivial⟩⟩ rfl ?_
            refine zW.step (st1 := (78, [(some (.ref 10)), (some (.int (Int32.ofInt Lv))), (some (.int (Int32.ofInt x2))), (some (.int (Int32.ofInt r5)))], [.int (Int32.ofInt 0), .int (Int32.ofInt 5), .ref 10], zk c m37)) (st2 := (78, [(some (.ref 10)), (some (.int (Int32.ofInt Lv))), (some (.int (Int32.ofInt x2))), (some (.int (Int32.ofInt r5)))], [.int (Int32.ofInt 0), .int (Int32.ofInt 5), .ref 10], zk c m37)) ⟨[zo, zo, zo], _, rfl, ⟨trivial, trivial, trivial, trivial⟩⟩ rfl ?_
            obtain ⟨r44, m44, hs44, hIm44, z_44, p9_44, kN_44⟩ := S_X10_emit zn (d + 5) hN hC 5 0 m37 hIm37 (by omega) (by omega) (by omega) (by omega)
            refine zW.step (st1 := (81, [(some (.ref 10)), (some (.int (Int32.ofInt Lv))), (some (.int (Int32.ofInt x2))), (some (.int (Int32.ofInt r5)))], [.int (Int32.ofInt r44)], zk c m44)) ⟨[zc (some (.int (Int32.ofInt r44))) (zk c m44)], _, rfl, ⟨⟨⟨(Nat.lt_of_lt_of_le (Nat.le_of_ble_eq_true rfl) hN), (Nat.le_of_ble_eq_true rfl)⟩, hs44, (Nat.le_of_ble_eq_true rfl), Nat.le_refl _, Nat.le_refl _, Nat.le_refl _, Nat.le_refl _⟩, trivial⟩⟩ rfl ?_
            have f45 : (0 : Int) ≤ m44 1 1 ∧ m44 1 1 ≤ 240 := hIm44.1 1 1
            have f46 : (0 : Int) ≤ m44 1 2 ∧ m44 1 2 ≤ 240 := hIm44.1 1 2
            have f47 : (0 : Int) ≤ m44 10 2 ∧ m44 10 2 ≤ 240 := hIm44.1 10 2
            have tk48 : zN m0 m44 := zN_tr tk41 kN_44
            refine zW.step (st1 := (12, [(some (.ref 10)), (some (.int (Int32.ofInt Lv))), (some (.int ((Int32.ofInt x2) + Int32.ofInt 1))), (some (.int (Int32.ofInt r5)))], [], zk c m44)) (st2 := (12, [(some (.ref 10)), (some (.int (Int32.ofInt Lv))), (some (.int (Int32.ofInt (x2 + 1)))), (some (.int (Int32.ofInt r5)))], [], zk c m44)) ⟨[zo, zo, zo], _, rfl, ⟨trivial, trivial, trivial, trivial⟩⟩ (z_steq (z_c1 rfl (z_c1 rfl (z_c1 (z_si (zi_add rfl rfl)) rfl))) rfl rfl) ?_
            exact ih _ (by omega) (x2 + 1) (some (.int (Int32.ofInt r5))) m44 hIm44 (by omega) (by omega) (by omega) tk48 rfl
          · refine zW.step (st1 := (75, [(some (.ref 10)), (some (.int (Int32.ofInt Lv))), (some (.int (Int32.ofInt x2))), (some (.int (Int32.ofInt r5)))], [.ref 10], zk c m37)) (st2 := (75, [(some (.ref 10)), (some (.int (Int32.ofInt Lv))), (some (.int (Int32.ofInt x2))), (some (.int (Int32.ofInt r5)))], [.ref 10], zk c m37)) ⟨[zo, zo, zo, zt], _, rfl, ⟨trivial, trivial, trivial, zbt (fun q => b43 ((zi_eq rfl (by decide : (Int8.ofInt 43).toInt32 = Int32.ofInt 43) (by unfold zR; omega) (⟨by decide, by decide⟩ : zR 43)).mp q)), trivial⟩⟩ rfl ?_
            refine zW.step (st1 := (78, [(some (.ref 10)), (some (.int (Int32.ofInt Lv))), (some (.int (Int32.ofInt x2))), (some (.int (Int32.ofInt r5)))], [.int (Int32.ofInt 0), .int ((Int8.ofInt 6).toInt32), .ref 10], zk c m37)) (st2 := (78, [(some (.ref 10)), (some (.int (Int32.ofInt Lv))), (some (.int (Int32.ofInt x2))), (some (.int (Int32.ofInt r5)))], [.int (Int32.ofInt 0), .int (Int32.ofInt 6), .ref 10], zk c m37)) ⟨[zo, zo], _, rfl, ⟨trivial, trivial, trivial⟩⟩ (z_steq rfl (z_c1 rfl (z_c1 (z_vi (by decide : (Int8.ofInt 6).toInt32 = Int32.ofInt 6)) rfl)) rfl) ?_
            obtain ⟨r49, m49, hs49, hIm49, z_49, p9_49, kN_49⟩ := S_X10_emit zn (d + 5) hN hC 6 0 m37 hIm37 (by omega) (by omega) (by omega) (by omega)
            refine zW.step (st1 := (81, [(some (.ref 10)), (some (.int (Int32.ofInt Lv))), (some (.int (Int32.ofInt x2))), (some (.int (Int32.ofInt r5)))], [.int (Int32.ofInt r49)], zk c m49)) ⟨[zc (some (.int (Int32.ofInt r49))) (zk c m49)], _, rfl, ⟨⟨⟨(Nat.lt_of_lt_of_le (Nat.le_of_ble_eq_true rfl) hN), (Nat.le_of_ble_eq_true rfl)⟩, hs49, (Nat.le_of_ble_eq_true rfl), Nat.le_refl _, Nat.le_refl _, Nat.le_refl _, Nat.le_refl _⟩, trivial⟩⟩ rfl ?_
            have f50 : (0 : Int) ≤ m49 1 1 ∧ m49 1 1 ≤ 240 := hIm49.1 1 1
            have f51 : (0 : Int) ≤ m49 1 2 ∧ m49 1 2 ≤ 240 := hIm49.1 1 2
            have f52 : (0 : Int) ≤ m49 10 2 ∧ m49 10 2 ≤ 240 := hIm49.1 10 2
            have tk53 : zN m0 m49 := zN_tr tk41 kN_49
            refine zW.step (st1 := (12, [(some (.ref 10)), (some (.int (Int32.ofInt Lv))), (some (.int ((Int32.ofInt x2) + Int32.ofInt 1))), (some (.int (Int32.ofInt r5)))], [], zk c m49)) (st2 := (12, [(some (.ref 10)), (some (.int (Int32.ofInt Lv))), (some (.int (Int32.ofInt (x2 + 1)))), (some (.int (Int32.ofInt r5)))], [], zk c m49)) ⟨[zo, zo, zo], _, rfl, ⟨trivial, trivial, trivial, trivial⟩⟩ (z_steq (z_c1 rfl (z_c1 rfl (z_c1 (z_si (zi_add rfl rfl)) rfl))) rfl rfl) ?_
            exact ih _ (by omega) (x2 + 1) (some (.int (Int32.ofInt r5))) m49 hIm49 (by omega) (by omega) (by omega) tk53 rfl
      · refine zW.step (st1 := (39, [(some (.ref 10)), (some (.int (Int32.ofInt Lv))), (some (.int (Int32.ofInt x2))), (some (.int (Int32.ofInt r5)))], [], zk c m5)) (st2 := (39, [(some (.ref 10)), (some (.int (Int32.ofInt Lv))), (some (.int (Int32.ofInt x2))), (some (.int (Int32.ofInt r5)))], [], zk c m5)) ⟨[zo, zo, zo], _, rfl, ⟨trivial, trivial, zbf (fun q => b32 ((zi_eq rfl (by decide : (Int8.ofInt 45).toInt32 = Int32.ofInt 45) (by unfold zR; omega) (⟨by decide, by decide⟩ : zR 45)).mp q)), trivial⟩⟩ rfl ?_
        refine zW.step (st1 := (40, [(some (.ref 10)), (some (.int (Int32.ofInt Lv))), (some (.int (Int32.ofInt x2))), (some (.int (Int32.ofInt r5)))], [.int (Int32.ofInt 1)], zk c m5)) (st2 := (40, [(some (.ref 10)), (some (.int (Int32.ofInt Lv))), (some (.int (Int32.ofInt x2))), (some (.int (Int32.ofInt r5)))], [.int (Int32.ofInt 1)], zk c m5)) ⟨[zo], _, rfl, ⟨trivial, trivial⟩⟩ rfl ?_
        exact zW.fin (zfin_i rfl rfl rfl) (KR _ _ ⟨1, m5, rfl, rfl, hIm5, (by omega), (by omega), tk9⟩)

set_option maxRecDepth 100000 in
set_option maxHeartbeats 4000000 in
theorem S_X10_sum_G (zn : Bool) (d : Nat) {c : Nat × Nat} {mM : zM} (hN : 107 ≤ c.1) (hC : c.1 < z_RO) (Lv : Int) (h_term : ∀ (m : zM) (hIm : zI c mM m), zCi zn (d + 6) 123 [.ref 10, .int (Int32.ofInt Lv)] c m (fun (r : Int) (m1 : zM) => zI c mM m1 ∧ (0 ≤ r ∧ r ≤ 1) ∧ (m1 10 2 - m1 1 2 ≤ m 10 2 - m 1 2) ∧ zN m m1)) (m : zM) (hIm : zI c mM m) (hLv : 0 ≤ Lv ∧ Lv ≤ 6) : zCi zn (d + 7) 122 [.ref 10, .int (Int32.ofInt Lv)] c m (fun (r : Int) (m1 : zM) => zI c mM m1 ∧ (0 ≤ r ∧ r ≤ 1) ∧ (m1 10 2 - m1 1 2 ≤ m 10 2 - m 1 2) ∧ zN m m1) := by
  refine zCi.of zu_X10_sum hC (Nat.le_of_ble_eq_true rfl) ?_
  show zW zn (d + 6) 122 c (0, [(some (.ref 10)), (some (.int (Int32.ofInt Lv))), none, none], [], zk c m) (fun v h1 => ∃ (r : Int) (m1 : zM), v = some (.int (Int32.ofInt r)) ∧ h1 = zk c m1 ∧ zI c mM m1 ∧ (0 ≤ r ∧ r ≤ 1) ∧ (m1 10 2 - m1 1 2 ≤ m 10 2 - m 1 2) ∧ zN m m1)
  have f54 : (0 : Int) ≤ m 1 1 ∧ m 1 1 ≤ 240 := hIm.1 1 1
  have f55 : (0 : Int) ≤ m 1 2 ∧ m 1 2 ≤ 240 := hIm.1 1 2
  have f56 : (0 : Int) ≤ m 10 2 ∧ m 10 2 ≤ 240 := hIm.1 10 2
  refine zW.step (st1 := (2, [(some (.ref 10)), (some (.int (Int32.ofInt Lv))), none, none], [.int (Int32.ofInt Lv), .ref 10], zk c m)) (st2 := (2, [(some (.ref 10)), (some (.int (Int32.ofInt Lv))), none, none], [.int (Int32.ofInt Lv), .ref 10], zk c m)) ⟨[zo, zo], _, rfl, ⟨trivial, trivial, trivial⟩⟩ rfl ?_
  obtain ⟨r57, m57, hs57, hIm57, z_57, p9_57, kN_57⟩ := h_term m hIm
  refine zW.step (st1 := (5, [(some (.ref 10)), (some (.int (Int32.ofInt Lv))), none, none], [.int (Int32.ofInt r57)], zk c m57)) ⟨[zc (some (.int (Int32.ofInt r57))) (zk c m57)], _, rfl, ⟨⟨⟨(Nat.lt_of_lt_of_le (Nat.le_of_ble_eq_true rfl) hN), (Nat.le_of_ble_eq_true rfl)⟩, hs57, (Nat.le_of_ble_eq_true rfl), Nat.le_refl _, Nat.le_refl _, Nat.le_refl _, Nat.le_refl _⟩, trivial⟩⟩ rfl ?_
  have f58 : (0 : Int) ≤ m57 1 1 ∧ m57 1 1 ≤ 240 := hIm57.1 1 1
  have f59 : (0 : Int) ≤ m57 1 2 ∧ m57 1 2 ≤ 240 := hIm57.1 1 2
  have f60 : (0 : Int) ≤ m57 10 2 ∧ m57 10 2 ≤ 240 := hIm57.1 10 2
  have tk61 : zN m m57 := zN_tr zN_rf kN_57
  by_cases b62 : r57 = 0
  · refine zW.step (st1 := (8, [(some (.ref 10)), (some (.int (Int32.ofInt Lv))), none, none], [], zk c m57)) (st2 := (8, [(some (.ref 10)), (some (.int (Int32.ofInt Lv))), none, none], [], zk c m57)) ⟨[zo], _, rfl, ⟨zbf (fun q => q ((zi_eq rfl (rfl : (0 : Int32) = Int32.ofInt 0) (by unfold zR; omega) (⟨by decide, by decide⟩ : zR 0)).mpr b62)), trivial⟩⟩ rfl ?_
    refine zW.step (st1 := (9, [(some (.ref 10)), (some (.int (Int32.ofInt Lv))), none, none], [.int (Int32.ofInt 0)], zk c m57)) (st2 := (9, [(some (.ref 10)), (some (.int (Int32.ofInt Lv))), none, none], [.int (Int32.ofInt 0)], zk c m57)) ⟨[zo], _, rfl, ⟨trivial, trivial⟩⟩ rfl ?_
    exact zW.fin (zfin_i rfl rfl rfl) ⟨0, m57, rfl, rfl, hIm57, (by omega), (by omega), tk61⟩
  · refine zW.step (st1 := (10, [(some (.ref 10)), (some (.int (Int32.ofInt Lv))), none, none], [], zk c m57)) (st2 := (10, [(some (.ref 10)), (some (.int (Int32.ofInt Lv))), none, none], [], zk c m57)) ⟨[zt], _, rfl, ⟨zbt (fun q => b62 ((zi_eq rfl (rfl : (0 : Int32) = Int32.ofInt 0) (by unfold zR; omega) (⟨by decide, by decide⟩ : zR 0)).mp q)), trivial⟩⟩ rfl ?_
    refine zW.step (st1 := (12, [(some (.ref 10)), (some (.int (Int32.ofInt Lv))), (some (.int (Int32.ofInt 0))), none], [], zk c m57)) (st2 := (12, [(some (.ref 10)), (some (.int (Int32.ofInt Lv))), (some (.int (Int32.ofInt 0))), none], [], zk c m57)) ⟨[zo, zo], _, rfl, ⟨trivial, trivial, trivial⟩⟩ rfl ?_
    refine L_X10_sum_G_12 zn _ hN hC Lv h_term hLv m _ (fun v9 h9 hq9 => hq9) (fun x2_63 o3_63 m_63 hIm_63 i1_63 pt_63 hLw_63 tN_63 => ?_) _ 0 none m57 hIm57 (by omega) (by omega) (by omega) tk61 rfl
    have f64 : (0 : Int) ≤ m_63 1 1 ∧ m_63 1 1 ≤ 240 := hIm_63.1 1 1
    have f65 : (0 : Int) ≤ m_63 1 2 ∧ m_63 1 2 ≤ 240 := hIm_63.1 1 2
    have f66 : (0 : Int) ≤ m_63 10 2 ∧ m_63 10 2 ≤ 240 := hIm_63.1 10 2
    refine zW.step (st1 := (89, [(some (.ref 10)), (some (.int (Int32.ofInt Lv))), (some (.int (Int32.ofInt x2_63))), o3_63], [.int (Int32.ofInt 0)], zk c m_63)) (st2 := (89, [(some (.ref 10)), (some (.int (Int32.ofInt Lv))), (some (.int (Int32.ofInt x2_63))), o3_63], [.int (Int32.ofInt 0)], zk c m_63)) ⟨[zo], _, rfl, ⟨trivial, trivial⟩⟩ rfl ?_
    exact zW.fin (zfin_i rfl rfl rfl) ⟨0, m_63, rfl, rfl, hIm_63, (by omega), (by omega), tN_63⟩

set_option maxRecDepth 100000 in
set_option maxHeartbeats 4000000 in
theorem L_X10_term_G_12 (zn : Bool) (d : Nat) {c : Nat × Nat} {mM : zM} (hN : 107 ≤ c.1) (hC : c.1 < z_RO) (Lv : Int) (h_atom : ∀ (m : zM) (hIm : zI c mM m), zCi zn (d + 5) 115 [.ref 10, .int (Int32.ofInt Lv)] c m (fun (r : Int) (m1 : zM) => zI c mM m1 ∧ (0 ≤ r ∧ r ≤ 1) ∧ (m1 10 2 - m1 1 2 ≤ m 10 2 - m 1 2) ∧ zN m m1)) (hLv : 0 ≤ Lv ∧ Lv ≤ 6) (m0 : zM) (Q : Option Value → z_H → Prop) (KR : ∀ v h1, (fun v h1 => ∃ (r : Int) (m1 : zM), v = some (.int (Int32.ofInt r)) ∧ h1 = zk c m1 ∧ zI c mM m1 ∧ (0 ≤ r ∧ r ≤ 1) ∧ (m1 10 2 - m1 1 2 ≤ m0 10 2 - m0 1 2) ∧ zN m0 m1) v h1 → Q v h1) (K : ∀ (x2 : Int) (o3 : Option Value) (m : zM), zI c mM m → 0 ≤ x2 ∧ x2 ≤ 240 → m 10 2 - m 1 2 ≤ m0 10 2 - m0 1 2 → 0 ≤ Lv ∧ Lv ≤ 6 → zN m0 m → zW zn (d + 5) 123 c (89, [(some (.ref 10)), (some (.int (Int32.ofInt Lv))), (some (.int (Int32.ofInt x2))), o3], [], zk c m) Q) :
    ∀ (w : Nat) (x2 : Int) (o3 : Option Value) (m : zM), zI c mM m → 0 ≤ x2 ∧ x2 ≤ 240 → m 10 2 - m 1 2 ≤ m0 10 2 - m0 1 2 → 0 ≤ Lv ∧ Lv ≤ 6 → zN m0 m → w = (240 - x2).toNat → zW zn (d + 5) 123 c (12, [(some (.ref 10)), (some (.int (Int32.ofInt Lv))), (some (.int (Int32.ofInt x2))), o3], [], zk c m) Q := by
  intro w
  induction w using Nat.strongRecOn with | _ w ih => ?_
  intro x2 o3 m hIm i1 pt hLw tN hw
  have f1 : (0 : Int) ≤ m 1 1 ∧ m 1 1 ≤ 240 := hIm.1 1 1
  have f2 : (0 : Int) ≤ m 1 2 ∧ m 1 2 ≤ 240 := hIm.1 1 2
  have f3 : (0 : Int) ≤ m 10 2 ∧ m 10 2 ≤ 240 := hIm.1 10 2
  by_cases b4 : 240 ≤ x2
  · refine zW.step (st1 := (89, [(some (.ref 10)), (some (.int (Int32.ofInt Lv))), (some (.int (Int32.ofInt x2))), o3], [], zk c m)) (st2 := (89, [(some (.ref 10)), (some (.int (Int32.ofInt Lv))), (some (.int (Int32.ofInt x2))), o3], [], zk c m)) ⟨[zo, zo, zt], _, rfl, ⟨trivial, trivial, zbt ((zi_le (by decide : (Int16.ofInt 240).toInt32 = Int32.ofInt 240) rfl (⟨by decide, by decide⟩ : zR 240) (by unfold zR; omega)).mpr b4), trivial⟩⟩ rfl ?_
    exact K x2 o3 m hIm (by omega) (by omega) (by omega) tN
  · refine zW.step (st1 := (19, [(some (.ref 10)), (some (.int (Int32.ofInt Lv))), (some (.int (Int32.ofInt x2))), o3], [], zk c m)) (st2 := (19, [(some (.ref 10)), (some (.int (Int32.ofInt Lv))), (some (.int (Int32.ofInt x2))), o3], [], zk c m)) ⟨[zo, zo, zo], _, rfl, ⟨trivial, trivial, zbf (fun q => b4 ((zi_le (by decide : (Int16.ofInt 240).toInt32 = Int32.ofInt 240) rfl (⟨by decide, by decide⟩ : zR 240) (by unfold zR; omega)).mp q)), trivial⟩⟩ rfl ?_
    refine zW.step (st1 := (23, [(some (.ref 10)), (some (.int (Int32.ofInt Lv))), (some (.int (Int32.ofInt x2))), o3], [.ref 1], zk c m)) (st2 := (23, [(some (.ref 10)), (some (.int (Int32.ofInt Lv))), (some (.int (Int32.ofInt x2))), o3], [.ref 1], zk c m)) ⟨[zo, zo], _, rfl, ⟨trivial, (Nat.lt_of_lt_of_le (Nat.le_of_ble_eq_true rfl) hN), trivial⟩⟩ rfl ?_
    obtain ⟨r5, m5, hs5, hIm5, z_5, q_5, l_5, a9_5, r9_5, p9_5, n9_5, c3_5, e2_5, v9_5, kN_5⟩ := S_X8_next zn (d + 3) hN hC m hIm
    refine zW.step (st1 := (26, [(some (.ref 10)), (some (.int (Int32.ofInt Lv))), (some (.int (Int32.ofInt x2))), o3], [.int (Int32.ofInt r5)], zk c m5)) ⟨[zc (some (.int (Int32.ofInt r5))) (zk c m5)], _, rfl, ⟨⟨⟨(Nat.lt_of_lt_of_le (Nat.le_of_ble_eq_true rfl) hN), (Nat.le_of_ble_eq_true rfl)⟩, hs5, (Nat.le_of_ble_eq_true rfl), Nat.le_refl _, Nat.le_refl _, Nat.le_refl _, Nat.le_refl _⟩, trivial⟩⟩ rfl ?_
    have f6 : (0 : Int) ≤ m5 1 1 ∧ m5 1 1 ≤ 240 := hIm5.1 1 1
    have f7 : (0 : Int) ≤ m5 1 2 ∧ m5 1 2 ≤ 240 := hIm5.1 1 2
    have f8 : (0 : Int) ≤ m5 10 2 ∧ m5 10 2 ≤ 240 := hIm5.1 10 2
    have tk9 : zN m0 m5 := zN_tr tN kN_5
    by_cases b10 : r5 = 42
    · refine zW.step (st1 := (41, [(some (.ref 10)), (some (.int (Int32.ofInt Lv))), (some (.int (Int32.ofInt x2))), (some (.int (Int32.ofInt r5)))], [], zk c m5)) (st2 := (41, [(some (.ref 10)), (some (.int (Int32.ofInt Lv))), (some (.int (Int32.ofInt x2))), (some (.int (Int32.ofInt r5)))], [], zk c m5)) ⟨[zo, zo, zo, zt], _, rfl, ⟨trivial, trivial, trivial, zbt ((zi_eq rfl (by decide : (Int8.ofInt 42).toInt32 = Int32.ofInt 42) (by unfold zR; omega) (⟨by decide, by decide⟩ : zR 42)).mpr b10), trivial⟩⟩ rfl ?_
      obtain ⟨m11, hm11⟩ : ∃ q, q = zm_up m5 1 2 ((m5 1 2) + 1) := ⟨_, rfl⟩
      have hIm11 : zI c mM m11 := by rw [hm11]; exact zI_up hIm5 (by unfold zOk; decide) (show (0 : Int) ≤ ((m5 1 2) + 1) ∧ ((m5 1 2) + 1) ≤ 240 by omega)
      have em11 : m11 1 2 = ((m5 1 2) + 1) := by rw [hm11]; exact zm_eq
      have f12 : m11 1 1 = m5 1 1 := by rw [hm11]; exact zm_ne (by omega)
      have f13 : m11 10 2 = m5 10 2 := by rw [hm11]; exact zm_ne (by omega)
      have tk14 : zN m0 m11 := by rw [hm11]; exact zN_up tk9 (by unfold zRow; omega)
      clear tk9
      refine zW.step (st1 := (54, [(some (.ref 10)), (some (.int (Int32.ofInt Lv))), (some (.int (Int32.ofInt x2))), (some (.int (Int32.ofInt r5)))], [], z_hup (zk c m5) 1 (.inr (8, [.ref 2, .int (Int32.ofInt (m5 1 1)), .int ((Int32.ofInt (m5 1 2)) + (Int32.ofInt 1)), .int (Int32.ofInt (m5 1 3))])))) (st2 := (54, [(some (.ref 10)), (some (.int (Int32.ofInt Lv))), (some (.int (Int32.ofInt x2))), (some (.int (Int32.ofInt r5)))], [], zk c m11)) ⟨[zo, zo, zo, zo, zo, zo, zo], _, rfl, ⟨trivial, (Nat.lt_of_lt_of_le (Nat.le_of_ble_eq_true rfl) hN), trivial, (Nat.lt_of_lt_of_le (Nat.le_of_ble_eq_true rfl) hN), trivial, trivial, ⟨(Nat.lt_of_lt_of_le (Nat.le_of_ble_eq_true rfl) hN), rfl, rfl⟩, trivial⟩⟩ (z_steq rfl rfl ((zk_up c m5 1 2 ((m5 1 2) + 1) _ ((congrArg (fun q => (.inr (8, [.ref 2, .int (Int32.ofInt (m5 1 1)), .int q, .int (Int32.ofInt (m5 1 3))]) : z_E)) (zi_add rfl rfl)).trans rfl)).trans (by rw [hm11]))) ?_
      refine zW.step (st1 := (56, [(some (.ref 10)), (some (.int (Int32.ofInt Lv))), (some (.int (Int32.ofInt x2))), (some (.int (Int32.ofInt r5)))], [.int (Int32.ofInt Lv), .ref 10], zk c m11)) (st2 := (56, [(some (.ref 10)), (some (.int (Int32.ofInt Lv))), (some (.int (Int32.ofInt x2))), (some (.int (Int32.ofInt r5)))], [.int (Int32.ofInt Lv), .ref 10], zk c m11)) ⟨[zo, zo], _, rfl, ⟨trivial, trivial, trivial⟩⟩ rfl ?_
      obtain ⟨r15, m15, hs15, hIm15, z_15, p9_15, kN_15⟩ := h_atom m11 hIm11
      refine zW.step (st1 := (59, [(some (.ref 10)), (some (.int (Int32.ofInt Lv))), (some (.int (Int32.ofInt x2))), (some (.int (Int32.ofInt r5)))], [.int (Int32.ofInt r15)], zk c m15)) ⟨[zc (some (.int (Int32.ofInt r15))) (zk c m15)], _, rfl, ⟨⟨⟨(Nat.lt_of_lt_of_le (Nat.le_of_ble_eq_true rfl) hN), (Nat.le_of_ble_eq_true rfl)⟩, hs15, (Nat.le_of_ble_eq_true rfl), Nat.le_refl _, Nat.le_refl _, Nat.le_refl _, Nat.le_refl _⟩, trivial⟩⟩ rfl ?_
      have f16 : (0 : Int) ≤ m15 1 1 ∧ m15 1 1 ≤ 240 := hIm15.1 1 1
      have f17 : (0 : Int) ≤ m15 1 2 ∧ m15 1 2 ≤ 240 := hIm15.1 1 2
      have f18 : (0 : Int) ≤ m15 10 2 ∧ m15 10 2 ≤ 240 := hIm15.1 10 2
      have tk19 : zN m0 m15 := zN_tr tk14 kN_15
      by_cases b20 : r15 = 0
      · refine zW.step (st1 := (62, [(some (.ref 10)), (some (.int (Int32.ofInt Lv))), (some (.int (Int32.ofInt x2))), (some (.int (Int32.ofInt r5)))], [], zk c m15)) (st2 := (62, [(some (.ref 10)), (some (.int (Int32.ofInt Lv))), (some (.int (Int32.ofInt x2))), (some (.int (Int32.ofInt r5)))], [], zk c m15)) ⟨[zo], _, rfl, ⟨zbf (fun q => q ((zi_eq rfl (rfl : (0 : Int32) = Int32.ofInt 0) (by unfold zR; omega) (⟨by decide, by decide⟩ : zR 0)).mpr b20)), trivial⟩⟩ rfl ?_
        refine zW.step (st1 := (63, [(some (.ref 10)), (some (.int (Int32.ofInt Lv))), (some (.int (Int32.ofInt x2))), (some (.int (Int32.ofInt r5)))], [.int (Int32.ofInt 0)], zk c m15)) (st2 := (63, [(some (.ref 10)), (some (.int (Int32.ofInt Lv))), (some (.int (Int32.ofInt x2))), (some (.int (Int32.ofInt r5)))], [.int (Int32.ofInt 0)], zk c m15)) ⟨[zo], _, rfl, ⟨trivial, trivial⟩⟩ rfl ?_
        exact zW.fin (zfin_i rfl rfl rfl) (KR _ _ ⟨0, m15, rfl, rfl, hIm15, (by omega), (by omega), tk19⟩)
      · refine zW.step (st1 := (64, [(some (.ref 10)), (some (.int (Int32.ofInt Lv))), (some (.int (Int32.ofInt x2))), (some (.int (Int32.ofInt r5)))], [], zk c m15)) (st2 := (64, [(some (.ref 10)), (some (.int (Int32.ofInt Lv))), (some (.int (Int32.ofInt x2))), (some (.int (Int32.ofInt r5)))], [], zk c m15)) ⟨[zt], _, rfl, ⟨zbt (fun q => b20 ((zi_eq rfl (rfl : (0 : Int32) = Int32.ofInt 0) (by unfold zR; omega) (⟨by decide, by decide⟩ : zR 0)).mp q)), trivial⟩⟩ rfl ?_
        by_cases b21 : r5 = 42
        · refine zW.step (st1 := (71, [(some (.ref 10)), (some (.int (Int32.ofInt Lv))), (some (.int (Int32.ofInt x2))), (some (.int (Int32.ofInt r5)))], [.ref 10], zk c m15)) (st2 := (71, [(some (.ref 10)), (some (.int (Int32.ofInt Lv))), (some (.int (Int32.ofInt x2))), (some (.int (Int32.ofInt r5)))], [.ref 10], zk c m15)) ⟨[zo, zo, zo, zo], _, rfl, ⟨trivial, trivial, trivial, zbf (fun q => q ((zi_eq rfl (by decide : (Int8.ofInt 42).toInt32 = Int32.ofInt 42) (by unfold zR; omega) (⟨by decide, by decide⟩ : zR 42)).mpr b21)), trivial⟩⟩ rfl ?_
          refine zW.step (st1 := (79, [(some (.ref 10)), (some (.int (Int32.ofInt Lv))), (some (.int (Int32.ofInt x2))), (some (.int (Int32.ofInt r5)))], [.int (Int32.ofInt 0), .int ((Int8.ofInt 7).toInt32), .ref 10], zk c m15)) (st2 := (79, [(some (.ref 10)), (some (.int (Int32.ofInt Lv))), (some (.int (Int32.ofInt x2))), (some (.int (Int32.ofInt r5)))], [.int (Int32.ofInt 0), .int (Int32.ofInt 7), .ref 10], zk c m15)) ⟨[zo, zo, zo], _, rfl, ⟨trivial, trivial, trivial, trivial⟩⟩ (z_steq rfl (z_c1 rfl (z_c1 (z_vi (by decide : (Int8.ofInt 7).toInt32 = Int32.ofInt 7)) rfl)) rfl) ?_
          obtain ⟨r22, m22, hs22, hIm22, z_22, p9_22, kN_22⟩ := S_X10_emit zn (d + 4) hN hC 7 0 m15 hIm15 (by omega) (by omega) (by omega) (by omega)
          refine zW.step (st1 := (82, [(some (.ref 10)), (some (.int (Int32.ofInt Lv))), (some (.int (Int32.ofInt x2))), (some (.int (Int32.ofInt r5)))], [.int (Int32.ofInt r22)], zk c m22)) ⟨[zc (some (.int (Int32.ofInt r22))) (zk c m22)], _, rfl, ⟨⟨⟨(Nat.lt_of_lt_of_le (Nat.le_of_ble_eq_true rfl) hN), (Nat.le_of_ble_eq_true rfl)⟩, hs22, (Nat.le_of_ble_eq_true rfl), Nat.le_refl _, Nat.le_refl _, Nat.le_refl _, Nat.le_refl _⟩, trivial⟩⟩ rfl ?_
          have f23 : (0 : Int) ≤ m22 1 1 ∧ m22 1 1 ≤ 240 := hIm22.1 1 1
          have f24 : (0 : Int) ≤ m22 1 2 ∧ m22 1 2 ≤ 240 := hIm22.1 1 2
          have f25 : (0 : Int) ≤ m22 10 2 ∧ m22 10 2 ≤ 240 := hIm22.1 10 2
          have tk26 : zN m0 m22 := zN_tr tk19 kN_22
          refine zW.step (st1 := (12, [(some (.ref 10)), (some (.int (Int32.ofInt Lv))), (some (.int ((Int32.ofInt x2) + Int32.ofInt 1))), (some (.int (Int32.ofInt r5)))], [], zk c m22)) (st2 := (12, [(some (.ref 10)), (some (.int (Int32.ofInt Lv))), (some (.int (Int32.ofInt (x2 + 1)))), (some (.int (Int32.ofInt r5)))], [], zk c m22)) ⟨[zo, zo, zo], _, rfl, ⟨trivial, trivial, trivial, trivial⟩⟩ (z_steq (z_c1 rfl (z_c1 rfl (z_c1 (z_si (zi_add rfl rfl)) rfl))) rfl rfl) ?_
          exact ih _ (by omega) (x2 + 1) (some (.int (Int32.ofInt r5))) m22 hIm22 (by omega) (by omega) (by omega) tk26 rfl
        · refine zW.step (st1 := (76, [(some (.ref 10)), (some (.int (Int32.ofInt Lv))), (some (.int (Int32.ofInt x2))), (some (.int (Int32.ofInt r5)))], [.ref 10], zk c m15)) (st2 := (76, [(some (.ref 10)), (some (.int (Int32.ofInt Lv))), (some (.int (Int32.ofInt x2))), (some (.int (Int32.ofInt r5)))], [.ref 10], zk c m15)) ⟨[zo, zo, zo, zt], _, rfl, ⟨trivial, trivial, trivial, zbt (fun q => b21 ((zi_eq rfl (by decide : (Int8.ofInt 42).toInt32 = Int32.ofInt 42) (by unfold zR; omega) (⟨by decide, by decide⟩ : zR 42)).mp q)), trivial⟩⟩ rfl ?_
          refine zW.step (st1 := (79, [(some (.ref 10)), (some (.int (Int32.ofInt Lv))), (some (.int (Int32.ofInt x2))), (some (.int (Int32.ofInt r5)))], [.int (Int32.ofInt 0), .int ((Int8.ofInt 8).toInt32), .ref 10], zk c m15)) (st2 := (79, [(some (.ref 10)), (some (.int (Int32.ofInt Lv))), (some (.int (Int32.ofInt x2))), (some (.int (Int32.ofInt r5)))], [.int (Int32.ofInt 0), .int (Int32.ofInt 8), .ref 10], zk c m15)) ⟨[zo, zo], _, rfl, ⟨trivial, trivial, trivial⟩⟩ (z_steq rfl (z_c1 rfl (z_c1 (z_vi (by decide : (Int8.ofInt 8).toInt32 = Int32.ofInt 8)) rfl)) rfl) ?_
          obtain ⟨r27, m27, hs27, hIm27, z_27, p9_27, kN_27⟩ := S_X10_emit zn (d + 4) hN hC 8 0 m15 hIm15 (by omega) (by omega) (by omega) (by omega)
          refine zW.step (st1 := (82, [(some (.ref 10)), (some (.int (Int32.ofInt Lv))), (some (.int (Int32.ofInt x2))), (some (.int (Int32.ofInt r5)))], [.int (Int32.ofInt r27)], zk c m27)) ⟨[zc (some (.int (Int32.ofInt r27))) (zk c m27)], _, rfl, ⟨⟨⟨(Nat.lt_of_lt_of_le (Nat.le_of_ble_eq_true rfl) hN), (Nat.le_of_ble_eq_true rfl)⟩, hs27, (Nat.le_of_ble_eq_true rfl), Nat.le_refl _, Nat.le_refl _, Nat.le_refl _, Nat.le_refl _⟩, trivial⟩⟩ rfl ?_
          have f28 : (0 : Int) ≤ m27 1 1 ∧ m27 1 1 ≤ 240 := hIm27.1 1 1
          have f29 : (0 : Int) ≤ m27 1 2 ∧ m27 1 2 ≤ 240 := hIm27.1 1 2
          have f30 : (0 : Int) ≤ m27 10 2 ∧ m27 10 2 ≤ 240 := hIm27.1 10 2
          have tk31 : zN m0 m27 := zN_tr tk19 kN_27
          refine zW.step (st1 := (12, [(some (.ref 10)), (some (.int (Int32.ofInt Lv))), (some (.int ((Int32.ofInt x2) + Int32.ofInt 1))), (some (.int (Int32.ofInt r5)))], [], zk c m27)) (st2 := (12, [(some (.ref 10)), (some (.int (Int32.ofInt Lv))), (some (.int (Int32.ofInt (x2 + 1)))), (some (.int (Int32.ofInt r5)))], [], zk c m27)) ⟨[zo, zo, zo], _, rfl, ⟨trivial, trivial, trivial, trivial⟩⟩ (z_steq (z_c1 rfl (z_c1 rfl (z_c1 (z_si (zi_add rfl rfl)) rfl))) rfl rfl) ?_
          exact ih _ (by omega) (x2 + 1) (some (.int (Int32.ofInt r5))) m27 hIm27 (by omega) (by omega) (by omega) tk31 rfl
    · refine zW.step (st1 := (33, [(some (.ref 10)), (some (.int (Int32.ofInt Lv))), (some (.int (Int32.ofInt x2))), (some (.int (Int32.ofInt r5)))], [], zk c m5)) (st2 := (33, [(some (.ref 10)), (some (.int (Int32.ofInt Lv))), (some (.int (Int32.ofInt x2))), (some (.int (Int32.ofInt r5)))], [], zk c m5)) ⟨[zo, zo, zo, zo], _, rfl, ⟨trivial, trivial, trivial, zbf (fun q => b10 ((zi_eq rfl (by decide : (Int8.ofInt 42).toInt32 = Int32.ofInt 42) (by unfold zR; omega) (⟨by decide, by decide⟩ : zR 42)).mp q)), trivial⟩⟩ rfl ?_
      by_cases b32 : r5 = 47
      · refine zW.step (st1 := (41, [(some (.ref 10)), (some (.int (Int32.ofInt Lv))), (some (.int (Int32.ofInt x2))), (some (.int (Int32.ofInt r5)))], [], zk c m5)) (st2 := (41, [(some (.ref 10)), (some (.int (Int32.ofInt Lv))), (some (.int (Int32.ofInt x2))), (some (.int (Int32.ofInt r5)))], [], zk c m5)) ⟨[zo, zo, zt], _, rfl, ⟨trivial, trivial, zbt ((zi_eq rfl (by decide : (Int8.ofInt 47).toInt32 = Int32.ofInt 47) (by unfold zR; omega) (⟨by decide, by decide⟩ : zR 47)).mpr b32), trivial⟩⟩ rfl ?_
        obtain ⟨m33, hm33⟩ : ∃ q, q = zm_up m5 1 2 ((m5 1 2) + 1) := ⟨_, rfl⟩
        have hIm33 : zI c mM m33 := by rw [hm33]; exact zI_up hIm5 (by unfold zOk; decide) (show (0 : Int) ≤ ((m5 1 2) + 1) ∧ ((m5 1 2) + 1) ≤ 240 by omega)
        have em33 : m33 1 2 = ((m5 1 2) + 1) := by rw [hm33]; exact zm_eq
        have f34 : m33 1 1 = m5 1 1 := by rw [hm33]; exact zm_ne (by omega)
        have f35 : m33 10 2 = m5 10 2 := by rw [hm33]; exact zm_ne (by omega)
        have tk36 : zN m0 m33 := by rw [hm33]; exact zN_up tk9 (by unfold zRow; omega)
        clear tk9
        refine zW.step (st1 := (54, [(some (.ref 10)), (some (.int (Int32.ofInt Lv))), (some (.int (Int32.ofInt x2))), (some (.int (Int32.ofInt r5)))], [], z_hup (zk c m5) 1 (.inr (8, [.ref 2, .int (Int32.ofInt (m5 1 1)), .int ((Int32.ofInt (m5 1 2)) + (Int32.ofInt 1)), .int (Int32.ofInt (m5 1 3))])))) (st2 := (54, [(some (.ref 10)), (some (.int (Int32.ofInt Lv))), (some (.int (Int32.ofInt x2))), (some (.int (Int32.ofInt r5)))], [], zk c m33)) ⟨[zo, zo, zo, zo, zo, zo, zo], _, rfl, ⟨trivial, (Nat.lt_of_lt_of_le (Nat.le_of_ble_eq_true rfl) hN), trivial, (Nat.lt_of_lt_of_le (Nat.le_of_ble_eq_true rfl) hN), trivial, trivial, ⟨(Nat.lt_of_lt_of_le (Nat.le_of_ble_eq_true rfl) hN), rfl, rfl⟩, trivial⟩⟩ (z_steq rfl rfl ((zk_up c m5 1 2 ((m5 1 2) + 1) _ ((congrArg (fun q => (.inr (8, [.ref 2, .int (Int32.ofInt (m5 1 1)), .int q, .int (Int32.ofInt (m5 1 3))]) : z_E)) (zi_add rfl rfl)).trans rfl)).trans (by rw [hm33]))) ?_
        refine zW.step (st1 := (56, [(some (.ref 10)), (some (.int (Int32.ofInt Lv))), (some (.int (Int32.ofInt x2))), (some (.int (Int32.ofInt r5)))], [.int (Int32.ofInt Lv), .ref 10], zk c m33)) (st2 := (56, [(some (.ref 10)), (some (.int (Int32.ofInt Lv))), (some (.int (Int32.ofInt x2))), (some (.int (Int32.ofInt r5)))], [.int (Int32.ofInt Lv), .ref 10], zk c m33)) ⟨[zo, zo], _, rfl, ⟨trivial, trivial, trivial⟩⟩ rfl ?_
        obtain ⟨r37, m37, hs37, hIm37, z_37, p9_37, kN_37⟩ := h_atom m33 hIm33
        refine zW.step (st1 := (59, [(some (.ref 10)), (some (.int (Int32.ofInt Lv))), (some (.int (Int32.ofInt x2))), (some (.int (Int32.ofInt r5)))], [.int (Int32.ofInt r37)], zk c m37)) ⟨[zc (some (.int (Int32.ofInt r37))) (zk c m37)], _, rfl, ⟨⟨⟨(Nat.lt_of_lt_of_le (Nat.le_of_ble_eq_true rfl) hN), (Nat.le_of_ble_eq_true rfl)⟩, hs37, (Nat.le_of_ble_eq_true rfl), Nat.le_refl _, Nat.le_refl _, Nat.le_refl _, Nat.le_refl _⟩, trivial⟩⟩ rfl ?_
        have f38 : (0 : Int) ≤ m37 1 1 ∧ m37 1 1 ≤ 240 := hIm37.1 1 1
        have f39 : (0 : Int) ≤ m37 1 2 ∧ m37 1 2 ≤ 240 := hIm37.1 1 2
        have f40 : (0 : Int) ≤ m37 10 2 ∧ m37 10 2 ≤ 240 := hIm37.1 10 2
        have tk41 : zN m0 m37 := zN_tr tk36 kN_37
        by_cases b42 : r37 = 0
        · refine zW.step (st1 := (62, [(some (.ref 10)), (some (.int (Int32.ofInt Lv))), (some (.int (Int32.ofInt x2))), (some (.int (Int32.ofInt r5)))], [], zk c m37)) (st2 := (62, [(some (.ref 10)), (some (.int (Int32.ofInt Lv))), (some (.int (Int32.ofInt x2))), (some (.int (Int32.ofInt r5)))], [], zk c m37)) ⟨[zo], _, rfl, ⟨zbf (fun q => q ((zi_eq rfl (rfl : (0 : Int32) = Int32.ofInt 0) (by unfold zR; omega) (⟨by decide, by decide⟩ : zR 0)).mpr b42)), trivial⟩⟩ rfl ?_
          refine zW.step (st1 := (63, [(some (.ref 10)), (some (.int (Int32.ofInt Lv))), (some (.int (Int32.ofInt x2))), (some (.int (Int32.ofInt r5)))], [.int (Int32.ofInt 0)], zk c m37)) (st2 := (63, [(some (.ref 10)), (some (.int (Int32.ofInt Lv))), (some (.int (Int32.ofInt x2))), (some (.int (Int32.ofInt r5)))], [.int (Int32.ofInt 0)], zk c m37)) ⟨[zo], _, rfl, ⟨trivial, trivial⟩⟩ rfl ?_
          exact zW.fin (zfin_i rfl rfl rfl) (KR _ _ ⟨0, m37, rfl, rfl, hIm37, (by omega), (by omega), tk41⟩)
        · refine zW.step (st1 := (64, [(some (.ref 10)), (some (.int (Int32.ofInt Lv))), (some (.int (Int32.ofInt x2))), (some (.int (Int32.ofInt r5)))], [], zk c m37)) (st2 := (64, [(some (.ref 10)), (some (.int (Int32.ofInt Lv))), (some (.int (Int32.ofInt x2))), (some (.int (Int32.ofInt r5)))], [], zk c m37)) ⟨[zt], _, rfl, ⟨zbt (fun q => b42 ((zi_eq rfl (rfl : (0 : Int32) = Int32.ofInt 0) (by unfold zR; omega) (⟨by decide, by decide⟩ : zR 0)).mp q)), trivial⟩⟩ rfl ?_
          by_cases b43 : r5 = 42
          · refine zW.step (st1 := (71, [(some (.ref 10)), (some (.int (Int32.ofInt Lv))), (some (.int (Int32.ofInt x2))), (some (.int (Int32.ofInt r5)))], [.ref 10], zk c m37)) (st2 := (71, [(some (.ref 10)), (some (.int (Int32.ofInt Lv))), (some (.int (Int32.ofInt x2))), (some (.int (Int32.ofInt r5)))], [.ref 10], zk c m37)) ⟨[zo, zo, zo, zo], _, rfl, ⟨trivial, trivial, trivial, zbf (fun q => q ((zi_eq rfl (by decide : (Int8.ofInt 42).toInt32 = Int32.ofInt 42) (by unfold zR; omega) (⟨by decide, by decide⟩ : zR 42)).mpr b43)), trivial⟩⟩ rfl ?_
            refine zW.step (st1 := (79, [(some (.ref 10)), (some (.int (Int32.ofInt Lv))), (some (.int (Int32.ofInt x2))), (some (.int (Int32.ofInt r5)))], [.int (Int32.ofInt 0), .int ((Int8.ofInt 7).toInt32), .ref 10], zk c m37)) (st2 := (79, [(some (.ref 10)), (some (.int (Int32.ofInt Lv))), (some (.int (Int32.ofInt x2))), (some (.int (Int32.ofInt r5)))], [.int (Int32.ofInt 0), .int (Int32.ofInt 7), .ref 10], zk c m37)) ⟨[zo, zo, zo], _, rfl, ⟨trivial, trivial, trivial, trivial⟩⟩ (z_steq rfl (z_c1 rfl (z_c1 (z_vi (by decide : (Int8.ofInt 7).toInt32 = Int32.ofInt 7)) rfl)) rfl) ?_
            obtain ⟨r44, m44, hs44, hIm44, z_44, p9_44, kN_44⟩ := S_X10_emit zn (d + 4) hN hC 7 0 m37 hIm37 (by omega) (by omega) (by omega) (by omega)
            refine zW.step (st1 := (82, [(some (.ref 10)), (some (.int (Int32.ofInt Lv))), (some (.int (Int32.ofInt x2))), (some (.int (Int32.ofInt r5)))], [.int (Int32.ofInt r44)], zk c m44)) ⟨[zc (some (.int (Int32.ofInt r44))) (zk c m44)], _, rfl, ⟨⟨⟨(Nat.lt_of_lt_of_le (Nat.le_of_ble_eq_true rfl) hN), (Nat.le_of_ble_eq_true rfl)⟩, hs44, (Nat.le_of_ble_eq_true rfl), Nat.le_refl _, Nat.le_refl _, Nat.le_refl _, Nat.le_refl _⟩, trivial⟩⟩ rfl ?_
            have f45 : (0 : Int) ≤ m44 1 1 ∧ m44 1 1 ≤ 240 := hIm44.1 1 1
            have f46 : (0 : Int) ≤ m44 1 2 ∧ m44 1 2 ≤ 240 := hIm44.1 1 2
            have f47 : (0 : Int) ≤ m44 10 2 ∧ m44 10 2 ≤ 240 := hIm44.1 10 2
            have tk48 : zN m0 m44 := zN_tr tk41 kN_44
            refine zW.step (st1 := (12, [(some (.ref 10)), (some (.int (Int32.ofInt Lv))), (some (.int ((Int32.ofInt x2) + Int32.ofInt 1))), (some (.int (Int32.ofInt r5)))], [], zk c m44)) (st2 := (12, [(some (.ref 10)), (some (.int (Int32.ofInt Lv))), (some (.int (Int32.ofInt (x2 + 1)))), (some (.int (Int32.ofInt r5)))], [], zk c m44)) ⟨[zo, zo, zo], _, rfl, ⟨trivial, trivial, trivial, trivial⟩⟩ (z_steq (z_c1 rfl (z_c1 rfl (z_c1 (z_si (zi_add rfl rfl)) rfl))) rfl rfl) ?_
            exact ih _ (by omega) (x2 + 1) (some (.int (Int32.ofInt r5))) m44 hIm44 (by omega) (by omega) (by omega) tk48 rfl
          · refine zW.step (st1 := (76, [(some (.ref 10)), (some (.int (Int32.ofInt Lv))), (some (.int (Int32.ofInt x2))), (some (.int (Int32.ofInt r5)))], [.ref 10], zk c m37)) (st2 := (76, [(some (.ref 10)), (some (.int (Int32.ofInt Lv))), (some (.int (Int32.ofInt x2))), (some (.int (Int32.ofInt r5)))], [.ref 10], zk c m37)) ⟨[zo, zo, zo, zt], _, rfl, ⟨trivial, trivial, trivial, zbt (fun q => b43 ((zi_eq rfl (by decide : (Int8.ofInt 42).toInt32 = Int32.ofInt 42) (by unfold zR; omega) (⟨by decide, by decide⟩ : zR 42)).mp q)), trivial⟩⟩ rfl ?_
            refine zW.step (st1 := (79, [(some (.ref 10)), (some (.int (Int32.ofInt Lv))), (some (.int (Int32.ofInt x2))), (some (.int (Int32.ofInt r5)))], [.int (Int32.ofInt 0), .int ((Int8.ofInt 8).toInt32), .ref 10], zk c m37)) (st2 := (79, [(some (.ref 10)), (some (.int (Int32.ofInt Lv))), (some (.int (Int32.ofInt x2))), (some (.int (Int32.ofInt r5)))], [.int (Int32.ofInt 0), .int (Int32.ofInt 8), .ref 10], zk c m37)) ⟨[zo, zo], _, rfl, ⟨trivial, trivial, trivial⟩⟩ (z_steq rfl (z_c1 rfl (z_c1 (z_vi (by decide : (Int8.ofInt 8).toInt32 = Int32.ofInt 8)) rfl)) rfl) ?_
            obtain ⟨r49, m49, hs49, hIm49, z_49, p9_49, kN_49⟩ := S_X10_emit zn (d + 4) hN hC 8 0 m37 hIm37 (by omega) (by omega) (by omega) (by omega)
            refine zW.step (st1 := (82, [(some (.ref 10)), (some (.int (Int32.ofInt Lv))), (some (.int (Int32.ofInt x2))), (some (.int (Int32.ofInt r5)))], [.int (Int32.ofInt r49)], zk c m49)) ⟨[zc (some (.int (Int32.ofInt r49))) (zk c m49)], _, rfl, ⟨⟨⟨(Nat.lt_of_lt_of_le (Nat.le_of_ble_eq_true rfl) hN), (Nat.le_of_ble_eq_true rfl)⟩, hs49, (Nat.le_of_ble_eq_true rfl), Nat.le_refl _, Nat.le_refl _, Nat.le_refl _, Nat.le_refl _⟩, trivial⟩⟩ rfl ?_
            have f50 : (0 : Int) ≤ m49 1 1 ∧ m49 1 1 ≤ 240 := hIm49.1 1 1
            have f51 : (0 : Int) ≤ m49 1 2 ∧ m49 1 2 ≤ 240 := hIm49.1 1 2
            have f52 : (0 : Int) ≤ m49 10 2 ∧ m49 10 2 ≤ 240 := hIm49.1 10 2
            have tk53 : zN m0 m49 := zN_tr tk41 kN_49
            refine zW.step (st1 := (12, [(some (.ref 10)), (some (.int (Int32.ofInt Lv))), (some (.int ((Int32.ofInt x2) + Int32.ofInt 1))), (some (.int (Int32.ofInt r5)))], [], zk c m49)) (st2 := (12, [(some (.ref 10)), (some (.int (Int32.ofInt Lv))), (some (.int (Int32.ofInt (x2 + 1)))), (some (.int (Int32.ofInt r5)))], [], zk c m49)) ⟨[zo, zo, zo], _, rfl, ⟨trivial, trivial, trivial, trivial⟩⟩ (z_steq (z_c1 rfl (z_c1 rfl (z_c1 (z_si (zi_add rfl rfl)) rfl))) rfl rfl) ?_
            exact ih _ (by omega) (x2 + 1) (some (.int (Int32.ofInt r5))) m49 hIm49 (by omega) (by omega) (by omega) tk53 rfl
      · refine zW.step (st1 := (39, [(some (.ref 10)), (some (.int (Int32.ofInt Lv))), (some (.int (Int32.ofInt x2))), (some (.int (Int32.ofInt r5)))], [], zk c m5)) (st2 := (39, [(some (.ref 10)), (some (.int (Int32.ofInt Lv))), (some (.int (Int32.ofInt x2))), (some (.int (Int32.ofInt r5)))], [], zk c m5)) ⟨[zo, zo, zo], _, rfl, ⟨trivial, trivial, zbf (fun q => b32 ((zi_eq rfl (by decide : (Int8.ofInt 47).toInt32 = Int32.ofInt 47) (by unfold zR; omega) (⟨by decide, by decide⟩ : zR 47)).mp q)), trivial⟩⟩ rfl ?_
        refine zW.step (st1 := (40, [(some (.ref 10)), (some (.int (Int32.ofInt Lv))), (some (.int (Int32.ofInt x2))), (some (.int (Int32.ofInt r5)))], [.int (Int32.ofInt 1)], zk c m5)) (st2 := (40, [(some (.ref 10)), (some (.int (Int32.ofInt Lv))), (some (.int (Int32.ofInt x2))), (some (.int (Int32.ofInt r5)))], [.int (Int32.ofInt 1)], zk c m5)) ⟨[zo], _, rfl, ⟨trivial, trivial⟩⟩ rfl ?_
        exact zW.fin (zfin_i rfl rfl rfl) (KR _ _ ⟨1, m5, rfl, rfl, hIm5, (by omega), (by omega), tk9⟩)

set_option maxRecDepth 100000 in
set_option maxHeartbeats 4000000 in
theorem S_X10_term_G (zn : Bool) (d : Nat) {c : Nat × Nat} {mM : zM} (hN : 107 ≤ c.1) (hC : c.1 < z_RO) (Lv : Int) (h_atom : ∀ (m : zM) (hIm : zI c mM m), zCi zn (d + 5) 115 [.ref 10, .int (Int32.ofInt Lv)] c m (fun (r : Int) (m1 : zM) => zI c mM m1 ∧ (0 ≤ r ∧ r ≤ 1) ∧ (m1 10 2 - m1 1 2 ≤ m 10 2 - m 1 2) ∧ zN m m1)) (m : zM) (hIm : zI c mM m) (hLv : 0 ≤ Lv ∧ Lv ≤ 6) : zCi zn (d + 6) 123 [.ref 10, .int (Int32.ofInt Lv)] c m (fun (r : Int) (m1 : zM) => zI c mM m1 ∧ (0 ≤ r ∧ r ≤ 1) ∧ (m1 10 2 - m1 1 2 ≤ m 10 2 - m 1 2) ∧ zN m m1) := by
  refine zCi.of zu_X10_term hC (Nat.le_of_ble_eq_true rfl) ?_
  show zW zn (d + 5) 123 c (0, [(some (.ref 10)), (some (.int (Int32.ofInt Lv))), none, none], [], zk c m) (fun v h1 => ∃ (r : Int) (m1 : zM), v = some (.int (Int32.ofInt r)) ∧ h1 = zk c m1 ∧ zI c mM m1 ∧ (0 ≤ r ∧ r ≤ 1) ∧ (m1 10 2 - m1 1 2 ≤ m 10 2 - m 1 2) ∧ zN m m1)
  have f54 : (0 : Int) ≤ m 1 1 ∧ m 1 1 ≤ 240 := hIm.1 1 1
  have f55 : (0 : Int) ≤ m 1 2 ∧ m 1 2 ≤ 240 := hIm.1 1 2
  have f56 : (0 : Int) ≤ m 10 2 ∧ m 10 2 ≤ 240 := hIm.1 10 2
  refine zW.step (st1 := (2, [(some (.ref 10)), (some (.int (Int32.ofInt Lv))), none, none], [.int (Int32.ofInt Lv), .ref 10], zk c m)) (st2 := (2, [(some (.ref 10)), (some (.int (Int32.ofInt Lv))), none, none], [.int (Int32.ofInt Lv), .ref 10], zk c m)) ⟨[zo, zo], _, rfl, ⟨trivial, trivial, trivial⟩⟩ rfl ?_
  obtain ⟨r57, m57, hs57, hIm57, z_57, p9_57, kN_57⟩ := h_atom m hIm
  refine zW.step (st1 := (5, [(some (.ref 10)), (some (.int (Int32.ofInt Lv))), none, none], [.int (Int32.ofInt r57)], zk c m57)) ⟨[zc (some (.int (Int32.ofInt r57))) (zk c m57)], _, rfl, ⟨⟨⟨(Nat.lt_of_lt_of_le (Nat.le_of_ble_eq_true rfl) hN), (Nat.le_of_ble_eq_true rfl)⟩, hs57, (Nat.le_of_ble_eq_true rfl), Nat.le_refl _, Nat.le_refl _, Nat.le_refl _, Nat.le_refl _⟩, trivial⟩⟩ rfl ?_
  have f58 : (0 : Int) ≤ m57 1 1 ∧ m57 1 1 ≤ 240 := hIm57.1 1 1
  have f59 : (0 : Int) ≤ m57 1 2 ∧ m57 1 2 ≤ 240 := hIm57.1 1 2
  have f60 : (0 : Int) ≤ m57 10 2 ∧ m57 10 2 ≤ 240 := hIm57.1 10 2
  have tk61 : zN m m57 := zN_tr zN_rf kN_57
  by_cases b62 : r57 = 0
  · refine zW.step (st1 := (8, [(some (.ref 10)), (some (.int (Int32.ofInt Lv))), none, none], [], zk c m57)) (st2 := (8, [(some (.ref 10)), (some (.int (Int32.ofInt Lv))), none, none], [], zk c m57)) ⟨[zo], _, rfl, ⟨zbf (fun q => q ((zi_eq rfl (rfl : (0 : Int32) = Int32.ofInt 0) (by unfold zR; omega) (⟨by decide, by decide⟩ : zR 0)).mpr b62)), trivial⟩⟩ rfl ?_
    refine zW.step (st1 := (9, [(some (.ref 10)), (some (.int (Int32.ofInt Lv))), none, none], [.int (Int32.ofInt 0)], zk c m57)) (st2 := (9, [(some (.ref 10)), (some (.int (Int32.ofInt Lv))), none, none], [.int (Int32.ofInt 0)], zk c m57)) ⟨[zo], _, rfl, ⟨trivial, trivial⟩⟩ rfl ?_
    exact zW.fin (zfin_i rfl rfl rfl) ⟨0, m57, rfl, rfl, hIm57, (by omega), (by omega), tk61⟩
  · refine zW.step (st1 := (10, [(some (.ref 10)), (some (.int (Int32.ofInt Lv))), none, none], [], zk c m57)) (st2 := (10, [(some (.ref 10)), (some (.int (Int32.ofInt Lv))), none, none], [], zk c m57)) ⟨[zt], _, rfl, ⟨zbt (fun q => b62 ((zi_eq rfl (rfl : (0 : Int32) = Int32.ofInt 0) (by unfold zR; omega) (⟨by decide, by decide⟩ : zR 0)).mp q)), trivial⟩⟩ rfl ?_
    refine zW.step (st1 := (12, [(some (.ref 10)), (some (.int (Int32.ofInt Lv))), (some (.int (Int32.ofInt 0))), none], [], zk c m57)) (st2 := (12, [(some (.ref 10)), (some (.int (Int32.ofInt Lv))), (some (.int (Int32.ofInt 0))), none], [], zk c m57)) ⟨[zo, zo], _, rfl, ⟨trivial, trivial, trivial⟩⟩ rfl ?_
    refine L_X10_term_G_12 zn _ hN hC Lv h_atom hLv m _ (fun v9 h9 hq9 => hq9) (fun x2_63 o3_63 m_63 hIm_63 i1_63 pt_63 hLw_63 tN_63 => ?_) _ 0 none m57 hIm57 (by omega) (by omega) (by omega) tk61 rfl
    have f64 : (0 : Int) ≤ m_63 1 1 ∧ m_63 1 1 ≤ 240 := hIm_63.1 1 1
    have f65 : (0 : Int) ≤ m_63 1 2 ∧ m_63 1 2 ≤ 240 := hIm_63.1 1 2
    have f66 : (0 : Int) ≤ m_63 10 2 ∧ m_63 10 2 ≤ 240 := hIm_63.1 10 2
    refine zW.step (st1 := (90, [(some (.ref 10)), (some (.int (Int32.ofInt Lv))), (some (.int (Int32.ofInt x2_63))), o3_63], [.int (Int32.ofInt 0)], zk c m_63)) (st2 := (90, [(some (.ref 10)), (some (.int (Int32.ofInt Lv))), (some (.int (Int32.ofInt x2_63))), o3_63], [.int (Int32.ofInt 0)], zk c m_63)) ⟨[zo], _, rfl, ⟨trivial, trivial⟩⟩ rfl ?_
    exact zW.fin (zfin_i rfl rfl rfl) ⟨0, m_63, rfl, rfl, hIm_63, (by omega), (by omega), tN_63⟩

set_option maxRecDepth 100000 in
set_option maxHeartbeats 4000000 in
theorem S_X10_atom_G (zn : Bool) (d : Nat) {c : Nat × Nat} {mM : zM} (hN : 107 ≤ c.1) (hC : c.1 < z_RO) (Lv : Int) (h_sum : Lv ≤ 5 → ∀ (m : zM) (hIm : zI c mM m), zCi zn (d + 4) 122 [.ref 10, .int (Int32.ofInt (Lv + 1))] c m (fun (r : Int) (m1 : zM) => zI c mM m1 ∧ (0 ≤ r ∧ r ≤ 1) ∧ (m1 10 2 - m1 1 2 ≤ m 10 2 - m 1 2) ∧ zN m m1)) (m : zM) (hIm : zI c mM m) (hLv : 0 ≤ Lv ∧ Lv ≤ 6) : zCi zn (d + 5) 115 [.ref 10, .int (Int32.ofInt Lv)] c m (fun (r : Int) (m1 : zM) => zI c mM m1 ∧ (0 ≤ r ∧ r ≤ 1) ∧ (m1 10 2 - m1 1 2 ≤ m 10 2 - m 1 2) ∧ zN m m1) := by
  refine zCi.of zu_X10_atom hC (Nat.le_of_ble_eq_true rfl) ?_
  show zW zn (d + 4) 115 c (0, [(some (.ref 10)), (some (.int (Int32.ofInt Lv))), none, none], [], zk c m) (fun v h1 => ∃ (r : Int) (m1 : zM), v = some (.int (Int32.ofInt r)) ∧ h1 = zk c m1 ∧ zI c mM m1 ∧ (0 ≤ r ∧ r ≤ 1) ∧ (m1 10 2 - m1 1 2 ≤ m 10 2 - m 1 2) ∧ zN m m1)
  have f1 : (0 : Int) ≤ m 1 1 ∧ m 1 1 ≤ 240 := hIm.1 1 1
  have f2 : (0 : Int) ≤ m 1 2 ∧ m 1 2 ≤ 240 := hIm.1 1 2
  have f3 : (0 : Int) ≤ m 10 2 ∧ m 10 2 ≤ 240 := hIm.1 10 2
  refine zW.step (st1 := (4, [(some (.ref 10)), (some (.int (Int32.ofInt Lv))), none, none], [.ref 1], zk c m)) (st2 := (4, [(some (.ref 10)), (some (.int (Int32.ofInt Lv))), none, none], [.ref 1], zk c m)) ⟨[zo, zo], _, rfl, ⟨trivial, (Nat.lt_of_lt_of_le (Nat.le_of_ble_eq_true rfl) hN), trivial⟩⟩ rfl ?_
  obtain ⟨r4, m4, hs4, hIm4, z_4, q_4, l_4, a9_4, r9_4, p9_4, n9_4, c3_4, e2_4, v9_4, kN_4⟩ := S_X8_next zn (d + 2) hN hC m hIm
  refine zW.step (st1 := (7, [(some (.ref 10)), (some (.int (Int32.ofInt Lv))), none, none], [.int (Int32.ofInt r4)], zk c m4)) ⟨[zc (some (.int (Int32.ofInt r4))) (zk c m4)], _, rfl, ⟨⟨⟨(Nat.lt_of_lt_of_le (Nat.le_of_ble_eq_true rfl) hN), (Nat.le_of_ble_eq_true rfl)⟩, hs4, (Nat.le_of_ble_eq_true rfl), Nat.le_refl _, Nat.le_refl _, Nat.le_refl _, Nat.le_refl _⟩, trivial⟩⟩ rfl ?_
  have f5 : (0 : Int) ≤ m4 1 1 ∧ m4 1 1 ≤ 240 := hIm4.1 1 1
  have f6 : (0 : Int) ≤ m4 1 2 ∧ m4 1 2 ≤ 240 := hIm4.1 1 2
  have f7 : (0 : Int) ≤ m4 10 2 ∧ m4 10 2 ≤ 240 := hIm4.1 10 2
  have tk8 : zN m m4 := zN_tr zN_rf kN_4
  by_cases b9 : r4 = 91
  · refine zW.step (st1 := (14, [(some (.ref 10)), (some (.int (Int32.ofInt Lv))), (some (.int (Int32.ofInt r4))), none], [], zk c m4)) (st2 := (14, [(some (.ref 10)), (some (.int (Int32.ofInt Lv))), (some (.int (Int32.ofInt r4))), none], [], zk c m4)) ⟨[zo, zo, zo, zo], _, rfl, ⟨trivial, trivial, trivial, zbf (fun q => q ((zi_eq rfl (by decide : (Int8.ofInt 91).toInt32 = Int32.ofInt 91) (by unfold zR; omega) (⟨by decide, by decide⟩ : zR 91)).mpr b9)), trivial⟩⟩ rfl ?_
    by_cases b10 : Lv = 6
    · refine zW.step (st1 := (20, [(some (.ref 10)), (some (.int (Int32.ofInt Lv))), (some (.int (Int32.ofInt r4))), none], [], zk c m4)) (st2 := (20, [(some (.ref 10)), (some (.int (Int32.ofInt Lv))), (some (.int (Int32.ofInt r4))), none], [], zk c m4)) ⟨[zo, zo, zo], _, rfl, ⟨trivial, trivial, zbf (fun q => q ((zi_eq rfl (by decide : (Int8.ofInt 6).toInt32 = Int32.ofInt 6) (by unfold zR; omega) (⟨by decide, by decide⟩ : zR 6)).mpr b10)), trivial⟩⟩ rfl ?_
      refine zW.step (st1 := (21, [(some (.ref 10)), (some (.int (Int32.ofInt Lv))), (some (.int (Int32.ofInt r4))), none], [.int (Int32.ofInt 0)], zk c m4)) (st2 := (21, [(some (.ref 10)), (some (.int (Int32.ofInt Lv))), (some (.int (Int32.ofInt r4))), none], [.int (Int32.ofInt 0)], zk c m4)) ⟨[zo], _, rfl, ⟨trivial, trivial⟩⟩ rfl ?_
      exact zW.fin (zfin_i rfl rfl rfl) ⟨0, m4, rfl, rfl, hIm4, (by omega), (by omega), tk8⟩
    · refine zW.step (st1 := (22, [(some (.ref 10)), (some (.int (Int32.ofInt Lv))), (some (.int (Int32.ofInt r4))), none], [], zk c m4)) (st2 := (22, [(some (.ref 10)), (some (.int (Int32.ofInt Lv))), (some (.int (Int32.ofInt r4))), none], [], zk c m4)) ⟨[zo, zo, zt], _, rfl, ⟨trivial, trivial, zbt (fun q => b10 ((zi_eq rfl (by decide : (Int8.ofInt 6).toInt32 = Int32.ofInt 6) (by unfold zR; omega) (⟨by decide, by decide⟩ : zR 6)).mp q)), trivial⟩⟩ rfl ?_
      obtain ⟨m11, hm11⟩ : ∃ q, q = zm_up m4 1 2 ((m4 1 2) + 1) := ⟨_, rfl⟩
      have hIm11 : zI c mM m11 := by rw [hm11]; exact zI_up hIm4 (by unfold zOk; decide) (show (0 : Int) ≤ ((m4 1 2) + 1) ∧ ((m4 1 2) + 1) ≤ 240 by omega)
      have em11 : m11 1 2 = ((m4 1 2) + 1) := by rw [hm11]; exact zm_eq
      have f12 : m11 1 1 = m4 1 1 := by rw [hm11]; exact zm_ne (by omega)
      have f13 : m11 10 2 = m4 10 2 := by rw [hm11]; exact zm_ne (by omega)
      have tk14 : zN m m11 := by rw [hm11]; exact zN_up tk8 (by unfold zRow; omega)
      clear tk8
      refine zW.step (st1 := (35, [(some (.ref 10)), (some (.int (Int32.ofInt Lv))), (some (.int (Int32.ofInt r4))), none], [], z_hup (zk c m4) 1 (.inr (8, [.ref 2, .int (Int32.ofInt (m4 1 1)), .int ((Int32.ofInt (m4 1 2)) + (Int32.ofInt 1)), .int (Int32.ofInt (m4 1 3))])))) (st2 := (35, [(some (.ref 10)), (some (.int (Int32.ofInt Lv))), (some (.int (Int32.ofInt r4))), none], [], zk c m11)) ⟨[zo, zo, zo, zo, zo, zo, zo], _, rfl, ⟨trivial, (Nat.lt_of_lt_of_le (Nat.le_of_ble_eq_true rfl) hN), trivial, (Nat.lt_of_lt_of_le (Nat.le_of_ble_eq_true rfl) hN), trivial, trivial, ⟨(Nat.lt_of_lt_of_le (Nat.le_of_ble_eq_true rfl) hN), rfl, rfl⟩, trivial⟩⟩ (z_steq rfl rfl ((zk_up c m4 1 2 ((m4 1 2) + 1) _ ((congrArg (fun q => (.inr (8, [.ref 2, .int (Int32.ofInt (m4 1 1)), .int q, .int (Int32.ofInt (m4 1 3))]) : z_E)) (zi_add rfl rfl)).trans rfl)).trans (by rw [hm11]))) ?_
      refine zW.step (st1 := (39, [(some (.ref 10)), (some (.int (Int32.ofInt Lv))), (some (.int (Int32.ofInt r4))), none], [.int ((Int32.ofInt Lv) + (Int32.ofInt 1)), .ref 10], zk c m11)) (st2 := (39, [(some (.ref 10)), (some (.int (Int32.ofInt Lv))), (some (.int (Int32.ofInt r4))), none], [.int (Int32.ofInt (Lv + 1)), .ref 10], zk c m11)) ⟨[zo, zo, zo, zo], _, rfl, ⟨trivial, trivial, trivial, trivial, trivial⟩⟩ (z_steq rfl (z_c1 (z_vi (zi_add rfl rfl)) rfl) rfl) ?_
      obtain ⟨r15, m15, hs15, hIm15, z_15, p9_15, kN_15⟩ := h_sum (by omega) m11 hIm11
      refine zW.step (st1 := (42, [(some (.ref 10)), (some (.int (Int32.ofInt Lv))), (some (.int (Int32.ofInt r4))), none], [.int (Int32.ofInt r15)], zk c m15)) ⟨[zc (some (.int (Int32.ofInt r15))) (zk c m15)], _, rfl, ⟨⟨⟨(Nat.lt_of_lt_of_le (Nat.le_of_ble_eq_true rfl) hN), (Nat.le_of_ble_eq_true rfl)⟩, hs15, (Nat.le_of_ble_eq_true rfl), Nat.le_refl _, Nat.le_refl _, Nat.le_refl _, Nat.le_refl _⟩, trivial⟩⟩ rfl ?_
      have f16 : (0 : Int) ≤ m15 1 1 ∧ m15 1 1 ≤ 240 := hIm15.1 1 1
      have f17 : (0 : Int) ≤ m15 1 2 ∧ m15 1 2 ≤ 240 := hIm15.1 1 2
      have f18 : (0 : Int) ≤ m15 10 2 ∧ m15 10 2 ≤ 240 := hIm15.1 10 2
      have tk19 : zN m m15 := zN_tr tk14 kN_15
      by_cases b20 : r15 = 0
      · refine zW.step (st1 := (61, [(some (.ref 10)), (some (.int (Int32.ofInt Lv))), (some (.int (Int32.ofInt r4))), none], [], zk c m15)) (st2 := (61, [(some (.ref 10)), (some (.int (Int32.ofInt Lv))), (some (.int (Int32.ofInt r4))), none], [], zk c m15)) ⟨[zt], _, rfl, ⟨zbt ((zi_eq rfl (rfl : (0 : Int32) = Int32.ofInt 0) (by unfold zR; omega) (⟨by decide, by decide⟩ : zR 0)).mpr b20), trivial⟩⟩ rfl ?_
        refine zW.step (st1 := (62, [(some (.ref 10)), (some (.int (Int32.ofInt Lv))), (some (.int (Int32.ofInt r4))), none], [.int (Int32.ofInt 0)], zk c m15)) (st2 := (62, [(some (.ref 10)), (some (.int (Int32.ofInt Lv))), (some (.int (Int32.ofInt r4))), none], [.int (Int32.ofInt 0)], zk c m15)) ⟨[zo], _, rfl, ⟨trivial, trivial⟩⟩ rfl ?_
        exact zW.fin (zfin_i rfl rfl rfl) ⟨0, m15, rfl, rfl, hIm15, (by omega), (by omega), tk19⟩
      · refine zW.step (st1 := (45, [(some (.ref 10)), (some (.int (Int32.ofInt Lv))), (some (.int (Int32.ofInt r4))), none], [], zk c m15)) (st2 := (45, [(some (.ref 10)), (some (.int (Int32.ofInt Lv))), (some (.int (Int32.ofInt r4))), none], [], zk c m15)) ⟨[zo], _, rfl, ⟨zbf (fun q => b20 ((zi_eq rfl (rfl : (0 : Int32) = Int32.ofInt 0) (by unfold zR; omega) (⟨by decide, by decide⟩ : zR 0)).mp q)), trivial⟩⟩ rfl ?_
        refine zW.step (st1 := (51, [(some (.ref 10)), (some (.int (Int32.ofInt Lv))), (some (.int (Int32.ofInt r4))), none], [.int ((Int8.ofInt 93).toInt32), .ref 1], zk c m15)) (st2 := (51, [(some (.ref 10)), (some (.int (Int32.ofInt Lv))), (some (.int (Int32.ofInt r4))), none], [.int (Int32.ofInt 93), .ref 1], zk c m15)) ⟨[zo, zo, zo], _, rfl, ⟨trivial, (Nat.lt_of_lt_of_le (Nat.le_of_ble_eq_true rfl) hN), trivial, trivial⟩⟩ (z_steq rfl (z_c1 (z_vi (by decide : (Int8.ofInt 93).toInt32 = Int32.ofInt 93)) rfl) rfl) ?_
        obtain ⟨r21, m21, hs21, hIm21, z_21, l_21, a9_21, q_21, r9_21, p9_21, n9_21, e2_21, kN_21⟩ := S_X8_takes zn (d + 1) hN hC 93 m15 hIm15 (by omega) (by omega)
        refine zW.step (st1 := (54, [(some (.ref 10)), (some (.int (Int32.ofInt Lv))), (some (.int (Int32.ofInt r4))), none], [.int (Int32.ofInt r21)], zk c m21)) ⟨[zc (some (.int (Int32.ofInt r21))) (zk c m21)], _, rfl, ⟨⟨⟨(Nat.lt_of_lt_of_le (Nat.le_of_ble_eq_true rfl) hN), (Nat.le_of_ble_eq_true rfl)⟩, hs21, (Nat.le_of_ble_eq_true rfl), Nat.le_refl _, Nat.le_refl _, Nat.le_refl _, Nat.le_refl _⟩, trivial⟩⟩ rfl ?_
        have f22 : (0 : Int) ≤ m21 1 1 ∧ m21 1 1 ≤ 240 := hIm21.1 1 1
        have f23 : (0 : Int) ≤ m21 1 2 ∧ m21 1 2 ≤ 240 := hIm21.1 1 2
        have f24 : (0 : Int) ≤ m21 10 2 ∧ m21 10 2 ≤ 240 := hIm21.1 10 2
        have tk25 : zN m m21 := zN_tr tk19 kN_21
        by_cases b26 : r21 = 0
        · refine zW.step (st1 := (61, [(some (.ref 10)), (some (.int (Int32.ofInt Lv))), (some (.int (Int32.ofInt r4))), none], [], zk c m21)) (st2 := (61, [(some (.ref 10)), (some (.int (Int32.ofInt Lv))), (some (.int (Int32.ofInt r4))), none], [], zk c m21)) ⟨[zt], _, rfl, ⟨zbt ((zi_eq rfl (rfl : (0 : Int32) = Int32.ofInt 0) (by unfold zR; omega) (⟨by decide, by decide⟩ : zR 0)).mpr b26), trivial⟩⟩ rfl ?_
          refine zW.step (st1 := (62, [(some (.ref 10)), (some (.int (Int32.ofInt Lv))), (some (.int (Int32.ofInt r4))), none], [.int (Int32.ofInt 0)], zk c m21)) (st2 := (62, [(some (.ref 10)), (some (.int (Int32.ofInt Lv))), (some (.int (Int32.ofInt r4))), none], [.int (Int32.ofInt 0)], zk c m21)) ⟨[zo], _, rfl, ⟨trivial, trivial⟩⟩ rfl ?_
          exact zW.fin (zfin_i rfl rfl rfl) ⟨0, m21, rfl, rfl, hIm21, (by omega), (by omega), tk25⟩
        · refine zW.step (st1 := (57, [(some (.ref 10)), (some (.int (Int32.ofInt Lv))), (some (.int (Int32.ofInt r4))), none], [], zk c m21)) (st2 := (57, [(some (.ref 10)), (some (.int (Int32.ofInt Lv))), (some (.int (Int32.ofInt r4))), none], [], zk c m21)) ⟨[zo], _, rfl, ⟨zbf (fun q => b26 ((zi_eq rfl (rfl : (0 : Int32) = Int32.ofInt 0) (by unfold zR; omega) (⟨by decide, by decide⟩ : zR 0)).mp q)), trivial⟩⟩ rfl ?_
          refine zW.step (st1 := (62, [(some (.ref 10)), (some (.int (Int32.ofInt Lv))), (some (.int (Int32.ofInt r4))), none], [.int (Int32.ofInt 1)], zk c m21)) (st2 := (62, [(some (.ref 10)), (some (.int (Int32.ofInt Lv))), (some (.int (Int32.ofInt r4))), none], [.int (Int32.ofInt 1)], zk c m21)) ⟨[zo, zo], _, rfl, ⟨trivial, trivial, trivial⟩⟩ rfl ?_
          exact zW.fin (zfin_i rfl rfl rfl) ⟨1, m21, rfl, rfl, hIm21, (by omega), (by omega), tk25⟩
  · refine zW.step (st1 := (63, [(some (.ref 10)), (some (.int (Int32.ofInt Lv))), (some (.int (Int32.ofInt r4))), none], [], zk c m4)) (st2 := (63, [(some (.ref 10)), (some (.int (Int32.ofInt Lv))), (some (.int (Int32.ofInt r4))), none], [], zk c m4)) ⟨[zo, zo, zo, zt], _, rfl, ⟨trivial, trivial, trivial, zbt (fun q => b9 ((zi_eq rfl (by decide : (Int8.ofInt 91).toInt32 = Int32.ofInt 91) (by unfold zR; omega) (⟨by decide, by decide⟩ : zR 91)).mp q)), trivial⟩⟩ rfl ?_
    refine zW.step (st1 := (64, [(some (.ref 10)), (some (.int (Int32.ofInt Lv))), (some (.int (Int32.ofInt r4))), none], [.int (Int32.ofInt r4)], zk c m4)) (st2 := (64, [(some (.ref 10)), (some (.int (Int32.ofInt Lv))), (some (.int (Int32.ofInt r4))), none], [.int (Int32.ofInt r4)], zk c m4)) ⟨[zo], _, rfl, ⟨trivial, trivial⟩⟩ rfl ?_
    obtain ⟨r27, hs27, z_27, q_27⟩ := S_X8_isDigit zn (d + 3) hN hC r4 m4 hIm4 (by omega)
    refine zW.step (st1 := (67, [(some (.ref 10)), (some (.int (Int32.ofInt Lv))), (some (.int (Int32.ofInt r4))), none], [.int (Int32.ofInt r27)], zk c m4)) ⟨[zc (some (.int (Int32.ofInt r27))) (zk c m4)], _, rfl, ⟨⟨(Nat.le_of_ble_eq_true rfl), hs27, (Nat.le_of_ble_eq_true rfl), Nat.le_refl _, Nat.le_refl _, Nat.le_refl _, Nat.le_refl _⟩, trivial⟩⟩ rfl ?_
    by_cases b28 : r27 = 0
    · refine zW.step (st1 := (102, [(some (.ref 10)), (some (.int (Int32.ofInt Lv))), (some (.int (Int32.ofInt r4))), none], [], zk c m4)) (st2 := (102, [(some (.ref 10)), (some (.int (Int32.ofInt Lv))), (some (.int (Int32.ofInt r4))), none], [], zk c m4)) ⟨[zt], _, rfl, ⟨zbt ((zi_eq rfl (rfl : (0 : Int32) = Int32.ofInt 0) (by unfold zR; omega) (⟨by decide, by decide⟩ : zR 0)).mpr b28), trivial⟩⟩ rfl ?_
      by_cases b29 : r4 = (-1)
      · refine zW.step (st1 := (107, [(some (.ref 10)), (some (.int (Int32.ofInt Lv))), (some (.int (Int32.ofInt r4))), none], [], zk c m4)) (st2 := (107, [(some (.ref 10)), (some (.int (Int32.ofInt Lv))), (some (.int (Int32.ofInt r4))), none], [], zk c m4)) ⟨[zo, zo, zo], _, rfl, ⟨trivial, trivial, zbf (fun q => q ((zi_eq rfl rfl (by unfold zR; omega) (⟨by decide, by decide⟩ : zR (-1))).mpr b29)), trivial⟩⟩ rfl ?_
        have b30 : ((-1) : Int) = (-1) := by omega
        refine zW.step (st1 := (124, [(some (.ref 10)), (some (.int (Int32.ofInt Lv))), (some (.int (Int32.ofInt r4))), (some (.int (Int32.ofInt (-1))))], [], zk c m4)) (st2 := (124, [(some (.ref 10)), (some (.int (Int32.ofInt Lv))), (some (.int (Int32.ofInt r4))), (some (.int (Int32.ofInt (-1))))], [], zk c m4)) ⟨[zo, zo, zo, zo, zo, zo], _, rfl, ⟨trivial, trivial, trivial, trivial, trivial, zbf (fun q => q ((zi_eq rfl rfl (⟨by decide, by decide⟩ : zR (-1)) (⟨by decide, by decide⟩ : zR (-1))).mpr b30)), trivial⟩⟩ rfl ?_
        refine zW.step (st1 := (125, [(some (.ref 10)), (some (.int (Int32.ofInt Lv))), (some (.int (Int32.ofInt r4))), (some (.int (Int32.ofInt (-1))))], [.int (Int32.ofInt 0)], zk c m4)) (st2 := (125, [(some (.ref 10)), (some (.int (Int32.ofInt Lv))), (some (.int (Int32.ofInt r4))), (some (.int (Int32.ofInt (-1))))], [.int (Int32.ofInt 0)], zk c m4)) ⟨[zo], _, rfl, ⟨trivial, trivial⟩⟩ rfl ?_
        exact zW.fin (zfin_i rfl rfl rfl) ⟨0, m4, rfl, rfl, hIm4, (by omega), (by omega), tk8⟩
      · refine zW.step (st1 := (111, [(some (.ref 10)), (some (.int (Int32.ofInt Lv))), (some (.int (Int32.ofInt r4))), none], [], zk c m4)) (st2 := (111, [(some (.ref 10)), (some (.int (Int32.ofInt Lv))), (some (.int (Int32.ofInt r4))), none], [], zk c m4)) ⟨[zo, zo, zt], _, rfl, ⟨trivial, trivial, zbt (fun q => b29 ((zi_eq rfl rfl (by unfold zR; omega) (⟨by decide, by decide⟩ : zR (-1))).mp q)), trivial⟩⟩ rfl ?_
        refine zW.step (st1 := (115, [(some (.ref 10)), (some (.int (Int32.ofInt Lv))), (some (.int (Int32.ofInt r4))), none], [.int (((Int32.ofInt r4).toUInt32 % 65536).toInt32), .ref (z_RO + 3)], zk c m4)) (st2 := (115, [(some (.ref 10)), (some (.int (Int32.ofInt Lv))), (some (.int (Int32.ofInt r4))), none], [.int (Int32.ofInt (r4 % 65536)), .ref (z_RO + 3)], zk c m4)) ⟨[zo, zo, zo], _, rfl, ⟨trivial, trivial, trivial, trivial⟩⟩ (z_steq rfl (z_c1 (z_vi (zi_i2c rfl)) rfl) rfl) ?_
        obtain ⟨r31, hs31, q_31⟩ := S_J0_indexOf_0f7a4_3 zn (d + 0) hN hC (r4 % 65536) m4 hIm4 (by omega)
        refine zW.step (st1 := (118, [(some (.ref 10)), (some (.int (Int32.ofInt Lv))), (some (.int (Int32.ofInt r4))), none], [.int (Int32.ofInt r31)], zk c m4)) ⟨[zc (some (.int (Int32.ofInt r31))) (zk c m4)], _, rfl, ⟨⟨(Nat.le_of_ble_eq_true rfl), hs31, (Nat.le_of_ble_eq_true rfl), Nat.le_refl _, Nat.le_refl _, Nat.le_refl _, Nat.le_refl _⟩, trivial⟩⟩ rfl ?_
        by_cases b32 : r31 = (-1)
        · refine zW.step (st1 := (124, [(some (.ref 10)), (some (.int (Int32.ofInt Lv))), (some (.int (Int32.ofInt r4))), (some (.int (Int32.ofInt r31)))], [], zk c m4)) (st2 := (124, [(some (.ref 10)), (some (.int (Int32.ofInt Lv))), (some (.int (Int32.ofInt r4))), (some (.int (Int32.ofInt r31)))], [], zk c m4)) ⟨[zo, zo, zo, zo], _, rfl, ⟨trivial, trivial, trivial, zbf (fun q => q ((zi_eq rfl rfl (by unfold zR; omega) (⟨by decide, by decide⟩ : zR (-1))).mpr b32)), trivial⟩⟩ rfl ?_
          refine zW.step (st1 := (125, [(some (.ref 10)), (some (.int (Int32.ofInt Lv))), (some (.int (Int32.ofInt r4))), (some (.int (Int32.ofInt r31)))], [.int (Int32.ofInt 0)], zk c m4)) (st2 := (125, [(some (.ref 10)), (some (.int (Int32.ofInt Lv))), (some (.int (Int32.ofInt r4))), (some (.int (Int32.ofInt r31)))], [.int (Int32.ofInt 0)], zk c m4)) ⟨[zo], _, rfl, ⟨trivial, trivial⟩⟩ rfl ?_
          exact zW.fin (zfin_i rfl rfl rfl) ⟨0, m4, rfl, rfl, hIm4, (by omega), (by omega), tk8⟩
        · refine zW.step (st1 := (126, [(some (.ref 10)), (some (.int (Int32.ofInt Lv))), (some (.int (Int32.ofInt r4))), (some (.int (Int32.ofInt r31)))], [], zk c m4)) (st2 := (126, [(some (.ref 10)), (some (.int (Int32.ofInt Lv))), (some (.int (Int32.ofInt r4))), (some (.int (Int32.ofInt r31)))], [], zk c m4)) ⟨[zo, zo, zo, zt], _, rfl, ⟨trivial, trivial, trivial, zbt (fun q => b32 ((zi_eq rfl rfl (by unfold zR; omega) (⟨by decide, by decide⟩ : zR (-1))).mp q)), trivial⟩⟩ rfl ?_
          obtain ⟨m33, hm33⟩ : ∃ q, q = zm_up m4 1 2 ((m4 1 2) + 1) := ⟨_, rfl⟩
          have hIm33 : zI c mM m33 := by rw [hm33]; exact zI_up hIm4 (by unfold zOk; decide) (show (0 : Int) ≤ ((m4 1 2) + 1) ∧ ((m4 1 2) + 1) ≤ 240 by omega)
          have em33 : m33 1 2 = ((m4 1 2) + 1) := by rw [hm33]; exact zm_eq
          have f34 : m33 1 1 = m4 1 1 := by rw [hm33]; exact zm_ne (by omega)
          have f35 : m33 10 2 = m4 10 2 := by rw [hm33]; exact zm_ne (by omega)
          have tk36 : zN m m33 := by rw [hm33]; exact zN_up tk8 (by unfold zRow; omega)
          clear tk8
          refine zW.step (st1 := (139, [(some (.ref 10)), (some (.int (Int32.ofInt Lv))), (some (.int (Int32.ofInt r4))), (some (.int (Int32.ofInt r31)))], [], z_hup (zk c m4) 1 (.inr (8, [.ref 2, .int (Int32.ofInt (m4 1 1)), .int ((Int32.ofInt (m4 1 2)) + (Int32.ofInt 1)), .int (Int32.ofInt (m4 1 3))])))) (st2 := (139, [(some (.ref 10)), (some (.int (Int32.ofInt Lv))), (some (.int (Int32.ofInt r4))), (some (.int (Int32.ofInt r31)))], [], zk c m33)) ⟨[zo, zo, zo, zo, zo, zo, zo], _, rfl, ⟨trivial, (Nat.lt_of_lt_of_le (Nat.le_of_ble_eq_true rfl) hN), trivial, (Nat.lt_of_lt_of_le (Nat.le_of_ble_eq_true rfl) hN), trivial, trivial, ⟨(Nat.lt_of_lt_of_le (Nat.le_of_ble_eq_true rfl) hN), rfl, rfl⟩, trivial⟩⟩ (z_steq rfl rfl ((zk_up c m4 1 2 ((m4 1 2) + 1) _ ((congrArg (fun q => (.inr (8, [.ref 2, .int (Int32.ofInt (m4 1 1)), .int q, .int (Int32.ofInt (m4 1 3))]) : z_E)) (zi_add rfl rfl)).trans rfl)).trans (by rw [hm33]))) ?_
          have f37 : (0 : Int) ≤ m33 10 3 ∧ m33 10 3 ≤ 1 := hIm33.1 10 3
          by_cases b38 : r4 = 112
          · refine zW.step (st1 := (150, [(some (.ref 10)), (some (.int (Int32.ofInt Lv))), (some (.int (Int32.ofInt r4))), (some (.int (Int32.ofInt r31)))], [.int (Int32.ofInt (m33 10 3)), .ref 10], zk c m33)) (st2 := (150, [(some (.ref 10)), (some (.int (Int32.ofInt Lv))), (some (.int (Int32.ofInt r4))), (some (.int (Int32.ofInt r31)))], [.int (Int32.ofInt (m33 10 3)), .ref 10], zk c m33)) ⟨[zo, zo, zo, zo, zo, zo], _, rfl, ⟨trivial, trivial, (Nat.lt_of_lt_of_le (Nat.le_of_ble_eq_true rfl) hN), trivial, trivial, zbf (fun q => q ((zi_eq rfl (by decide : (Int8.ofInt 112).toInt32 = Int32.ofInt 112) (by unfold zR; omega) (⟨by decide, by decide⟩ : zR 112)).mpr b38)), trivial⟩⟩ rfl ?_
            have f39 : (0 : Int) ≤ m33 1 1 ∧ m33 1 1 ≤ 240 := hIm33.1 1 1
            have f40 : (0 : Int) ≤ m33 1 2 ∧ m33 1 2 ≤ 240 := hIm33.1 1 2
            have f41 : (0 : Int) ≤ m33 10 2 ∧ m33 10 2 ≤ 240 := hIm33.1 10 2
            have f42 : (-2147483648 : Int) ≤ zb_or (m33 10 3) 1 ∧ zb_or (m33 10 3) 1 ≤ 2147483647 := zb_orR (m33 10 3) 1
            have f43 := zb_or_f (m33 10 3) 1
            have f44 := zb_or_b (m33 10 3) 1
            obtain ⟨m45, hm45⟩ : ∃ q, q = zm_up m33 10 3 (zb_or (m33 10 3) 1) := ⟨_, rfl⟩
            have hIm45 : zI c mM m45 := by rw [hm45]; exact zI_up hIm33 (zOk_p (by decide)) (show (0 : Int) ≤ (zb_or (m33 10 3) 1) ∧ (zb_or (m33 10 3) 1) ≤ 1 by omega)
            have em45 : m45 10 3 = (zb_or (m33 10 3) 1) := by rw [hm45]; exact zm_eq
            have f46 : m45 1 1 = m33 1 1 := by rw [hm45]; exact zm_ne (by omega)
            have f47 : m45 10 2 = m33 10 2 := by rw [hm45]; exact zm_ne (by omega)
            have f48 : m45 1 2 = m33 1 2 := by rw [hm45]; exact zm_ne (by omega)
            have tk49 : zN m m45 := by rw [hm45]; exact zN_up tk36 (by unfold zRow; omega)
            clear tk36
            refine zW.step (st1 := (159, [(some (.ref 10)), (some (.int (Int32.ofInt Lv))), (some (.int (Int32.ofInt r4))), (some (.int (Int32.ofInt r31)))], [], z_hup (zk c m33) 10 (.inr (10, [.ref 1, .ref 11, .int (Int32.ofInt (m33 10 2)), .int ((Int32.ofInt (m33 10 3)) ||| (Int32.ofInt 1))])))) (st2 := (159, [(some (.ref 10)), (some (.int (Int32.ofInt Lv))), (some (.int (Int32.ofInt r4))), (some (.int (Int32.ofInt r31)))], [], zk c m45)) ⟨[zo, zo, zo, zo], _, rfl, ⟨trivial, trivial, trivial, ⟨(Nat.lt_of_lt_of_le (Nat.le_of_ble_eq_true rfl) hN), (z_narZ (zi_or rfl rfl) (by omega)), (z_fitZ (zi_or rfl rfl) (by omega))⟩, trivial⟩⟩ (z_steq rfl rfl ((zk_up c m33 10 3 (zb_or (m33 10 3) 1) _ ((congrArg (fun q => (.inr (10, [.ref 1, .ref 11, .int (Int32.ofInt (m33 10 2)), .int q]) : z_E)) (zi_or rfl rfl)).trans rfl)).trans (by rw [hm45]))) ?_
            clear f37 f42 f43 f44
            refine zW.step (st1 := (162, [(some (.ref 10)), (some (.int (Int32.ofInt Lv))), (some (.int (Int32.ofInt r4))), (some (.int (Int32.ofInt r31)))], [.int (Int32.ofInt r31), .int (Int32.ofInt 1), .ref 10], zk c m45)) (st2 := (162, [(some (.ref 10)), (some (.int (Int32.ofInt Lv))), (some (.int (Int32.ofInt r4))), (some (.int (Int32.ofInt r31)))], [.int (Int32.ofInt r31), .int (Int32.ofInt 1), .ref 10], zk c m45)) ⟨[zo, zo, zo], _, rfl, ⟨trivial, trivial, trivial, trivial⟩⟩ rfl ?_
            obtain ⟨r50, m50, hs50, hIm50, z_50, p9_50, kN_50⟩ := S_X10_emit zn (d + 3) hN hC 1 r31 m45 hIm45 (by omega) (by omega) (by omega) (by omega)
            refine zW.step (st1 := (165, [(some (.ref 10)), (some (.int (Int32.ofInt Lv))), (some (.int (Int32.ofInt r4))), (some (.int (Int32.ofInt r31)))], [.int (Int32.ofInt r50)], zk c m50)) ⟨[zc (some (.int (Int32.ofInt r50))) (zk c m50)], _, rfl, ⟨⟨⟨(Nat.lt_of_lt_of_le (Nat.le_of_ble_eq_true rfl) hN), (Nat.le_of_ble_eq_true rfl)⟩, hs50, (Nat.le_of_ble_eq_true rfl), Nat.le_refl _, Nat.le_refl _, Nat.le_refl _, Nat.le_refl _⟩, trivial⟩⟩ rfl ?_
            have f51 : (0 : Int) ≤ m50 1 1 ∧ m50 1 1 ≤ 240 := hIm50.1 1 1
            have f52 : (0 : Int) ≤ m50 1 2 ∧ m50 1 2 ≤ 240 := hIm50.1 1 2
            have f53 : (0 : Int) ≤ m50 10 2 ∧ m50 10 2 ≤ 240 := hIm50.1 10 2
            have tk54 : zN m m50 := zN_tr tk49 kN_50
            exact zW.fin (zfin_i rfl rfl (z_narZ rfl (by omega))) ⟨r50, m50, rfl, rfl, hIm50, (by omega), (by omega), tk54⟩
          · refine zW.step (st1 := (154, [(some (.ref 10)), (some (.int (Int32.ofInt Lv))), (some (.int (Int32.ofInt r4))), (some (.int (Int32.ofInt r31)))], [.int (Int32.ofInt (m33 10 3)), .ref 10], zk c m33)) (st2 := (154, [(some (.ref 10)), (some (.int (Int32.ofInt Lv))), (some (.int (Int32.ofInt r4))), (some (.int (Int32.ofInt r31)))], [.int (Int32.ofInt (m33 10 3)), .ref 10], zk c m33)) ⟨[zo, zo, zo, zo, zo, zt], _, rfl, ⟨trivial, trivial, (Nat.lt_of_lt_of_le (Nat.le_of_ble_eq_true rfl) hN), trivial, trivial, zbt (fun q => b38 ((zi_eq rfl (by decide : (Int8.ofInt 112).toInt32 = Int32.ofInt 112) (by unfold zR; omega) (⟨by decide, by decide⟩ : zR 112)).mp q)), trivial⟩⟩ rfl ?_
            have f55 : (0 : Int) ≤ m33 1 1 ∧ m33 1 1 ≤ 240 := hIm33.1 1 1
            have f56 : (0 : Int) ≤ m33 1 2 ∧ m33 1 2 ≤ 240 := hIm33.1 1 2
            have f57 : (0 : Int) ≤ m33 10 2 ∧ m33 10 2 ≤ 240 := hIm33.1 10 2
            have f58 : (-2147483648 : Int) ≤ zb_or (m33 10 3) 0 ∧ zb_or (m33 10 3) 0 ≤ 2147483647 := zb_orR (m33 10 3) 0
            have f59 := zb_or_f (m33 10 3) 0
            have f60 := zb_or_b (m33 10 3) 0
            obtain ⟨m61, hm61⟩ : ∃ q, q = zm_up m33 10 3 (zb_or (m33 10 3) 0) := ⟨_, rfl⟩
            have hIm61 : zI c mM m61 := by rw [hm61]; exact zI_up hIm33 (zOk_p (by decide)) (show (0 : Int) ≤ (zb_or (m33 10 3) 0) ∧ (zb_or (m33 10 3) 0) ≤ 1 by omega)
            have em61 : m61 10 3 = (zb_or (m33 10 3) 0) := by rw [hm61]; exact zm_eq
            have f62 : m61 1 1 = m33 1 1 := by rw [hm61]; exact zm_ne (by omega)
            have f63 : m61 10 2 = m33 10 2 := by rw [hm61]; exact zm_ne (by omega)
            have f64 : m61 1 2 = m33 1 2 := by rw [hm61]; exact zm_ne (by omega)
            have tk65 : zN m m61 := by rw [hm61]; exact zN_up tk36 (by unfold zRow; omega)
            clear tk36
            refine zW.step (st1 := (159, [(some (.ref 10)), (some (.int (Int32.ofInt Lv))), (some (.int (Int32.ofInt r4))), (some (.int (Int32.ofInt r31)))], [], z_hup (zk c m33) 10 (.inr (10, [.ref 1, .ref 11, .int (Int32.ofInt (m33 10 2)), .int ((Int32.ofInt (m33 10 3)) ||| (Int32.ofInt 0))])))) (st2 := (159, [(some (.ref 10)), (some (.int (Int32.ofInt Lv))), (some (.int (Int32.ofInt r4))), (some (.int (Int32.ofInt r31)))], [], zk c m61)) ⟨[zo, zo, zo], _, rfl, ⟨trivial, trivial, ⟨(Nat.lt_of_lt_of_le (Nat.le_of_ble_eq_true rfl) hN), (z_narZ (zi_or rfl rfl) (by omega)), (z_fitZ (zi_or rfl rfl) (by omega))⟩, trivial⟩⟩ (z_steq rfl rfl ((zk_up c m33 10 3 (zb_or (m33 10 3) 0) _ ((congrArg (fun q => (.inr (10, [.ref 1, .ref 11, .int (Int32.ofInt (m33 10 2)), .int q]) : z_E)) (zi_or rfl rfl)).trans rfl)).trans (by rw [hm61]))) ?_
            clear f37 f58 f59 f60
            refine zW.step (st1 := (162, [(some (.ref 10)), (some (.int (Int32.ofInt Lv))), (some (.int (Int32.ofInt r4))), (some (.int (Int32.ofInt r31)))], [.int (Int32.ofInt r31), .int (Int32.ofInt 1), .ref 10], zk c m61)) (st2 := (162, [(some (.ref 10)), (some (.int (Int32.ofInt Lv))), (some (.int (Int32.ofInt r4))), (some (.int (Int32.ofInt r31)))], [.int (Int32.ofInt r31), .int (Int32.ofInt 1), .ref 10], zk c m61)) ⟨[zo, zo, zo], _, rfl, ⟨trivial, trivial, trivial, trivial⟩⟩ rfl ?_
            obtain ⟨r66, m66, hs66, hIm66, z_66, p9_66, kN_66⟩ := S_X10_emit zn (d + 3) hN hC 1 r31 m61 hIm61 (by omega) (by omega) (by omega) (by omega)
            refine zW.step (st1 := (165, [(some (.ref 10)), (some (.int (Int32.ofInt Lv))), (some (.int (Int32.ofInt r4))), (some (.int (Int32.ofInt r31)))], [.int (Int32.ofInt r66)], zk c m66)) ⟨[zc (some (.int (Int32.ofInt r66))) (zk c m66)], _, rfl, ⟨⟨⟨(Nat.lt_of_lt_of_le (Nat.le_of_ble_eq_true rfl) hN), (Nat.le_of_ble_eq_true rfl)⟩, hs66, (Nat.le_of_ble_eq_true rfl), Nat.le_refl _, Nat.le_refl _, Nat.le_refl _, Nat.le_refl _⟩, trivial⟩⟩ rfl ?_
            have f67 : (0 : Int) ≤ m66 1 1 ∧ m66 1 1 ≤ 240 := hIm66.1 1 1
            have f68 : (0 : Int) ≤ m66 1 2 ∧ m66 1 2 ≤ 240 := hIm66.1 1 2
            have f69 : (0 : Int) ≤ m66 10 2 ∧ m66 10 2 ≤ 240 := hIm66.1 10 2
            have tk70 : zN m m66 := zN_tr tk65 kN_66
            exact zW.fin (zfin_i rfl rfl (z_narZ rfl (by omega))) ⟨r66, m66, rfl, rfl, hIm66, (by omega), (by omega), tk70⟩
    · refine zW.step (st1 := (70, [(some (.ref 10)), (some (.int (Int32.ofInt Lv))), (some (.int (Int32.ofInt r4))), none], [], zk c m4)) (st2 := (70, [(some (.ref 10)), (some (.int (Int32.ofInt Lv))), (some (.int (Int32.ofInt r4))), none], [], zk c m4)) ⟨[zo], _, rfl, ⟨zbf (fun q => b28 ((zi_eq rfl (rfl : (0 : Int32) = Int32.ofInt 0) (by unfold zR; omega) (⟨by decide, by decide⟩ : zR 0)).mp q)), trivial⟩⟩ rfl ?_
      refine zW.step (st1 := (75, [(some (.ref 10)), (some (.int (Int32.ofInt Lv))), (some (.int (Int32.ofInt r4))), none], [.int (Int32.ofInt 4), .ref 1], zk c m4)) (st2 := (75, [(some (.ref 10)), (some (.int (Int32.ofInt Lv))), (some (.int (Int32.ofInt r4))), none], [.int (Int32.ofInt 4), .ref 1], zk c m4)) ⟨[zo, zo, zo], _, rfl, ⟨trivial, (Nat.lt_of_lt_of_le (Nat.le_of_ble_eq_true rfl) hN), trivial, trivial⟩⟩ rfl ?_
      obtain ⟨r71, m71, hs71, hIm71, z_71, l_71, a9_71, r9_71, p9_71, n9_71, nn_71, e2_71, q9_71, kN_71⟩ := S_X8_takesNumber zn (d + 1) hN hC 4 m4 hIm4 (by omega) (by omega) (by omega)
      refine zW.step (st1 := (78, [(some (.ref 10)), (some (.int (Int32.ofInt Lv))), (some (.int (Int32.ofInt r4))), none], [.int (Int32.ofInt r71)], zk c m71)) ⟨[zc (some (.int (Int32.ofInt r71))) (zk c m71)], _, rfl, ⟨⟨⟨(Nat.lt_of_lt_of_le (Nat.le_of_ble_eq_true rfl) hN), (Nat.le_of_ble_eq_true rfl)⟩, hs71, (Nat.le_of_ble_eq_true rfl), Nat.le_refl _, Nat.le_refl _, Nat.le_refl _, Nat.le_refl _⟩, trivial⟩⟩ rfl ?_
      have f72 : (0 : Int) ≤ m71 1 1 ∧ m71 1 1 ≤ 240 := hIm71.1 1 1
      have f73 : (0 : Int) ≤ m71 1 2 ∧ m71 1 2 ≤ 240 := hIm71.1 1 2
      have f74 : (0 : Int) ≤ m71 10 2 ∧ m71 10 2 ≤ 240 := hIm71.1 10 2
      have tk75 : zN m m71 := zN_tr tk8 kN_71
      by_cases b76 : r71 = 0
      · refine zW.step (st1 := (100, [(some (.ref 10)), (some (.int (Int32.ofInt Lv))), (some (.int (Int32.ofInt r4))), none], [], zk c m71)) (st2 := (100, [(some (.ref 10)), (some (.int (Int32.ofInt Lv))), (some (.int (Int32.ofInt r4))), none], [], zk c m71)) ⟨[zt], _, rfl, ⟨zbt ((zi_eq rfl (rfl : (0 : Int32) = Int32.ofInt 0) (by unfold zR; omega) (⟨by decide, by decide⟩ : zR 0)).mpr b76), trivial⟩⟩ rfl ?_
        refine zW.step (st1 := (101, [(some (.ref 10)), (some (.int (Int32.ofInt Lv))), (some (.int (Int32.ofInt r4))), none], [.int (Int32.ofInt 0)], zk c m71)) (st2 := (101, [(some (.ref 10)), (some (.int (Int32.ofInt Lv))), (some (.int (Int32.ofInt r4))), none], [.int (Int32.ofInt 0)], zk c m71)) ⟨[zo], _, rfl, ⟨trivial, trivial⟩⟩ rfl ?_
        exact zW.fin (zfin_i rfl rfl rfl) ⟨0, m71, rfl, rfl, hIm71, (by omega), (by omega), tk75⟩
      · refine zW.step (st1 := (81, [(some (.ref 10)), (some (.int (Int32.ofInt Lv))), (some (.int (Int32.ofInt r4))), none], [], zk c m71)) (st2 := (81, [(some (.ref 10)), (some (.int (Int32.ofInt Lv))), (some (.int (Int32.ofInt r4))), none], [], zk c m71)) ⟨[zo], _, rfl, ⟨zbf (fun q => b76 ((zi_eq rfl (rfl : (0 : Int32) = Int32.ofInt 0) (by unfold zR; omega) (⟨by decide, by decide⟩ : zR 0)).mp q)), trivial⟩⟩ rfl ?_
        have f77 : (-2147483648 : Int) ≤ m71 1 3 ∧ m71 1 3 ≤ 2147483647 := hIm71.1 1 3
        refine zW.step (st1 := (90, [(some (.ref 10)), (some (.int (Int32.ofInt Lv))), (some (.int (Int32.ofInt r4))), none], [.int (Int32.ofInt (m71 1 3)), .int (Int32.ofInt 0), .ref 10], zk c m71)) (st2 := (90, [(some (.ref 10)), (some (.int (Int32.ofInt Lv))), (some (.int (Int32.ofInt r4))), none], [.int (Int32.ofInt (m71 1 3)), .int (Int32.ofInt 0), .ref 10], zk c m71)) ⟨[zo, zo, zo, zo, zo], _, rfl, ⟨trivial, trivial, trivial, (Nat.lt_of_lt_of_le (Nat.le_of_ble_eq_true rfl) hN), (Nat.lt_of_lt_of_le (Nat.le_of_ble_eq_true rfl) hN), trivial⟩⟩ rfl ?_
        obtain ⟨r78, m78, hs78, hIm78, z_78, p9_78, kN_78⟩ := S_X10_emit zn (d + 3) hN hC 0 (m71 1 3) m71 hIm71 (by omega) (by omega) (by omega) (by omega)
        refine zW.step (st1 := (93, [(some (.ref 10)), (some (.int (Int32.ofInt Lv))), (some (.int (Int32.ofInt r4))), none], [.int (Int32.ofInt r78)], zk c m78)) ⟨[zc (some (.int (Int32.ofInt r78))) (zk c m78)], _, rfl, ⟨⟨⟨(Nat.lt_of_lt_of_le (Nat.le_of_ble_eq_true rfl) hN), (Nat.le_of_ble_eq_true rfl)⟩, hs78, (Nat.le_of_ble_eq_true rfl), Nat.le_refl _, Nat.le_refl _, Nat.le_refl _, Nat.le_refl _⟩, trivial⟩⟩ rfl ?_
        have f79 : (0 : Int) ≤ m78 1 1 ∧ m78 1 1 ≤ 240 := hIm78.1 1 1
        have f80 : (0 : Int) ≤ m78 1 2 ∧ m78 1 2 ≤ 240 := hIm78.1 1 2
        have f81 : (0 : Int) ≤ m78 10 2 ∧ m78 10 2 ≤ 240 := hIm78.1 10 2
        have tk82 : zN m m78 := zN_tr tk75 kN_78
        by_cases b83 : r78 = 0
        · refine zW.step (st1 := (100, [(some (.ref 10)), (some (.int (Int32.ofInt Lv))), (some (.int (Int32.ofInt r4))), none], [], zk c m78)) (st2 := (100, [(some (.ref 10)), (some (.int (Int32.ofInt Lv))), (some (.int (Int32.ofInt r4))), none], [], zk c m78)) ⟨[zt], _, rfl, ⟨zbt ((zi_eq rfl (rfl : (0 : Int32) = Int32.ofInt 0) (by unfold zR; omega) (⟨by decide, by decide⟩ : zR 0)).mpr b83), trivial⟩⟩ rfl ?_
          refine zW.step (st1 := (101, [(some (.ref 10)), (some (.int (Int32.ofInt Lv))), (some (.int (Int32.ofInt r4))), none], [.int (Int32.ofInt 0)], zk c m78)) (st2 := (101, [(some (.ref 10)), (some (.int (Int32.ofInt Lv))), (some (.int (Int32.ofInt r4))), none], [.int (Int32.ofInt 0)], zk c m78)) ⟨[zo], _, rfl, ⟨trivial, trivial⟩⟩ rfl ?_
          exact zW.fin (zfin_i rfl rfl rfl) ⟨0, m78, rfl, rfl, hIm78, (by omega), (by omega), tk82⟩
        · refine zW.step (st1 := (96, [(some (.ref 10)), (some (.int (Int32.ofInt Lv))), (some (.int (Int32.ofInt r4))), none], [], zk c m78)) (st2 := (96, [(some (.ref 10)), (some (.int (Int32.ofInt Lv))), (some (.int (Int32.ofInt r4))), none], [], zk c m78)) ⟨[zo], _, rfl, ⟨zbf (fun q => b83 ((zi_eq rfl (rfl : (0 : Int32) = Int32.ofInt 0) (by unfold zR; omega) (⟨by decide, by decide⟩ : zR 0)).mp q)), trivial⟩⟩ rfl ?_
          refine zW.step (st1 := (101, [(some (.ref 10)), (some (.int (Int32.ofInt Lv))), (some (.int (Int32.ofInt r4))), none], [.int (Int32.ofInt 1)], zk c m78)) (st2 := (101, [(some (.ref 10)), (some (.int (Int32.ofInt Lv))), (some (.int (Int32.ofInt r4))), none], [.int (Int32.ofInt 1)], zk c m78)) ⟨[zo, zo], _, rfl, ⟨trivial, trivial, trivial⟩⟩ rfl ?_
          exact zW.fin (zfin_i rfl rfl rfl) ⟨1, m78, rfl, rfl, hIm78, (by omega), (by omega), tk82⟩

theorem S_X10_atom_L6 (zn : Bool) (d : Nat) {c : Nat × Nat} {mM : zM} (hN : 107 ≤ c.1) (hC : c.1 < z_RO) : ∀ (m : zM) (hIm : zI c mM m), zCi zn (d + 5) 115 [.ref 10, .int (Int32.ofInt 6)] c m (fun (r : Int) (m1 : zM) => zI c mM m1 ∧ (0 ≤ r ∧ r ≤ 1) ∧ (m1 10 2 - m1 1 2 ≤ m 10 2 - m 1 2) ∧ zN m m1) :=
  fun m hIm => S_X10_atom_G zn (d + 0) hN hC 6 (fun q => absurd q (by decide)) m hIm (by omega)

theorem S_X10_term_L6 (zn : Bool) (d : Nat) {c : Nat × Nat} {mM : zM} (hN : 107 ≤ c.1) (hC : c.1 < z_RO) : ∀ (m : zM) (hIm : zI c mM m), zCi zn (d + 6) 123 [.ref 10, .int (Int32.ofInt 6)] c m (fun (r : Int) (m1 : zM) => zI c mM m1 ∧ (0 ≤ r ∧ r ≤ 1) ∧ (m1 10 2 - m1 1 2 ≤ m 10 2 - m 1 2) ∧ zN m m1) :=
  fun m hIm => S_X10_term_G zn (d + 0) hN hC 6 (S_X10_atom_L6 zn (d + 0) hN hC) m hIm (by omega)

theorem S_X10_sum_L6 (zn : Bool) (d : Nat) {c : Nat × Nat} {mM : zM} (hN : 107 ≤ c.1) (hC : c.1 < z_RO) : ∀ (m : zM) (hIm : zI c mM m), zCi zn (d + 7) 122 [.ref 10, .int (Int32.ofInt 6)] c m (fun (r : Int) (m1 : zM) => zI c mM m1 ∧ (0 ≤ r ∧ r ≤ 1) ∧ (m1 10 2 - m1 1 2 ≤ m 10 2 - m 1 2) ∧ zN m m1) :=
  fun m hIm => S_X10_sum_G zn (d + 0) hN hC 6 (S_X10_term_L6 zn (d + 0) hN hC) m hIm (by omega)

theorem S_X10_atom_L5 (zn : Bool) (d : Nat) {c : Nat × Nat} {mM : zM} (hN : 107 ≤ c.1) (hC : c.1 < z_RO) : ∀ (m : zM) (hIm : zI c mM m), zCi zn (d + 8) 115 [.ref 10, .int (Int32.ofInt 5)] c m (fun (r : Int) (m1 : zM) => zI c mM m1 ∧ (0 ≤ r ∧ r ≤ 1) ∧ (m1 10 2 - m1 1 2 ≤ m 10 2 - m 1 2) ∧ zN m m1) :=
  fun m hIm => S_X10_atom_G zn (d + 3) hN hC 5 (fun _ => S_X10_sum_L6 zn (d + 0) hN hC) m hIm (by omega)

theorem S_X10_term_L5 (zn : Bool) (d : Nat) {c : Nat × Nat} {mM : zM} (hN : 107 ≤ c.1) (hC : c.1 < z_RO) : ∀ (m : zM) (hIm : zI c mM m), zCi zn (d + 9) 123 [.ref 10, .int (Int32.ofInt 5)] c m (fun (r : Int) (m1 : zM) => zI c mM m1 ∧ (0 ≤ r ∧ r ≤ 1) ∧ (m1 10 2 - m1 1 2 ≤ m 10 2 - m 1 2) ∧ zN m m1) :=
  fun m hIm => S_X10_term_G zn (d + 3) hN hC 5 (S_X10_atom_L5 zn (d + 0) hN hC) m hIm (by omega)

theorem S_X10_sum_L5 (zn : Bool) (d : Nat) {c : Nat × Nat} {mM : zM} (hN : 107 ≤ c.1) (hC : c.1 < z_RO) : ∀ (m : zM) (hIm : zI c mM m), zCi zn (d + 10) 122 [.ref 10, .int (Int32.ofInt 5)] c m (fun (r : Int) (m1 : zM) => zI c mM m1 ∧ (0 ≤ r ∧ r ≤ 1) ∧ (m1 10 2 - m1 1 2 ≤ m 10 2 - m 1 2) ∧ zN m m1) :=
  fun m hIm => S_X10_sum_G zn (d + 3) hN hC 5 (S_X10_term_L5 zn (d + 0) hN hC) m hIm (by omega)

theorem S_X10_atom_L4 (zn : Bool) (d : Nat) {c : Nat × Nat} {mM : zM} (hN : 107 ≤ c.1) (hC : c.1 < z_RO) : ∀ (m : zM) (hIm : zI c mM m), zCi zn (d + 11) 115 [.ref 10, .int (Int32.ofInt 4)] c m (fun (r : Int) (m1 : zM) => zI c mM m1 ∧ (0 ≤ r ∧ r ≤ 1) ∧ (m1 10 2 - m1 1 2 ≤ m 10 2 - m 1 2) ∧ zN m m1) :=
  fun m hIm => S_X10_atom_G zn (d + 6) hN hC 4 (fun _ => S_X10_sum_L5 zn (d + 0) hN hC) m hIm (by omega)

theorem S_X10_term_L4 (zn : Bool) (d : Nat) {c : Nat × Nat} {mM : zM} (hN : 107 ≤ c.1) (hC : c.1 < z_RO) : ∀ (m : zM) (hIm : zI c mM m), zCi zn (d + 12) 123 [.ref 10, .int (Int32.ofInt 4)] c m (fun (r : Int) (m1 : zM) => zI c mM m1 ∧ (0 ≤ r ∧ r ≤ 1) ∧ (m1 10 2 - m1 1 2 ≤ m 10 2 - m 1 2) ∧ zN m m1) :=
  fun m hIm => S_X10_term_G zn (d + 6) hN hC 4 (S_X10_atom_L4 zn (d + 0) hN hC) m hIm (by omega)

theorem S_X10_sum_L4 (zn : Bool) (d : Nat) {c : Nat × Nat} {mM : zM} (hN : 107 ≤ c.1) (hC : c.1 < z_RO) : ∀ (m : zM) (hIm : zI c mM m), zCi zn (d + 13) 122 [.ref 10, .int (Int32.ofInt 4)] c m (fun (r : Int) (m1 : zM) => zI c mM m1 ∧ (0 ≤ r ∧ r ≤ 1) ∧ (m1 10 2 - m1 1 2 ≤ m 10 2 - m 1 2) ∧ zN m m1) :=
  fun m hIm => S_X10_sum_G zn (d + 6) hN hC 4 (S_X10_term_L4 zn (d + 0) hN hC) m hIm (by omega)

theorem S_X10_atom_L3 (zn : Bool) (d : Nat) {c : Nat × Nat} {mM : zM} (hN : 107 ≤ c.1) (hC : c.1 < z_RO) : ∀ (m : zM) (hIm : zI c mM m), zCi zn (d + 14) 115 [.ref 10, .int (Int32.ofInt 3)] c m (fun (r : Int) (m1 : zM) => zI c mM m1 ∧ (0 ≤ r ∧ r ≤ 1) ∧ (m1 10 2 - m1 1 2 ≤ m 10 2 - m 1 2) ∧ zN m m1) :=
  fun m hIm => S_X10_atom_G zn (d + 9) hN hC 3 (fun _ => S_X10_sum_L4 zn (d + 0) hN hC) m hIm (by omega)

theorem S_X10_term_L3 (zn : Bool) (d : Nat) {c : Nat × Nat} {mM : zM} (hN : 107 ≤ c.1) (hC : c.1 < z_RO) : ∀ (m : zM) (hIm : zI c mM m), zCi zn (d + 15) 123 [.ref 10, .int (Int32.ofInt 3)] c m (fun (r : Int) (m1 : zM) => zI c mM m1 ∧ (0 ≤ r ∧ r ≤ 1) ∧ (m1 10 2 - m1 1 2 ≤ m 10 2 - m 1 2) ∧ zN m m1) :=
  fun m hIm => S_X10_term_G zn (d + 9) hN hC 3 (S_X10_atom_L3 zn (d + 0) hN hC) m hIm (by omega)

theorem S_X10_sum_L3 (zn : Bool) (d : Nat) {c : Nat × Nat} {mM : zM} (hN : 107 ≤ c.1) (hC : c.1 < z_RO) : ∀ (m : zM) (hIm : zI c mM m), zCi zn (d + 16) 122 [.ref 10, .int (Int32.ofInt 3)] c m (fun (r : Int) (m1 : zM) => zI c mM m1 ∧ (0 ≤ r ∧ r ≤ 1) ∧ (m1 10 2 - m1 1 2 ≤ m 10 2 - m 1 2) ∧ zN m m1) :=
  fun m hIm => S_X10_sum_G zn (d + 9) hN hC 3 (S_X10_term_L3 zn (d + 0) hN hC) m hIm (by omega)

theorem S_X10_atom_L2 (zn : Bool) (d : Nat) {c : Nat × Nat} {mM : zM} (hN : 107 ≤ c.1) (hC : c.1 < z_RO) : ∀ (m : zM) (hIm : zI c mM m), zCi zn (d + 17) 115 [.ref 10, .int (Int32.ofInt 2)] c m (fun (r : Int) (m1 : zM) => zI c mM m1 ∧ (0 ≤ r ∧ r ≤ 1) ∧ (m1 10 2 - m1 1 2 ≤ m 10 2 - m 1 2) ∧ zN m m1) :=
  fun m hIm => S_X10_atom_G zn (d + 12) hN hC 2 (fun _ => S_X10_sum_L3 zn (d + 0) hN hC) m hIm (by omega)

theorem S_X10_term_L2 (zn : Bool) (d : Nat) {c : Nat × Nat} {mM : zM} (hN : 107 ≤ c.1) (hC : c.1 < z_RO) : ∀ (m : zM) (hIm : zI c mM m), zCi zn (d + 18) 123 [.ref 10, .int (Int32.ofInt 2)] c m (fun (r : Int) (m1 : zM) => zI c mM m1 ∧ (0 ≤ r ∧ r ≤ 1) ∧ (m1 10 2 - m1 1 2 ≤ m 10 2 - m 1 2) ∧ zN m m1) :=
  fun m hIm => S_X10_term_G zn (d + 12) hN hC 2 (S_X10_atom_L2 zn (d + 0) hN hC) m hIm (by omega)

theorem S_X10_sum_L2 (zn : Bool) (d : Nat) {c : Nat × Nat} {mM : zM} (hN : 107 ≤ c.1) (hC : c.1 < z_RO) : ∀ (m : zM) (hIm : zI c mM m), zCi zn (d + 19) 122 [.ref 10, .int (Int32.ofInt 2)] c m (fun (r : Int) (m1 : zM) => zI c mM m1 ∧ (0 ≤ r ∧ r ≤ 1) ∧ (m1 10 2 - m1 1 2 ≤ m 10 2 - m 1 2) ∧ zN m m1) :=
  fun m hIm => S_X10_sum_G zn (d + 12) hN hC 2 (S_X10_term_L2 zn (d + 0) hN hC) m hIm (by omega)

theorem S_X10_atom_L1 (zn : Bool) (d : Nat) {c : Nat × Nat} {mM : zM} (hN : 107 ≤ c.1) (hC : c.1 < z_RO) : ∀ (m : zM) (hIm : zI c mM m), zCi zn (d + 20) 115 [.ref 10, .int (Int32.ofInt 1)] c m (fun (r : Int) (m1 : zM) => zI c mM m1 ∧ (0 ≤ r ∧ r ≤ 1) ∧ (m1 10 2 - m1 1 2 ≤ m 10 2 - m 1 2) ∧ zN m m1) :=
  fun m hIm => S_X10_atom_G zn (d + 15) hN hC 1 (fun _ => S_X10_sum_L2 zn (d + 0) hN hC) m hIm (by omega)

theorem S_X10_term_L1 (zn : Bool) (d : Nat) {c : Nat × Nat} {mM : zM} (hN : 107 ≤ c.1) (hC : c.1 < z_RO) : ∀ (m : zM) (hIm : zI c mM m), zCi zn (d + 21) 123 [.ref 10, .int (Int32.ofInt 1)] c m (fun (r : Int) (m1 : zM) => zI c mM m1 ∧ (0 ≤ r ∧ r ≤ 1) ∧ (m1 10 2 - m1 1 2 ≤ m 10 2 - m 1 2) ∧ zN m m1) :=
  fun m hIm => S_X10_term_G zn (d + 15) hN hC 1 (S_X10_atom_L1 zn (d + 0) hN hC) m hIm (by omega)

theorem S_X10_sum_L1 (zn : Bool) (d : Nat) {c : Nat × Nat} {mM : zM} (hN : 107 ≤ c.1) (hC : c.1 < z_RO) : ∀ (m : zM) (hIm : zI c mM m), zCi zn (d + 22) 122 [.ref 10, .int (Int32.ofInt 1)] c m (fun (r : Int) (m1 : zM) => zI c mM m1 ∧ (0 ≤ r ∧ r ≤ 1) ∧ (m1 10 2 - m1 1 2 ≤ m 10 2 - m 1 2) ∧ zN m m1) :=
  fun m hIm => S_X10_sum_G zn (d + 15) hN hC 1 (S_X10_term_L1 zn (d + 0) hN hC) m hIm (by omega)

theorem S_X10_atom_L0 (zn : Bool) (d : Nat) {c : Nat × Nat} {mM : zM} (hN : 107 ≤ c.1) (hC : c.1 < z_RO) : ∀ (m : zM) (hIm : zI c mM m), zCi zn (d + 23) 115 [.ref 10, .int (Int32.ofInt 0)] c m (fun (r : Int) (m1 : zM) => zI c mM m1 ∧ (0 ≤ r ∧ r ≤ 1) ∧ (m1 10 2 - m1 1 2 ≤ m 10 2 - m 1 2) ∧ zN m m1) :=
  fun m hIm => S_X10_atom_G zn (d + 18) hN hC 0 (fun _ => S_X10_sum_L1 zn (d + 0) hN hC) m hIm (by omega)

theorem S_X10_term_L0 (zn : Bool) (d : Nat) {c : Nat × Nat} {mM : zM} (hN : 107 ≤ c.1) (hC : c.1 < z_RO) : ∀ (m : zM) (hIm : zI c mM m), zCi zn (d + 24) 123 [.ref 10, .int (Int32.ofInt 0)] c m (fun (r : Int) (m1 : zM) => zI c mM m1 ∧ (0 ≤ r ∧ r ≤ 1) ∧ (m1 10 2 - m1 1 2 ≤ m 10 2 - m 1 2) ∧ zN m m1) :=
  fun m hIm => S_X10_term_G zn (d + 18) hN hC 0 (S_X10_atom_L0 zn (d + 0) hN hC) m hIm (by omega)

theorem S_X10_sum_L0 (zn : Bool) (d : Nat) {c : Nat × Nat} {mM : zM} (hN : 107 ≤ c.1) (hC : c.1 < z_RO) : ∀ (m : zM) (hIm : zI c mM m), zCi zn (d + 25) 122 [.ref 10, .int (Int32.ofInt 0)] c m (fun (r : Int) (m1 : zM) => zI c mM m1 ∧ (0 ≤ r ∧ r ≤ 1) ∧ (m1 10 2 - m1 1 2 ≤ m 10 2 - m 1 2) ∧ zN m m1) :=
  fun m hIm => S_X10_sum_G zn (d + 18) hN hC 0 (S_X10_term_L0 zn (d + 0) hN hC) m hIm (by omega)

set_option maxRecDepth 100000 in
set_option maxHeartbeats 4000000 in
theorem S_X10_deeperUnit_G (zn : Bool) (d : Nat) {c : Nat × Nat} {mM : zM} (hN : 107 ≤ c.1) (hC : c.1 < z_RO) (sign : Int) (Lv : Int) (h_unit : ∀ (begun : Int) (m : zM) (hIm : zI c mM m) (r_begun : -2147483648 ≤ begun ∧ begun ≤ 2147483647) (hb : 0 ≤ begun ∧ begun ≤ 1), zCi zn (d + 10) 125 [.ref 10, .int (Int32.ofInt Lv), .int (Int32.ofInt begun)] c m (fun (r : Int) (m1 : zM) => zI c mM m1 ∧ (0 ≤ r ∧ r ≤ 1) ∧ (m1 10 2 - m1 1 2 ≤ m 10 2 - m 1 2) ∧ zN m m1)) (h_condition : ∀ (begun : Int) (m : zM) (hIm : zI c mM m) (r_begun : -2147483648 ≤ begun ∧ begun ≤ 2147483647) (hb : 0 ≤ begun ∧ begun ≤ 1), zCi zn (d + 10) 117 [.ref 10, .int (Int32.ofInt Lv), .int (Int32.ofInt begun)] c m (fun (r : Int) (m1 : zM) => zI c mM m1 ∧ (0 ≤ r ∧ r ≤ 1) ∧ (m1 10 2 - m1 1 2 ≤ m 10 2 - m 1 2) ∧ zN m m1)) (m : zM) (hIm : zI c mM m) (r_sign : -2147483648 ≤ sign ∧ sign ≤ 2147483647) (hLv : 0 ≤ Lv ∧ Lv ≤ 6) (ha : m 1 2 ≤ 239) : zCi zn (d + 11) 118 [.ref 10, .int (Int32.ofInt sign), .int (Int32.ofInt Lv)] c m (fun (r : Int) (m1 : zM) => zI c mM m1 ∧ (0 ≤ r ∧ r ≤ 1) ∧ (m1 10 2 - m1 1 2 ≤ m 10 2 - m 1 2) ∧ zN m m1) := by
  refine zCi.of zu_X10_deeperUnit hC (Nat.le_of_ble_eq_true rfl) ?_
  show zW zn (d + 10) 118 c (0, [(some (.ref 10)), (some (.int (Int32.ofInt sign))), (some (.int (Int32.ofInt Lv)))], [], zk c m) (fun v h1 => ∃ (r : Int) (m1 : zM), v = some (.int (Int32.ofInt r)) ∧ h1 = zk c m1 ∧ zI c mM m1 ∧ (0 ≤ r ∧ r ≤ 1) ∧ (m1 10 2 - m1 1 2 ≤ m 10 2 - m 1 2) ∧ zN m m1)
  have f1 : (0 : Int) ≤ m 1 1 ∧ m 1 1 ≤ 240 := hIm.1 1 1
  have f2 : (0 : Int) ≤ m 1 2 ∧ m 1 2 ≤ 240 := hIm.1 1 2
  have f3 : (0 : Int) ≤ m 10 2 ∧ m 10 2 ≤ 240 := hIm.1 10 2
  obtain ⟨m4, hm4⟩ : ∃ q, q = zm_up m 1 2 ((m 1 2) + 1) := ⟨_, rfl⟩
  have hIm4 : zI c mM m4 := by rw [hm4]; exact zI_up hIm (by unfold zOk; decide) (show (0 : Int) ≤ ((m 1 2) + 1) ∧ ((m 1 2) + 1) ≤ 240 by omega)
  have em4 : m4 1 2 = ((m 1 2) + 1) := by rw [hm4]; exact zm_eq
  have f5 : m4 1 1 = m 1 1 := by rw [hm4]; exact zm_ne (by omega)
  have f6 : m4 10 2 = m 10 2 := by rw [hm4]; exact zm_ne (by omega)
  have tk7 : zN m m4 := by rw [hm4]; exact zN_up zN_rf (by unfold zRow; omega)
  refine zW.step (st1 := (13, [(some (.ref 10)), (some (.int (Int32.ofInt sign))), (some (.int (Int32.ofInt Lv)))], [], z_hup (zk c m) 1 (.inr (8, [.ref 2, .int (Int32.ofInt (m 1 1)), .int ((Int32.ofInt (m 1 2)) + (Int32.ofInt 1)), .int (Int32.ofInt (m 1 3))])))) (st2 := (13, [(some (.ref 10)), (some (.int (Int32.ofInt sign))), (some (.int (Int32.ofInt Lv)))], [], zk c m4)) ⟨[zo, zo, zo, zo, zo, zo, zo], _, rfl, ⟨trivial, (Nat.lt_of_lt_of_le (Nat.le_of_ble_eq_true rfl) hN), trivial, (Nat.lt_of_lt_of_le (Nat.le_of_ble_eq_true rfl) hN), trivial, trivial, ⟨(Nat.lt_of_lt_of_le (Nat.le_of_ble_eq_true rfl) hN), rfl, rfl⟩, trivial⟩⟩ (z_steq rfl rfl ((zk_up c m 1 2 ((m 1 2) + 1) _ ((congrArg (fun q => (.inr (8, [.ref 2, .int (Int32.ofInt (m 1 1)), .int q, .int (Int32.ofInt (m 1 3))]) : z_E)) (zi_add rfl rfl)).trans rfl)).trans (by rw [hm4]))) ?_
  by_cases b8 : sign = 33
  · refine zW.step (st1 := (19, [(some (.ref 10)), (some (.int (Int32.ofInt sign))), (some (.int (Int32.ofInt Lv)))], [], zk c m4)) (st2 := (19, [(some (.ref 10)), (some (.int (Int32.ofInt sign))), (some (.int (Int32.ofInt Lv)))], [], zk c m4)) ⟨[zo, zo, zo], _, rfl, ⟨trivial, trivial, zbf (fun q => q ((zi_eq rfl (by decide : (Int8.ofInt 33).toInt32 = Int32.ofInt 33) (by unfold zR; omega) (⟨by decide, by decide⟩ : zR 33)).mpr b8)), trivial⟩⟩ rfl ?_
    have f9 : (0 : Int) ≤ m4 1 1 ∧ m4 1 1 ≤ 240 := hIm4.1 1 1
    have f10 : (0 : Int) ≤ m4 1 2 ∧ m4 1 2 ≤ 240 := hIm4.1 1 2
    have f11 : (0 : Int) ≤ m4 10 2 ∧ m4 10 2 ≤ 240 := hIm4.1 10 2
    refine zW.step (st1 := (22, [(some (.ref 10)), (some (.int (Int32.ofInt sign))), (some (.int (Int32.ofInt Lv)))], [.int (Int32.ofInt 0), .int (Int32.ofInt Lv), .ref 10], zk c m4)) (st2 := (22, [(some (.ref 10)), (some (.int (Int32.ofInt sign))), (some (.int (Int32.ofInt Lv)))], [.int (Int32.ofInt 0), .int (Int32.ofInt Lv), .ref 10], zk c m4)) ⟨[zo, zo, zo], _, rfl, ⟨trivial, trivial, trivial, trivial⟩⟩ rfl ?_
    obtain ⟨r12, m12, hs12, hIm12, z_12, p9_12, kN_12⟩ := h_unit 0 m4 hIm4 (by omega) (by omega)
    refine zW.step (st1 := (25, [(some (.ref 10)), (some (.int (Int32.ofInt sign))), (some (.int (Int32.ofInt Lv)))], [.int (Int32.ofInt r12)], zk c m12)) ⟨[zc (some (.int (Int32.ofInt r12))) (zk c m12)], _, rfl, ⟨⟨⟨(Nat.lt_of_lt_of_le (Nat.le_of_ble_eq_true rfl) hN), (Nat.le_of_ble_eq_true rfl)⟩, hs12, (Nat.le_of_ble_eq_true rfl), Nat.le_refl _, Nat.le_refl _, Nat.le_refl _, Nat.le_refl _⟩, trivial⟩⟩ rfl ?_
    have f13 : (0 : Int) ≤ m12 1 1 ∧ m12 1 1 ≤ 240 := hIm12.1 1 1
    have f14 : (0 : Int) ≤ m12 1 2 ∧ m12 1 2 ≤ 240 := hIm12.1 1 2
    have f15 : (0 : Int) ≤ m12 10 2 ∧ m12 10 2 ≤ 240 := hIm12.1 10 2
    have tk16 : zN m m12 := zN_tr tk7 kN_12
    by_cases b17 : r12 = 0
    · refine zW.step (st1 := (41, [(some (.ref 10)), (some (.int (Int32.ofInt sign))), (some (.int (Int32.ofInt Lv)))], [], zk c m12)) (st2 := (41, [(some (.ref 10)), (some (.int (Int32.ofInt sign))), (some (.int (Int32.ofInt Lv)))], [], zk c m12)) ⟨[zt], _, rfl, ⟨zbt ((zi_eq rfl (rfl : (0 : Int32) = Int32.ofInt 0) (by unfold zR; omega) (⟨by decide, by decide⟩ : zR 0)).mpr b17), trivial⟩⟩ rfl ?_
      refine zW.step (st1 := (42, [(some (.ref 10)), (some (.int (Int32.ofInt sign))), (some (.int (Int32.ofInt Lv)))], [.int (Int32.ofInt 0)], zk c m12)) (st2 := (42, [(some (.ref 10)), (some (.int (Int32.ofInt sign))), (some (.int (Int32.ofInt Lv)))], [.int (Int32.ofInt 0)], zk c m12)) ⟨[zo], _, rfl, ⟨trivial, trivial⟩⟩ rfl ?_
      exact zW.fin (zfin_i rfl rfl rfl) ⟨0, m12, rfl, rfl, hIm12, (by omega), (by omega), tk16⟩
    · refine zW.step (st1 := (28, [(some (.ref 10)), (some (.int (Int32.ofInt sign))), (some (.int (Int32.ofInt Lv)))], [], zk c m12)) (st2 := (28, [(some (.ref 10)), (some (.int (Int32.ofInt sign))), (some (.int (Int32.ofInt Lv)))], [], zk c m12)) ⟨[zo], _, rfl, ⟨zbf (fun q => b17 ((zi_eq rfl (rfl : (0 : Int32) = Int32.ofInt 0) (by unfold zR; omega) (⟨by decide, by decide⟩ : zR 0)).mp q)), trivial⟩⟩ rfl ?_
      refine zW.step (st1 := (31, [(some (.ref 10)), (some (.int (Int32.ofInt sign))), (some (.int (Int32.ofInt Lv)))], [.int (Int32.ofInt 0), .int (Int32.ofInt 4), .ref 10], zk c m12)) (st2 := (31, [(some (.ref 10)), (some (.int (Int32.ofInt sign))), (some (.int (Int32.ofInt Lv)))], [.int (Int32.ofInt 0), .int (Int32.ofInt 4), .ref 10], zk c m12)) ⟨[zo, zo, zo], _, rfl, ⟨trivial, trivial, trivial, trivial⟩⟩ rfl ?_
      obtain ⟨r18, m18, hs18, hIm18, z_18, p9_18, kN_18⟩ := S_X10_emit zn (d + 9) hN hC 4 0 m12 hIm12 (by omega) (by omega) (by omega) (by omega)
      refine zW.step (st1 := (34, [(some (.ref 10)), (some (.int (Int32.ofInt sign))), (some (.int (Int32.ofInt Lv)))], [.int (Int32.ofInt r18)], zk c m18)) ⟨[zc (some (.int (Int32.ofInt r18))) (zk c m18)], _, rfl, ⟨⟨⟨(Nat.lt_of_lt_of_le (Nat.le_of_ble_eq_true rfl) hN), (Nat.le_of_ble_eq_true rfl)⟩, hs18, (Nat.le_of_ble_eq_true rfl), Nat.le_refl _, Nat.le_refl _, Nat.le_refl _, Nat.le_refl _⟩, trivial⟩⟩ rfl ?_
      have f19 : (0 : Int) ≤ m18 1 1 ∧ m18 1 1 ≤ 240 := hIm18.1 1 1
      have f20 : (0 : Int) ≤ m18 1 2 ∧ m18 1 2 ≤ 240 := hIm18.1 1 2
      have f21 : (0 : Int) ≤ m18 10 2 ∧ m18 10 2 ≤ 240 := hIm18.1 10 2
      have tk22 : zN m m18 := zN_tr tk16 kN_18
      by_cases b23 : r18 = 0
      · refine zW.step (st1 := (41, [(some (.ref 10)), (some (.int (Int32.ofInt sign))), (some (.int (Int32.ofInt Lv)))], [], zk c m18)) (st2 := (41, [(some (.ref 10)), (some (.int (Int32.ofInt sign))), (some (.int (Int32.ofInt Lv)))], [], zk c m18)) ⟨[zt], _, rfl, ⟨zbt ((zi_eq rfl (rfl : (0 : Int32) = Int32.ofInt 0) (by unfold zR; omega) (⟨by decide, by decide⟩ : zR 0)).mpr b23), trivial⟩⟩ rfl ?_
        refine zW.step (st1 := (42, [(some (.ref 10)), (some (.int (Int32.ofInt sign))), (some (.int (Int32.ofInt Lv)))], [.int (Int32.ofInt 0)], zk c m18)) (st2 := (42, [(some (.ref 10)), (some (.int (Int32.ofInt sign))), (some (.int (Int32.ofInt Lv)))], [.int (Int32.ofInt 0)], zk c m18)) ⟨[zo], _, rfl, ⟨trivial, trivial⟩⟩ rfl ?_
        exact zW.fin (zfin_i rfl rfl rfl) ⟨0, m18, rfl, rfl, hIm18, (by omega), (by omega), tk22⟩
      · refine zW.step (st1 := (37, [(some (.ref 10)), (some (.int (Int32.ofInt sign))), (some (.int (Int32.ofInt Lv)))], [], zk c m18)) (st2 := (37, [(some (.ref 10)), (some (.int (Int32.ofInt sign))), (some (.int (Int32.ofInt Lv)))], [], zk c m18)) ⟨[zo], _, rfl, ⟨zbf (fun q => b23 ((zi_eq rfl (rfl : (0 : Int32) = Int32.ofInt 0) (by unfold zR; omega) (⟨by decide, by decide⟩ : zR 0)).mp q)), trivial⟩⟩ rfl ?_
        refine zW.step (st1 := (42, [(some (.ref 10)), (some (.int (Int32.ofInt sign))), (some (.int (Int32.ofInt Lv)))], [.int (Int32.ofInt 1)], zk c m18)) (st2 := (42, [(some (.ref 10)), (some (.int (Int32.ofInt sign))), (some (.int (Int32.ofInt Lv)))], [.int (Int32.ofInt 1)], zk c m18)) ⟨[zo, zo], _, rfl, ⟨trivial, trivial, trivial⟩⟩ rfl ?_
        exact zW.fin (zfin_i rfl rfl rfl) ⟨1, m18, rfl, rfl, hIm18, (by omega), (by omega), tk22⟩
  · refine zW.step (st1 := (43, [(some (.ref 10)), (some (.int (Int32.ofInt sign))), (some (.int (Int32.ofInt Lv)))], [], zk c m4)) (st2 := (43, [(some (.ref 10)), (some (.int (Int32.ofInt sign))), (some (.int (Int32.ofInt Lv)))], [], zk c m4)) ⟨[zo, zo, zt], _, rfl, ⟨trivial, trivial, zbt (fun q => b8 ((zi_eq rfl (by decide : (Int8.ofInt 33).toInt32 = Int32.ofInt 33) (by unfold zR; omega) (⟨by decide, by decide⟩ : zR 33)).mp q)), trivial⟩⟩ rfl ?_
    have f24 : (0 : Int) ≤ m4 1 1 ∧ m4 1 1 ≤ 240 := hIm4.1 1 1
    have f25 : (0 : Int) ≤ m4 1 2 ∧ m4 1 2 ≤ 240 := hIm4.1 1 2
    have f26 : (0 : Int) ≤ m4 10 2 ∧ m4 10 2 ≤ 240 := hIm4.1 10 2
    refine zW.step (st1 := (46, [(some (.ref 10)), (some (.int (Int32.ofInt sign))), (some (.int (Int32.ofInt Lv)))], [.int (Int32.ofInt 0), .int (Int32.ofInt Lv), .ref 10], zk c m4)) (st2 := (46, [(some (.ref 10)), (some (.int (Int32.ofInt sign))), (some (.int (Int32.ofInt Lv)))], [.int (Int32.ofInt 0), .int (Int32.ofInt Lv), .ref 10], zk c m4)) ⟨[zo, zo, zo], _, rfl, ⟨trivial, trivial, trivial, trivial⟩⟩ rfl ?_
    obtain ⟨r27, m27, hs27, hIm27, z_27, p9_27, kN_27⟩ := h_condition 0 m4 hIm4 (by omega) (by omega)
    refine zW.step (st1 := (49, [(some (.ref 10)), (some (.int (Int32.ofInt sign))), (some (.int (Int32.ofInt Lv)))], [.int (Int32.ofInt r27)], zk c m27)) ⟨[zc (some (.int (Int32.ofInt r27))) (zk c m27)], _, rfl, ⟨⟨⟨(Nat.lt_of_lt_of_le (Nat.le_of_ble_eq_true rfl) hN), (Nat.le_of_ble_eq_true rfl)⟩, hs27, (Nat.le_of_ble_eq_true rfl), Nat.le_refl _, Nat.le_refl _, Nat.le_refl _, Nat.le_refl _⟩, trivial⟩⟩ rfl ?_
    have f28 : (0 : Int) ≤ m27 1 1 ∧ m27 1 1 ≤ 240 := hIm27.1 1 1
    have f29 : (0 : Int) ≤ m27 1 2 ∧ m27 1 2 ≤ 240 := hIm27.1 1 2
    have f30 : (0 : Int) ≤ m27 10 2 ∧ m27 10 2 ≤ 240 := hIm27.1 10 2
    have tk31 : zN m m27 := zN_tr tk7 kN_27
    by_cases b32 : r27 = 0
    · refine zW.step (st1 := (68, [(some (.ref 10)), (some (.int (Int32.ofInt sign))), (some (.int (Int32.ofInt Lv)))], [], zk c m27)) (st2 := (68, [(some (.ref 10)), (some (.int (Int32.ofInt sign))), (some (.int (Int32.ofInt Lv)))], [], zk c m27)) ⟨[zt], _, rfl, ⟨zbt ((zi_eq rfl (rfl : (0 : Int32) = Int32.ofInt 0) (by unfold zR; omega) (⟨by decide, by decide⟩ : zR 0)).mpr b32), trivial⟩⟩ rfl ?_
      refine zW.step (st1 := (69, [(some (.ref 10)), (some (.int (Int32.ofInt sign))), (some (.int (Int32.ofInt Lv)))], [.int (Int32.ofInt 0)], zk c m27)) (st2 := (69, [(some (.ref 10)), (some (.int (Int32.ofInt sign))), (some (.int (Int32.ofInt Lv)))], [.int (Int32.ofInt 0)], zk c m27)) ⟨[zo], _, rfl, ⟨trivial, trivial⟩⟩ rfl ?_
      exact zW.fin (zfin_i rfl rfl rfl) ⟨0, m27, rfl, rfl, hIm27, (by omega), (by omega), tk31⟩
    · refine zW.step (st1 := (52, [(some (.ref 10)), (some (.int (Int32.ofInt sign))), (some (.int (Int32.ofInt Lv)))], [], zk c m27)) (st2 := (52, [(some (.ref 10)), (some (.int (Int32.ofInt sign))), (some (.int (Int32.ofInt Lv)))], [], zk c m27)) ⟨[zo], _, rfl, ⟨zbf (fun q => b32 ((zi_eq rfl (rfl : (0 : Int32) = Int32.ofInt 0) (by unfold zR; omega) (⟨by decide, by decide⟩ : zR 0)).mp q)), trivial⟩⟩ rfl ?_
      refine zW.step (st1 := (58, [(some (.ref 10)), (some (.int (Int32.ofInt sign))), (some (.int (Int32.ofInt Lv)))], [.int ((Int8.ofInt 41).toInt32), .ref 1], zk c m27)) (st2 := (58, [(some (.ref 10)), (some (.int (Int32.ofInt sign))), (some (.int (Int32.ofInt Lv)))], [.int (Int32.ofInt 41), .ref 1], zk c m27)) ⟨[zo, zo, zo], _, rfl, ⟨trivial, (Nat.lt_of_lt_of_le (Nat.le_of_ble_eq_true rfl) hN), trivial, trivial⟩⟩ (z_steq rfl (z_c1 (z_vi (by decide : (Int8.ofInt 41).toInt32 = Int32.ofInt 41)) rfl) rfl) ?_
      obtain ⟨r33, m33, hs33, hIm33, z_33, l_33, a9_33, q_33, r9_33, p9_33, n9_33, e2_33, kN_33⟩ := S_X8_takes zn (d + 7) hN hC 41 m27 hIm27 (by omega) (by omega)
      refine zW.step (st1 := (61, [(some (.ref 10)), (some (.int (Int32.ofInt sign))), (some (.int (Int32.ofInt Lv)))], [.int (Int32.ofInt r33)], zk c m33)) ⟨[zc (some (.int (Int32.ofInt r33))) (zk c m33)], _, rfl, ⟨⟨⟨(Nat.lt_of_lt_of_le (Nat.le_of_ble_eq_true rfl) hN), (Nat.le_of_ble_eq_true rfl)⟩, hs33, (Nat.le_of_ble_eq_true rfl), Nat.le_refl _, Nat.le_refl _, Nat.le_refl _, Nat.le_refl _⟩, trivial⟩⟩ rfl ?_
      have f34 : (0 : Int) ≤ m33 1 1 ∧ m33 1 1 ≤ 240 := hIm33.1 1 1
      have f35 : (0 : Int) ≤ m33 1 2 ∧ m33 1 2 ≤ 240 := hIm33.1 1 2
      have f36 : (0 : Int) ≤ m33 10 2 ∧ m33 10 2 ≤ 240 := hIm33.1 10 2
      have tk37 : zN m m33 := zN_tr tk31 kN_33
      by_cases b38 : r33 = 0
      · refine zW.step (st1 := (68, [(some (.ref 10)), (some (.int (Int32.ofInt sign))), (some (.int (Int32.ofInt Lv)))], [], zk c m33)) (st2 := (68, [(some (.ref 10)), (some (.int (Int32.ofInt sign))), (some (.int (Int32.ofInt Lv)))], [], zk c m33)) ⟨[zt], _, rfl, ⟨zbt ((zi_eq rfl (rfl : (0 : Int32) = Int32.ofInt 0) (by unfold zR; omega) (⟨by decide, by decide⟩ : zR 0)).mpr b38), trivial⟩⟩ rfl ?_
        refine zW.step (st1 := (69, [(some (.ref 10)), (some (.int (Int32.ofInt sign))), (some (.int (Int32.ofInt Lv)))], [.int (Int32.ofInt 0)], zk c m33)) (st2 := (69, [(some (.ref 10)), (some (.int (Int32.ofInt sign))), (some (.int (Int32.ofInt Lv)))], [.int (Int32.ofInt 0)], zk c m33)) ⟨[zo], _, rfl, ⟨trivial, trivial⟩⟩ rfl ?_
        exact zW.fin (zfin_i rfl rfl rfl) ⟨0, m33, rfl, rfl, hIm33, (by omega), (by omega), tk37⟩
      · refine zW.step (st1 := (64, [(some (.ref 10)), (some (.int (Int32.ofInt sign))), (some (.int (Int32.ofInt Lv)))], [], zk c m33)) (st2 := (64, [(some (.ref 10)), (some (.int (Int32.ofInt sign))), (some (.int (Int32.ofInt Lv)))], [], zk c m33)) ⟨[zo], _, rfl, ⟨zbf (fun q => b38 ((zi_eq rfl (rfl : (0 : Int32) = Int32.ofInt 0) (by unfold zR; omega) (⟨by decide, by decide⟩ : zR 0)).mp q)), trivial⟩⟩ rfl ?_
        refine zW.step (st1 := (69, [(some (.ref 10)), (some (.int (Int32.ofInt sign))), (some (.int (Int32.ofInt Lv)))], [.int (Int32.ofInt 1)], zk c m33)) (st2 := (69, [(some (.ref 10)), (some (.int (Int32.ofInt sign))), (some (.int (Int32.ofInt Lv)))], [.int (Int32.ofInt 1)], zk c m33)) ⟨[zo, zo], _, rfl, ⟨trivial, trivial, trivial⟩⟩ rfl ?_
        exact zW.fin (zfin_i rfl rfl rfl) ⟨1, m33, rfl, rfl, hIm33, (by omega), (by omega), tk37⟩

theorem S_X10_unit_L6 (zn : Bool) (d : Nat) {c : Nat × Nat} {mM : zM} (hN : 107 ≤ c.1) (hC : c.1 < z_RO) : ∀ (begun : Int) (m : zM) (hIm : zI c mM m) (r_begun : -2147483648 ≤ begun ∧ begun ≤ 2147483647) (hb : 0 ≤ begun ∧ begun ≤ 1), zCi zn (d + 8) 125 [.ref 10, .int (Int32.ofInt 6), .int (Int32.ofInt begun)] c m (fun (r : Int) (m1 : zM) => zI c mM m1 ∧ (0 ≤ r ∧ r ≤ 1) ∧ (m1 10 2 - m1 1 2 ≤ m 10 2 - m 1 2) ∧ zN m m1) :=
  fun begun m hIm r_begun hb => S_X10_unit_G zn (d + 0) hN hC begun 6 (S_X10_sum_L6 zn (d + 0) hN hC) (fun q => absurd q (by decide)) m hIm r_begun (by omega) hb

theorem S_X10_truths_L6 (zn : Bool) (d : Nat) {c : Nat × Nat} {mM : zM} (hN : 107 ≤ c.1) (hC : c.1 < z_RO) : ∀ (begun : Int) (m : zM) (hIm : zI c mM m) (r_begun : -2147483648 ≤ begun ∧ begun ≤ 2147483647) (hb : 0 ≤ begun ∧ begun ≤ 1), zCi zn (d + 9) 124 [.ref 10, .int (Int32.ofInt 6), .int (Int32.ofInt begun)] c m (fun (r : Int) (m1 : zM) => zI c mM m1 ∧ (0 ≤ r ∧ r ≤ 1) ∧ (m1 10 2 - m1 1 2 ≤ m 10 2 - m 1 2) ∧ zN m m1) :=
  fun begun m hIm r_begun hb => S_X10_truths_G zn (d + 0) hN hC begun 6 (S_X10_unit_L6 zn (d + 0) hN hC) m hIm r_begun (by omega) hb

theorem S_X10_condition_L6 (zn : Bool) (d : Nat) {c : Nat × Nat} {mM : zM} (hN : 107 ≤ c.1) (hC : c.1 < z_RO) : ∀ (begun : Int) (m : zM) (hIm : zI c mM m) (r_begun : -2147483648 ≤ begun ∧ begun ≤ 2147483647) (hb : 0 ≤ begun ∧ begun ≤ 1), zCi zn (d + 10) 117 [.ref 10, .int (Int32.ofInt 6), .int (Int32.ofInt begun)] c m (fun (r : Int) (m1 : zM) => zI c mM m1 ∧ (0 ≤ r ∧ r ≤ 1) ∧ (m1 10 2 - m1 1 2 ≤ m 10 2 - m 1 2) ∧ zN m m1) :=
  fun begun m hIm r_begun hb => S_X10_condition_G zn (d + 0) hN hC begun 6 (S_X10_truths_L6 zn (d + 0) hN hC) m hIm r_begun (by omega) hb

theorem S_X10_deeperUnit_L6 (zn : Bool) (d : Nat) {c : Nat × Nat} {mM : zM} (hN : 107 ≤ c.1) (hC : c.1 < z_RO) : ∀ (sign : Int) (m : zM) (hIm : zI c mM m) (r_sign : -2147483648 ≤ sign ∧ sign ≤ 2147483647) (ha : m 1 2 ≤ 239), zCi zn (d + 11) 118 [.ref 10, .int (Int32.ofInt sign), .int (Int32.ofInt 6)] c m (fun (r : Int) (m1 : zM) => zI c mM m1 ∧ (0 ≤ r ∧ r ≤ 1) ∧ (m1 10 2 - m1 1 2 ≤ m 10 2 - m 1 2) ∧ zN m m1) :=
  fun sign m hIm r_sign ha => S_X10_deeperUnit_G zn (d + 0) hN hC sign 6 (S_X10_unit_L6 zn (d + 2) hN hC) (S_X10_condition_L6 zn (d + 0) hN hC) m hIm r_sign (by omega) ha

theorem S_X10_unit_L5 (zn : Bool) (d : Nat) {c : Nat × Nat} {mM : zM} (hN : 107 ≤ c.1) (hC : c.1 < z_RO) : ∀ (begun : Int) (m : zM) (hIm : zI c mM m) (r_begun : -2147483648 ≤ begun ∧ begun ≤ 2147483647) (hb : 0 ≤ begun ∧ begun ≤ 1), zCi zn (d + 12) 125 [.ref 10, .int (Int32.ofInt 5), .int (Int32.ofInt begun)] c m (fun (r : Int) (m1 : zM) => zI c mM m1 ∧ (0 ≤ r ∧ r ≤ 1) ∧ (m1 10 2 - m1 1 2 ≤ m 10 2 - m 1 2) ∧ zN m m1) :=
  fun begun m hIm r_begun hb => S_X10_unit_G zn (d + 4) hN hC begun 5 (S_X10_sum_L5 zn (d + 1) hN hC) (fun _ => S_X10_deeperUnit_L6 zn (d + 0) hN hC) m hIm r_begun (by omega) hb

theorem S_X10_truths_L5 (zn : Bool) (d : Nat) {c : Nat × Nat} {mM : zM} (hN : 107 ≤ c.1) (hC : c.1 < z_RO) : ∀ (begun : Int) (m : zM) (hIm : zI c mM m) (r_begun : -2147483648 ≤ begun ∧ begun ≤ 2147483647) (hb : 0 ≤ begun ∧ begun ≤ 1), zCi zn (d + 13) 124 [.ref 10, .int (Int32.ofInt 5), .int (Int32.ofInt begun)] c m (fun (r : Int) (m1 : zM) => zI c mM m1 ∧ (0 ≤ r ∧ r ≤ 1) ∧ (m1 10 2 - m1 1 2 ≤ m 10 2 - m 1 2) ∧ zN m m1) :=
  fun begun m hIm r_begun hb => S_X10_truths_G zn (d + 4) hN hC begun 5 (S_X10_unit_L5 zn (d + 0) hN hC) m hIm r_begun (by omega) hb

theorem S_X10_condition_L5 (zn : Bool) (d : Nat) {c : Nat × Nat} {mM : zM} (hN : 107 ≤ c.1) (hC : c.1 < z_RO) : ∀ (begun : Int) (m : zM) (hIm : zI c mM m) (r_begun : -2147483648 ≤ begun ∧ begun ≤ 2147483647) (hb : 0 ≤ begun ∧ begun ≤ 1), zCi zn (d + 14) 117 [.ref 10, .int (Int32.ofInt 5), .int (Int32.ofInt begun)] c m (fun (r : Int) (m1 : zM) => zI c mM m1 ∧ (0 ≤ r ∧ r ≤ 1) ∧ (m1 10 2 - m1 1 2 ≤ m 10 2 - m 1 2) ∧ zN m m1) :=
  fun begun m hIm r_begun hb => S_X10_condition_G zn (d + 4) hN hC begun 5 (S_X10_truths_L5 zn (d + 0) hN hC) m hIm r_begun (by omega) hb

