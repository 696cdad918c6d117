/-! texts, by program (wip/tools/gw5): X10_read_F -/
set_option maxRecDepth 100000 in
set_option maxHeartbeats 4000000 in
theorem L_X10_read_F_20 (zn : Bool) (d : Nat) {c : Nat × Nat} {mM : zM} (hN : 107 ≤ c.1) (hC : c.1 < z_RO) (m0 : zM) (Q : Option Value → z_H → Prop) (KR : ∀ v h1, (fun v h1 => ∃ (r : Int) (m1 : zM), v = some (.int (Int32.ofInt r)) ∧ h1 = zk c m1 ∧ zI c mM m1 ∧ (-2147483648 ≤ r ∧ r ≤ 2147483647) ∧ (r = zt_fault (mM 2) (mM 1 1)) ∧ zN m0 m1) v h1 → Q v h1) :
    ∀ (w : Nat) (x1 : Int) (m : zM), zI c mM m → 0 ≤ x1 ∧ x1 ≤ 240 → 0 ≤ m 1 2 ∧ m 1 2 ≤ mM 1 1 ∧ 2 * x1 ≤ m 1 2 → (zt_list (mM 2) (mM 1 1) 59 59 (zt_clause (mM 2) (mM 1 1)) (zt_clause (mM 2) (mM 1 1)) 0).1 = (zt_list (mM 2) (mM 1 1) 59 59 (zt_clause (mM 2) (mM 1 1)) (zt_clause (mM 2) (mM 1 1)) (m 1 2)).1 ∧ (zt_list (mM 2) (mM 1 1) 59 59 (zt_clause (mM 2) (mM 1 1)) (zt_clause (mM 2) (mM 1 1)) 0).2 = (zt_list (mM 2) (mM 1 1) 59 59 (zt_clause (mM 2) (mM 1 1)) (zt_clause (mM 2) (mM 1 1)) (m 1 2)).2 → zN m0 m → w = (240 - x1).toNat → zW zn (d + 35) 121 c (20, [(some (.ref 10)), (some (.int (Int32.ofInt x1)))], [], zk c m) Q := by
  intro w
  induction w using Nat.strongRecOn with | _ w ih => ?_
  intro x1 m hIm i1 jb J tN hw
  have f1 : (0 : Int) ≤ m 1 1 ∧ m 1 1 ≤ 240 := hIm.1 1 1
  have f2 : (0 : Int) ≤ m 1 2 ∧ m 1 2 ≤ 240 := hIm.1 1 2
  have q3 := zn_c hIm
  have q4 := zt_clause_g (b := mM 2) (n := mM 1 1) (m 1 2) (by omega) (by omega)
  have q5 := ztk_f (mM 2) (mM 1 1) 59 (zt_clause (mM 2) (mM 1 1) (m 1 2)).2
  have q6 := zt_fault_0 (b := mM 2) (n := mM 1 1)
  have q7 := zt_fault_1 (b := mM 2) (n := mM 1 1)
  have q8 := zt_fault_2 (b := mM 2) (n := mM 1 1)
  by_cases b9 : 240 ≤ x1
  · refine zW.step (st1 := (63, [(some (.ref 10)), (some (.int (Int32.ofInt x1)))], [], zk c m)) (st2 := (63, [(some (.ref 10)), (some (.int (Int32.ofInt x1)))], [], zk c m)) ⟨[zo, zo, zt], _, rfl, ⟨trivial, trivial, zbt ((zi_le (by decide : (Int16.ofInt 240).toInt32 = Int32.ofInt 240) rfl (⟨by decide, by decide⟩ : zR 240) (by unfold zR; omega)).mpr b9), trivial⟩⟩ rfl ?_
    refine zW.step (st1 := (67, [(some (.ref 10)), (some (.int (Int32.ofInt x1)))], [.ref 1], zk c m)) (st2 := (67, [(some (.ref 10)), (some (.int (Int32.ofInt x1)))], [.ref 1], zk c m)) ⟨[zo, zo], _, rfl, ⟨trivial, (Nat.lt_of_lt_of_le (Nat.le_of_ble_eq_true rfl) hN), trivial⟩⟩ rfl ?_
    obtain ⟨r10, m10, hs10, hIm10, z_10, f_10, p_10, b_10, l_10, c3_10, kN_10, kD_10⟩ := S_X8_next_F zn (d + 33) hN hC (m 1 2) m hIm (by omega) (by omega)
    refine zW.step (st1 := (70, [(some (.ref 10)), (some (.int (Int32.ofInt x1)))], [.int (Int32.ofInt r10)], zk c m10)) ⟨[zc (some (.int (Int32.ofInt r10))) (zk c m10)], _, rfl, ⟨⟨⟨(Nat.lt_of_lt_of_le (Nat.le_of_ble_eq_true rfl) hN), (Nat.le_of_ble_eq_true rfl)⟩, hs10, (Nat.le_of_ble_eq_true rfl), Nat.le_refl _, Nat.le_refl _, Nat.le_refl _, Nat.le_refl _⟩, trivial⟩⟩ rfl ?_
    have f11 : (0 : Int) ≤ m10 1 1 ∧ m10 1 1 ≤ 240 := hIm10.1 1 1
    have f12 : (0 : Int) ≤ m10 1 2 ∧ m10 1 2 ≤ 240 := hIm10.1 1 2
    have tk13 : zN m0 m10 := zN_tr tN kN_10
    by_cases b14 : r10 = (-1)
    · refine zW.step (st1 := (74, [(some (.ref 10)), (some (.int (Int32.ofInt x1)))], [], zk c m10)) (st2 := (74, [(some (.ref 10)), (some (.int (Int32.ofInt x1)))], [], zk c m10)) ⟨[zo, zo], _, rfl, ⟨trivial, zbf (fun q => q ((zi_eq rfl rfl (by unfold zR; omega) (⟨by decide, by decide⟩ : zR (-1))).mpr b14)), trivial⟩⟩ rfl ?_
      refine zW.step (st1 := (85, [(some (.ref 10)), (some (.int (Int32.ofInt x1)))], [.int (Int32.ofInt (-1))], zk c m10)) (st2 := (85, [(some (.ref 10)), (some (.int (Int32.ofInt x1)))], [.int (Int32.ofInt (-1))], zk c m10)) ⟨[zo, zo], _, rfl, ⟨trivial, trivial, trivial⟩⟩ rfl ?_
      exact zW.fin (zfin_i rfl rfl rfl) (KR _ _ ⟨(-1), m10, rfl, rfl, hIm10, (by omega), (by omega), tk13⟩)
    · refine zW.step (st1 := (78, [(some (.ref 10)), (some (.int (Int32.ofInt x1)))], [], zk c m10)) (st2 := (78, [(some (.ref 10)), (some (.int (Int32.ofInt x1)))], [], zk c m10)) ⟨[zo, zt], _, rfl, ⟨trivial, zbt (fun q => b14 ((zi_eq rfl rfl (by unfold zR; omega) (⟨by decide, by decide⟩ : zR (-1))).mp q)), trivial⟩⟩ rfl ?_
      refine zW.step (st1 := (85, [(some (.ref 10)), (some (.int (Int32.ofInt x1)))], [.int (Int32.ofInt (m10 1 2))], zk c m10)) (st2 := (85, [(some (.ref 10)), (some (.int (Int32.ofInt x1)))], [.int (Int32.ofInt (m10 1 2))], zk c m10)) ⟨[zo, zo, zo], _, rfl, ⟨trivial, (Nat.lt_of_lt_of_le (Nat.le_of_ble_eq_true rfl) hN), (Nat.lt_of_lt_of_le (Nat.le_of_ble_eq_true rfl) hN), trivial⟩⟩ rfl ?_
      exact zW.fin (zfin_i rfl rfl rfl) (KR _ _ ⟨m10 1 2, m10, rfl, rfl, hIm10, (by omega), (by omega), tk13⟩)
  · refine zW.step (st1 := (27, [(some (.ref 10)), (some (.int (Int32.ofInt x1)))], [], zk c m)) (st2 := (27, [(some (.ref 10)), (some (.int (Int32.ofInt x1)))], [], zk c m)) ⟨[zo, zo, zo], _, rfl, ⟨trivial, trivial, zbf (fun q => b9 ((zi_le (by decide : (Int16.ofInt 240).toInt32 = Int32.ofInt 240) rfl (⟨by decide, by decide⟩ : zR 240) (by unfold zR; omega)).mp q)), trivial⟩⟩ rfl ?_
    refine zW.step (st1 := (28, [(some (.ref 10)), (some (.int (Int32.ofInt x1)))], [.ref 10], zk c m)) (st2 := (28, [(some (.ref 10)), (some (.int (Int32.ofInt x1)))], [.ref 10], zk c m)) ⟨[zo], _, rfl, ⟨trivial, trivial⟩⟩ rfl ?_
    obtain ⟨r15, m15, hs15, hIm15, z_15, p_15, b_15, kN_15⟩ := S_X10_clause_F zn (d + 0) hN hC (m 1 2) m hIm (by omega) (by omega)
    refine zW.step (st1 := (31, [(some (.ref 10)), (some (.int (Int32.ofInt x1)))], [.int (Int32.ofInt r15)], zk c m15)) ⟨[zc (some (.int (Int32.ofInt r15))) (zk c m15)], _, rfl, ⟨⟨⟨(Nat.lt_of_lt_of_le (Nat.le_of_ble_eq_true rfl) hN), (Nat.le_of_ble_eq_true rfl)⟩, hs15, (Nat.le_of_ble_eq_true rfl), Nat.le_refl _, Nat.le_refl _, Nat.le_refl _, Nat.le_refl _⟩, trivial⟩⟩ rfl ?_
    have f16 : (0 : Int) ≤ m15 1 1 ∧ m15 1 1 ≤ 240 := hIm15.1 1 1
    have f17 : (0 : Int) ≤ m15 1 2 ∧ m15 1 2 ≤ 240 := hIm15.1 1 2
    have tk18 : zN m0 m15 := zN_tr tN kN_15
    by_cases b19 : r15 = 0
    · refine zW.step (st1 := (34, [(some (.ref 10)), (some (.int (Int32.ofInt x1)))], [], zk c m15)) (st2 := (34, [(some (.ref 10)), (some (.int (Int32.ofInt x1)))], [], zk c m15)) ⟨[zo], _, rfl, ⟨zbf (fun q => q ((zi_eq rfl (rfl : (0 : Int32) = Int32.ofInt 0) (by unfold zR; omega) (⟨by decide, by decide⟩ : zR 0)).mpr b19)), trivial⟩⟩ rfl ?_
      have q20 := zt_list_0 (b := mM 2) (n := mM 1 1) (s1 := 59) (s2 := 59) (f := zt_clause (mM 2) (mM 1 1)) (f0 := zt_clause (mM 2) (mM 1 1)) (a := m 1 2) (by omega)
      refine zW.step (st1 := (41, [(some (.ref 10)), (some (.int (Int32.ofInt x1)))], [.int (Int32.ofInt (m15 1 2))], zk c m15)) (st2 := (41, [(some (.ref 10)), (some (.int (Int32.ofInt x1)))], [.int (Int32.ofInt (m15 1 2))], zk c m15)) ⟨[zo, zo, zo], _, rfl, ⟨trivial, (Nat.lt_of_lt_of_le (Nat.le_of_ble_eq_true rfl) hN), (Nat.lt_of_lt_of_le (Nat.le_of_ble_eq_true rfl) hN), trivial⟩⟩ rfl ?_
      exact zW.fin (zfin_i rfl rfl rfl) (KR _ _ ⟨m15 1 2, m15, rfl, rfl, hIm15, (by omega), (by omega), tk18⟩)
    · refine zW.step (st1 := (42, [(some (.ref 10)), (some (.int (Int32.ofInt x1)))], [], zk c m15)) (st2 := (42, [(some (.ref 10)), (some (.int (Int32.ofInt x1)))], [], zk c m15)) ⟨[zt], _, rfl, ⟨zbt (fun q => b19 ((zi_eq rfl (rfl : (0 : Int32) = Int32.ofInt 0) (by unfold zR; omega) (⟨by decide, by decide⟩ : zR 0)).mp q)), trivial⟩⟩ rfl ?_
      refine zW.step (st1 := (48, [(some (.ref 10)), (some (.int (Int32.ofInt x1)))], [.int ((Int8.ofInt 59).toInt32), .ref 1], zk c m15)) (st2 := (48, [(some (.ref 10)), (some (.int (Int32.ofInt x1)))], [.int (Int32.ofInt 59), .ref 1], zk c m15)) ⟨[zo, zo, zo], _, rfl, ⟨trivial, (Nat.lt_of_lt_of_le (Nat.le_of_ble_eq_true rfl) hN), trivial, trivial⟩⟩ (z_steq rfl (z_c1 (z_vi (by decide : (Int8.ofInt 59).toInt32 = Int32.ofInt 59)) rfl) rfl) ?_
      obtain ⟨r21, m21, hs21, hIm21, z_21, p_21, b_21, kN_21, kD_21⟩ := S_X8_takes_F zn (d + 32) hN hC 59 ((zt_clause (mM 2) (mM 1 1) (m 1 2)).2) m15 hIm15 (by omega) (by omega) (by omega) (by omega)
      refine zW.step (st1 := (51, [(some (.ref 10)), (some (.int (Int32.ofInt x1)))], [.int (Int32.ofInt r21)], zk c m21)) ⟨[zc (some (.int (Int32.ofInt r21))) (zk c m21)], _, rfl, ⟨⟨⟨(Nat.lt_of_lt_of_le (Nat.le_of_ble_eq_true rfl) hN), (Nat.le_of_ble_eq_true rfl)⟩, hs21, (Nat.le_of_ble_eq_true rfl), Nat.le_refl _, Nat.le_refl _, Nat.le_refl _, Nat.le_refl _⟩, trivial⟩⟩ rfl ?_
      have f22 : (0 : Int) ≤ m21 1 1 ∧ m21 1 1 ≤ 240 := hIm21.1 1 1
      have f23 : (0 : Int) ≤ m21 1 2 ∧ m21 1 2 ≤ 240 := hIm21.1 1 2
      have tk24 : zN m0 m21 := zN_tr tk18 kN_21
      by_cases b25 : r21 = 0
      · refine zW.step (st1 := (54, [(some (.ref 10)), (some (.int (Int32.ofInt x1)))], [], zk c m21)) (st2 := (54, [(some (.ref 10)), (some (.int (Int32.ofInt x1)))], [], zk c m21)) ⟨[zo], _, rfl, ⟨zbf (fun q => q ((zi_eq rfl (rfl : (0 : Int32) = Int32.ofInt 0) (by unfold zR; omega) (⟨by decide, by decide⟩ : zR 0)).mpr b25)), trivial⟩⟩ rfl ?_
        have q26 := trivial
        have q27 := zt_cl_stop (b := mM 2) (n := mM 1 1) (s := 59) (f := zt_clause (mM 2) (mM 1 1)) (a := m 1 2) (by omega) (by omega)
        have q28 := znx_i (b := mM 2) (n := mM 1 1) (a := (zt_clause (mM 2) (mM 1 1) (m 1 2)).2) (by omega) (by omega)
        have q29 := congrArg (zpk (mM 2) (mM 1 1)) (znx_i (b := mM 2) (n := mM 1 1) (a := (zt_clause (mM 2) (mM 1 1) (m 1 2)).2) (by omega) (by omega))
        have q30 := congrArg (zpk (mM 2) (mM 1 1)) (show (zt_list (mM 2) (mM 1 1) 59 59 (zt_clause (mM 2) (mM 1 1)) (zt_clause (mM 2) (mM 1 1)) 0).2 = znx (mM 2) (mM 1 1) (zt_clause (mM 2) (mM 1 1) (m 1 2)).2 by omega)
        refine zW.step (st1 := (67, [(some (.ref 10)), (some (.int (Int32.ofInt x1)))], [.ref 1], zk c m21)) (st2 := (67, [(some (.ref 10)), (some (.int (Int32.ofInt x1)))], [.ref 1], zk c m21)) ⟨[zo, zo, zo], _, rfl, ⟨trivial, trivial, (Nat.lt_of_lt_of_le (Nat.le_of_ble_eq_true rfl) hN), trivial⟩⟩ rfl ?_
        obtain ⟨r31, m31, hs31, hIm31, z_31, f_31, p_31, b_31, l_31, c3_31, kN_31, kD_31⟩ := S_X8_next_F zn (d + 33) hN hC (znx (mM 2) (mM 1 1) (zt_clause (mM 2) (mM 1 1) (m 1 2)).2) m21 hIm21 (by omega) (by omega)
        refine zW.step (st1 := (70, [(some (.ref 10)), (some (.int (Int32.ofInt x1)))], [.int (Int32.ofInt r31)], zk c m31)) ⟨[zc (some (.int (Int32.ofInt r31))) (zk c m31)], _, rfl, ⟨⟨⟨(Nat.lt_of_lt_of_le (Nat.le_of_ble_eq_true rfl) hN), (Nat.le_of_ble_eq_true rfl)⟩, hs31, (Nat.le_of_ble_eq_true rfl), Nat.le_refl _, Nat.le_refl _, Nat.le_refl _, Nat.le_refl _⟩, trivial⟩⟩ rfl ?_
        have f32 : (0 : Int) ≤ m31 1 1 ∧ m31 1 1 ≤ 240 := hIm31.1 1 1
        have f33 : (0 : Int) ≤ m31 1 2 ∧ m31 1 2 ≤ 240 := hIm31.1 1 2
        have tk34 : zN m0 m31 := zN_tr tk24 kN_31
        by_cases b35 : r31 = (-1)
        · refine zW.step (st1 := (74, [(some (.ref 10)), (some (.int (Int32.ofInt x1)))], [], zk c m31)) (st2 := (74, [(some (.ref 10)), (some (.int (Int32.ofInt x1)))], [], zk c m31)) ⟨[zo, zo], _, rfl, ⟨trivial, zbf (fun q => q ((zi_eq rfl rfl (by unfold zR; omega) (⟨by decide, by decide⟩ : zR (-1))).mpr b35)), trivial⟩⟩ rfl ?_
          refine zW.step (st1 := (85, [(some (.ref 10)), (some (.int (Int32.ofInt x1)))], [.int (Int32.ofInt (-1))], zk c m31)) (st2 := (85, [(some (.ref 10)), (some (.int (Int32.ofInt x1)))], [.int (Int32.ofInt (-1))], zk c m31)) ⟨[zo, zo], _, rfl, ⟨trivial, trivial, trivial⟩⟩ rfl ?_
          exact zW.fin (zfin_i rfl rfl rfl) (KR _ _ ⟨(-1), m31, rfl, rfl, hIm31, (by omega), (by omega), tk34⟩)
        · refine zW.step (st1 := (78, [(some (.ref 10)), (some (.int (Int32.ofInt x1)))], [], zk c m31)) (st2 := (78, [(some (.ref 10)), (some (.int (Int32.ofInt x1)))], [], zk c m31)) ⟨[zo, zt], _, rfl, ⟨trivial, zbt (fun q => b35 ((zi_eq rfl rfl (by unfold zR; omega) (⟨by decide, by decide⟩ : zR (-1))).mp q)), trivial⟩⟩ rfl ?_
          refine zW.step (st1 := (85, [(some (.ref 10)), (some (.int (Int32.ofInt x1)))], [.int (Int32.ofInt (m31 1 2))], zk c m31)) (st2 := (85, [(some (.ref 10)), (some (.int (Int32.ofInt x1)))], [.int (Int32.ofInt (m31 1 2))], zk c m31)) ⟨[zo, zo, zo], _, rfl, ⟨trivial, (Nat.lt_of_lt_of_le (Nat.le_of_ble_eq_true rfl) hN), (Nat.lt_of_lt_of_le (Nat.le_of_ble_eq_true rfl) hN), trivial⟩⟩ rfl ?_
          exact zW.fin (zfin_i rfl rfl rfl) (KR _ _ ⟨m31 1 2, m31, rfl, rfl, hIm31, (by omega), (by omega), tk34⟩)
      · refine zW.step (st1 := (57, [(some (.ref 10)), (some (.int (Int32.ofInt x1)))], [], zk c m21)) (st2 := (57, [(some (.ref 10)), (some (.int (Int32.ofInt x1)))], [], zk c m21)) ⟨[zt], _, rfl, ⟨zbt (fun q => b25 ((zi_eq rfl (rfl : (0 : Int32) = Int32.ofInt 0) (by unfold zR; omega) (⟨by decide, by decide⟩ : zR 0)).mp q)), trivial⟩⟩ rfl ?_
        have q36 := trivial
        have q37 := zt_cl_go (b := mM 2) (n := mM 1 1) (s := 59) (f := zt_clause (mM 2) (mM 1 1)) (a := m 1 2) zt_clause_g (by decide) (by omega) (by omega) (by omega) (by omega)
        refine zW.step (st1 := (20, [(some (.ref 10)), (some (.int ((Int32.ofInt x1) + Int32.ofInt 1)))], [], zk c m21)) (st2 := (20, [(some (.ref 10)), (some (.int (Int32.ofInt (x1 + 1))))], [], zk c m21)) ⟨[zo, zo], _, rfl, ⟨trivial, trivial, trivial⟩⟩ (z_steq (z_c1 rfl (z_c1 (z_si (zi_add rfl rfl)) rfl)) rfl rfl) ?_
        exact ih _ (by omega) (x1 + 1) m21 hIm21 (by omega) (by omega) (by have e9 : m21 1 2 = znx (mM 2) (mM 1 1) (zt_clause (mM 2) (mM 1 1) (m 1 2)).2 + 1 := (by omega); rw [e9]; omega) tk24 rfl

set_option maxRecDepth 100000 in
set_option maxHeartbeats 4000000 in
theorem S_X10_read_F (zn : Bool) (d : Nat) {c : Nat × Nat} {mM : zM} (hN : 107 ≤ c.1) (hC : c.1 < z_RO) (m : zM) (hIm : zI c mM m) : zCi zn (d + 36) 121 [.ref 10] c m (fun (r : Int) (m1 : zM) => zI c mM m1 ∧ (-2147483648 ≤ r ∧ r ≤ 2147483647) ∧ (r = zt_fault (mM 2) (mM 1 1)) ∧ zN m m1) := by
  refine zCi.of zu_X10_read hC (Nat.le_of_ble_eq_true rfl) ?_
  show zW zn (d + 35) 121 c (0, [(some (.ref 10)), none], [], zk c m) (fun v h1 => ∃ (r : Int) (m1 : zM), v = some (.int (Int32.ofInt r)) ∧ h1 = zk c m1 ∧ zI c mM m1 ∧ (-2147483648 ≤ r ∧ r ≤ 2147483647) ∧ (r = zt_fault (mM 2) (mM 1 1)) ∧ zN m m1)
  have f38 : (0 : Int) ≤ m 1 1 ∧ m 1 1 ≤ 240 := hIm.1 1 1
  have f39 : (0 : Int) ≤ m 1 2 ∧ m 1 2 ≤ 240 := hIm.1 1 2
  have q40 := zn_c hIm
  obtain ⟨m41, hm41⟩ : ∃ q, q = zm_up m 10 2 0 := ⟨_, rfl⟩
  have hIm41 : zI c mM m41 := by rw [hm41]; exact zI_up hIm (zOk_p (by decide)) (show (0 : Int) ≤ 0 ∧ 0 ≤ 240 by omega)
  have em41 : m41 10 2 = 0 := by rw [hm41]; exact zm_eq
  have f42 : m41 1 1 = m 1 1 := by rw [hm41]; exact zm_ne (by omega)
  have f43 : m41 1 2 = m 1 2 := by rw [hm41]; exact zm_ne (by omega)
  have tk44 : zN m m41 := by rw [hm41]; exact zN_up zN_rf (by unfold zRow; omega)
  refine zW.step (st1 := (5, [(some (.ref 10)), none], [], z_hup (zk c m) 10 (.inr (10, [.ref 1, .ref 11, .int (Int32.ofInt 0), .int (Int32.ofInt (m 10 3))])))) (st2 := (5, [(some (.ref 10)), none], [], zk c m41)) ⟨[zo, zo, zo], _, rfl, ⟨trivial, trivial, ⟨(Nat.lt_of_lt_of_le (Nat.le_of_ble_eq_true rfl) hN), rfl, rfl⟩, trivial⟩⟩ (z_steq rfl rfl ((zk_up c m 10 2 0 _ rfl).trans (by rw [hm41]))) ?_
  obtain ⟨m45, hm45⟩ : ∃ q, q = zm_up m41 10 3 0 := ⟨_, rfl⟩
  have hIm45 : zI c mM m45 := by rw [hm45]; exact zI_up hIm41 (zOk_p (by decide)) (show (0 : Int) ≤ 0 ∧ 0 ≤ 1 by omega)
  have em45 : m45 10 3 = 0 := by rw [hm45]; exact zm_eq
  have f46 : m45 1 1 = m41 1 1 := by rw [hm45]; exact zm_ne (by omega)
  have f47 : m45 1 2 = m41 1 2 := by rw [hm45]; exact zm_ne (by omega)
  have tk48 : zN m m45 := by rw [hm45]; exact zN_up tk44 (by unfold zRow; omega)
  clear tk44
  refine zW.step (st1 := (10, [(some (.ref 10)), none], [], z_hup (zk c m41) 10 (.inr (10, [.ref 1, .ref 11, .int (Int32.ofInt (m41 10 2)), .int (Int32.ofInt 0)])))) (st2 := (10, [(some (.ref 10)), none], [], zk c m45)) ⟨[zo, zo, zo], _, rfl, ⟨trivial, trivial, ⟨(Nat.lt_of_lt_of_le (Nat.le_of_ble_eq_true rfl) hN), (z_narZ rfl (by omega)), rfl⟩, trivial⟩⟩ (z_steq rfl rfl ((zk_up c m41 10 3 0 _ rfl).trans (by rw [hm45]))) ?_
  obtain ⟨m49, hm49⟩ : ∃ q, q = zm_up m45 1 2 0 := ⟨_, rfl⟩
  have hIm49 : zI c mM m49 := by rw [hm49]; exact zI_up hIm45 (by unfold zOk; decide) (show (0 : Int) ≤ 0 ∧ 0 ≤ 240 by omega)
  have em49 : m49 1 2 = 0 := by rw [hm49]; exact zm_eq
  have f50 : m49 1 1 = m45 1 1 := by rw [hm49]; exact zm_ne (by omega)
  have tk51 : zN m m49 := by rw [hm49]; exact zN_up tk48 (by unfold zRow; omega)
  clear tk48
  refine zW.step (st1 := (18, [(some (.ref 10)), none], [], z_hup (zk c m45) 1 (.inr (8, [.ref 2, .int (Int32.ofInt (m45 1 1)), .int (Int32.ofInt 0), .int (Int32.ofInt (m45 1 3))])))) (st2 := (18, [(some (.ref 10)), none], [], zk c m49)) ⟨[zo, zo, zo, zo], _, rfl, ⟨trivial, (Nat.lt_of_lt_of_le (Nat.le_of_ble_eq_true rfl) hN), trivial, ⟨(Nat.lt_of_lt_of_le (Nat.le_of_ble_eq_true rfl) hN), rfl, rfl⟩, trivial⟩⟩ (z_steq rfl rfl ((zk_up c m45 1 2 0 _ rfl).trans (by rw [hm49]))) ?_
  refine zW.step (st1 := (20, [(some (.ref 10)), (some (.int (Int32.ofInt 0)))], [], zk c m49)) (st2 := (20, [(some (.ref 10)), (some (.int (Int32.ofInt 0)))], [], zk c m49)) ⟨[zo, zo], _, rfl, ⟨trivial, trivial, trivial⟩⟩ rfl ?_
  exact L_X10_read_F_20 zn _ hN hC m _ (fun v9 h9 hq9 => hq9) _ 0 m49 hIm49 (by omega) (by omega) (by have e9 : m49 1 2 = 0 := (by omega); rw [e9]; exact ⟨rfl, rfl⟩) tk51 rfl

