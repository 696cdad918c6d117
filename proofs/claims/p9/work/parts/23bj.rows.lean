/-! texts, by program (wip/tools/gw5): X10_read_F -/
set_option maxRecDepth 100000 in
set_option maxHeartbeats 4000000 in
theorem L_X10_read_F_20 (zn : Bool) (d : Nat) {c : Nat × Nat} {mM : zM} (hN : 107 ≤ c.1) (hC : c.1 < z_RO) (m0 : zM) (Q : Option Value → z_H → Prop) (KR : ∀ v h1, (fun v h1 => ∃ (r : Int) (m1 : zM), v = some (.int (Int32.ofInt r)) ∧ h1 = zk c m1 ∧ zI c mM m1 ∧ (-2147483648 ≤ r ∧ r ≤ 2147483647) ∧ (r = zt_fault (mM 2) (mM 1 1)) ∧ (r = -1 → m1 10 2 ≤ 239) ∧ zN m0 m1) v h1 → Q v h1) :
    ∀ (w : Nat) (x1 : Int) (m : zM), zI c mM m → x1 = 0 ∧ m 10 2 ≤ m 1 2 ∨ m 10 2 + 1 ≤ m 1 2 → 0 ≤ x1 ∧ x1 ≤ 240 → 0 ≤ m 1 2 ∧ m 1 2 ≤ mM 1 1 ∧ 2 * x1 ≤ m 1 2 → (zt_list (mM 2) (mM 1 1) 59 59 (zt_clause (mM 2) (mM 1 1)) (zt_clause (mM 2) (mM 1 1)) 0).1 = (zt_list (mM 2) (mM 1 1) 59 59 (zt_clause (mM 2) (mM 1 1)) (zt_clause (mM 2) (mM 1 1)) (m 1 2)).1 ∧ (zt_list (mM 2) (mM 1 1) 59 59 (zt_clause (mM 2) (mM 1 1)) (zt_clause (mM 2) (mM 1 1)) 0).2 = (zt_list (mM 2) (mM 1 1) 59 59 (zt_clause (mM 2) (mM 1 1)) (zt_clause (mM 2) (mM 1 1)) (m 1 2)).2 → zN m0 m → w = (240 - x1).toNat → zW zn (d + 35) 121 c (20, [(some (.ref 10)), (some (.int (Int32.ofInt x1)))], [], zk c m) Q := by
  intro w
  induction w using Nat.strongRecOn with | _ w ih => ?_
  intro x1 m hIm pt i1 jb J tN hw
  have f1 : (0 : Int) ≤ m 1 1 ∧ m 1 1 ≤ 240 := hIm.1 1 1
  have f2 : (0 : Int) ≤ m 1 2 ∧ m 1 2 ≤ 240 := hIm.1 1 2
  have f3 : (0 : Int) ≤ m 10 2 ∧ m 10 2 ≤ 240 := hIm.1 10 2
  have q4 := zn_c hIm
  have q5 := zt_clause_g (b := mM 2) (n := mM 1 1) (m 1 2) (by omega) (by omega)
  have q6 := ztk_f (mM 2) (mM 1 1) 59 (zt_clause (mM 2) (mM 1 1) (m 1 2)).2
  have q7 := zt_fault_0 (b := mM 2) (n := mM 1 1)
  have q8 := zt_fault_1 (b := mM 2) (n := mM 1 1)
  have q9 := zt_fault_2 (b := mM 2) (n := mM 1 1)
  by_cases b10 : 240 ≤ x1
  · refine zW.step (st1 := (63, [(some (.ref 10)), (some (.int (Int32.ofInt x1)))], [], zk c m)) (st2 := (63, [(some (.ref 10)), (some (.int (Int32.ofInt x1)))], [], zk c m)) ⟨[zo, zo, zt], _, rfl, ⟨trivial, trivial, zbt ((zi_le (by decide : (Int16.ofInt 240).toInt32 = Int32.ofInt 240) rfl (⟨by decide, by decide⟩ : zR 240) (by unfold zR; omega)).mpr b10), trivial⟩⟩ rfl ?_
    refine zW.step (st1 := (67, [(some (.ref 10)), (some (.int (Int32.ofInt x1)))], [.ref 1], zk c m)) (st2 := (67, [(some (.ref 10)), (some (.int (Int32.ofInt x1)))], [.ref 1], zk c m)) ⟨[zo, zo], _, rfl, ⟨trivial, (Nat.lt_of_lt_of_le (Nat.le_of_ble_eq_true rfl) hN), trivial⟩⟩ rfl ?_
    obtain ⟨r11, m11, hs11, hIm11, z_11, f_11, p_11, b_11, l_11, c3_11, kN_11, kD_11⟩ := S_X8_next_F zn (d + 33) hN hC (m 1 2) m hIm (by omega) (by omega)
    refine zW.step (st1 := (70, [(some (.ref 10)), (some (.int (Int32.ofInt x1)))], [.int (Int32.ofInt r11)], zk c m11)) ⟨[zc (some (.int (Int32.ofInt r11))) (zk c m11)], _, rfl, ⟨⟨⟨(Nat.lt_of_lt_of_le (Nat.le_of_ble_eq_true rfl) hN), (Nat.le_of_ble_eq_true rfl)⟩, hs11, (Nat.le_of_ble_eq_true rfl), Nat.le_refl _, Nat.le_refl _, Nat.le_refl _, Nat.le_refl _⟩, trivial⟩⟩ rfl ?_
    have f12 : (0 : Int) ≤ m11 1 1 ∧ m11 1 1 ≤ 240 := hIm11.1 1 1
    have f13 : m11 1 1 = m 1 1 := kD_11 1 1 (by omega)
    have f14 : (0 : Int) ≤ m11 1 2 ∧ m11 1 2 ≤ 240 := hIm11.1 1 2
    have f15 : (0 : Int) ≤ m11 10 2 ∧ m11 10 2 ≤ 240 := hIm11.1 10 2
    have f16 : m11 10 2 = m 10 2 := kD_11 10 2 (by omega)
    have tk17 : zN m0 m11 := zN_tr tN kN_11
    by_cases b18 : r11 = (-1)
    · refine zW.step (st1 := (74, [(some (.ref 10)), (some (.int (Int32.ofInt x1)))], [], zk c m11)) (st2 := (74, [(some (.ref 10)), (some (.int (Int32.ofInt x1)))], [], zk c m11)) ⟨[zo, zo], _, rfl, ⟨trivial, zbf (fun q => q ((zi_eq rfl rfl (by unfold zR; omega) (⟨by decide, by decide⟩ : zR (-1))).mpr b18)), trivial⟩⟩ rfl ?_
      refine zW.step (st1 := (85, [(some (.ref 10)), (some (.int (Int32.ofInt x1)))], [.int (Int32.ofInt (-1))], zk c m11)) (st2 := (85, [(some (.ref 10)), (some (.int (Int32.ofInt x1)))], [.int (Int32.ofInt (-1))], zk c m11)) ⟨[zo, zo], _, rfl, ⟨trivial, trivial, trivial⟩⟩ rfl ?_
      exact zW.fin (zfin_i rfl rfl rfl) (KR _ _ ⟨(-1), m11, rfl, rfl, hIm11, (by omega), (by omega), (by omega), tk17⟩)
    · refine zW.step (st1 := (78, [(some (.ref 10)), (some (.int (Int32.ofInt x1)))], [], zk c m11)) (st2 := (78, [(some (.ref 10)), (some (.int (Int32.ofInt x1)))], [], zk c m11)) ⟨[zo, zt], _, rfl, ⟨trivial, zbt (fun q => b18 ((zi_eq rfl rfl (by unfold zR; omega) (⟨by decide, by decide⟩ : zR (-1))).mp q)), trivial⟩⟩ rfl ?_
      refine zW.step (st1 := (85, [(some (.ref 10)), (some (.int (Int32.ofInt x1)))], [.int (Int32.ofInt (m11 1 2))], zk c m11)) (st2 := (85, [(some (.ref 10)), (some (.int (Int32.ofInt x1)))], [.int (Int32.ofInt (m11 1 2))], zk c m11)) ⟨[zo, zo, zo], _, rfl, ⟨trivial, (Nat.lt_of_lt_of_le (Nat.le_of_ble_eq_true rfl) hN), (Nat.lt_of_lt_of_le (Nat.le_of_ble_eq_true rfl) hN), trivial⟩⟩ rfl ?_
      exact zW.fin (zfin_i rfl rfl rfl) (KR _ _ ⟨m11 1 2, m11, rfl, rfl, hIm11, (by omega), (by omega), (by omega), tk17⟩)
  · refine zW.step (st1 := (27, [(some (.ref 10)), (some (.int (Int32.ofInt x1)))], [], zk c m)) (st2 := (27, [(some (.ref 10)), (some (.int (Int32.ofInt x1)))], [], zk c m)) ⟨[zo, zo, zo], _, rfl, ⟨trivial, trivial, zbf (fun q => b10 ((zi_le (by decide : (Int16.ofInt 240).toInt32 = Int32.ofInt 240) rfl (⟨by decide, by decide⟩ : zR 240) (by unfold zR; omega)).mp q)), trivial⟩⟩ rfl ?_
    refine zW.step (st1 := (28, [(some (.ref 10)), (some (.int (Int32.ofInt x1)))], [.ref 10], zk c m)) (st2 := (28, [(some (.ref 10)), (some (.int (Int32.ofInt x1)))], [.ref 10], zk c m)) ⟨[zo], _, rfl, ⟨trivial, trivial⟩⟩ rfl ?_
    obtain ⟨r19, m19, hs19, hIm19, z_19, p_19, b_19, p9_19, kN_19⟩ := S_X10_clause_F zn (d + 0) hN hC (m 1 2) m hIm (by omega) (by omega)
    refine zW.step (st1 := (31, [(some (.ref 10)), (some (.int (Int32.ofInt x1)))], [.int (Int32.ofInt r19)], zk c m19)) ⟨[zc (some (.int (Int32.ofInt r19))) (zk c m19)], _, rfl, ⟨⟨⟨(Nat.lt_of_lt_of_le (Nat.le_of_ble_eq_true rfl) hN), (Nat.le_of_ble_eq_true rfl)⟩, hs19, (Nat.le_of_ble_eq_true rfl), Nat.le_refl _, Nat.le_refl _, Nat.le_refl _, Nat.le_refl _⟩, trivial⟩⟩ rfl ?_
    have f20 : (0 : Int) ≤ m19 1 1 ∧ m19 1 1 ≤ 240 := hIm19.1 1 1
    have f21 : (0 : Int) ≤ m19 1 2 ∧ m19 1 2 ≤ 240 := hIm19.1 1 2
    have f22 : (0 : Int) ≤ m19 10 2 ∧ m19 10 2 ≤ 240 := hIm19.1 10 2
    have tk23 : zN m0 m19 := zN_tr tN kN_19
    by_cases b24 : r19 = 0
    · refine zW.step (st1 := (34, [(some (.ref 10)), (some (.int (Int32.ofInt x1)))], [], zk c m19)) (st2 := (34, [(some (.ref 10)), (some (.int (Int32.ofInt x1)))], [], zk c m19)) ⟨[zo], _, rfl, ⟨zbf (fun q => q ((zi_eq rfl (rfl : (0 : Int32) = Int32.ofInt 0) (by unfold zR; omega) (⟨by decide, by decide⟩ : zR 0)).mpr b24)), trivial⟩⟩ rfl ?_
      have q25 := zt_list_0 (b := mM 2) (n := mM 1 1) (s1 := 59) (s2 := 59) (f := zt_clause (mM 2) (mM 1 1)) (f0 := zt_clause (mM 2) (mM 1 1)) (a := m 1 2) (by omega)
      refine zW.step (st1 := (41, [(some (.ref 10)), (some (.int (Int32.ofInt x1)))], [.int (Int32.ofInt (m19 1 2))], zk c m19)) (st2 := (41, [(some (.ref 10)), (some (.int (Int32.ofInt x1)))], [.int (Int32.ofInt (m19 1 2))], zk c m19)) ⟨[zo, zo, zo], _, rfl, ⟨trivial, (Nat.lt_of_lt_of_le (Nat.le_of_ble_eq_true rfl) hN), (Nat.lt_of_lt_of_le (Nat.le_of_ble_eq_true rfl) hN), trivial⟩⟩ rfl ?_
      exact zW.fin (zfin_i rfl rfl rfl) (KR _ _ ⟨m19 1 2, m19, rfl, rfl, hIm19, (by omega), (by omega), (by omega), tk23⟩)
    · refine zW.step (st1 := (42, [(some (.ref 10)), (some (.int (Int32.ofInt x1)))], [], zk c m19)) (st2 := (42, [(some (.ref 10)), (some (.int (Int32.ofInt x1)))], [], zk c m19)) ⟨[zt], _, rfl, ⟨zbt (fun q => b24 ((zi_eq rfl (rfl : (0 : Int32) = Int32.ofInt 0) (by unfold zR; omega) (⟨by decide, by decide⟩ : zR 0)).mp q)), trivial⟩⟩ rfl ?_
      refine zW.step (st1 := (48, [(some (.ref 10)), (some (.int (Int32.ofInt x1)))], [.int ((Int8.ofInt 59).toInt32), .ref 1], zk c m19)) (st2 := (48, [(some (.ref 10)), (some (.int (Int32.ofInt x1)))], [.int (Int32.ofInt 59), .ref 1], zk c m19)) ⟨[zo, zo, zo], _, rfl, ⟨trivial, (Nat.lt_of_lt_of_le (Nat.le_of_ble_eq_true rfl) hN), trivial, trivial⟩⟩ (z_steq rfl (z_c1 (z_vi (by decide : (Int8.ofInt 59).toInt32 = Int32.ofInt 59)) rfl) rfl) ?_
      obtain ⟨r26, m26, hs26, hIm26, z_26, p_26, b_26, kN_26, kD_26⟩ := S_X8_takes_F zn (d + 32) hN hC 59 ((zt_clause (mM 2) (mM 1 1) (m 1 2)).2) m19 hIm19 (by omega) (by omega) (by omega) (by omega)
      refine zW.step (st1 := (51, [(some (.ref 10)), (some (.int (Int32.ofInt x1)))], [.int (Int32.ofInt r26)], zk c m26)) ⟨[zc (some (.int (Int32.ofInt r26))) (zk c m26)], _, rfl, ⟨⟨⟨(Nat.lt_of_lt_of_le (Nat.le_of_ble_eq_true rfl) hN), (Nat.le_of_ble_eq_true rfl)⟩, hs26, (Nat.le_of_ble_eq_true rfl), Nat.le_refl _, Nat.le_refl _, Nat.le_refl _, Nat.le_refl _⟩, trivial⟩⟩ rfl ?_
      have f27 : (0 : Int) ≤ m26 1 1 ∧ m26 1 1 ≤ 240 := hIm26.1 1 1
      have f28 : m26 1 1 = m19 1 1 := kD_26 1 1 (by omega)
      have f29 : (0 : Int) ≤ m26 1 2 ∧ m26 1 2 ≤ 240 := hIm26.1 1 2
      have f30 : (0 : Int) ≤ m26 10 2 ∧ m26 10 2 ≤ 240 := hIm26.1 10 2
      have f31 : m26 10 2 = m19 10 2 := kD_26 10 2 (by omega)
      have tk32 : zN m0 m26 := zN_tr tk23 kN_26
      by_cases b33 : r26 = 0
      · refine zW.step (st1 := (54, [(some (.ref 10)), (some (.int (Int32.ofInt x1)))], [], zk c m26)) (st2 := (54, [(some (.ref 10)), (some (.int (Int32.ofInt x1)))], [], zk c m26)) ⟨[zo], _, rfl, ⟨zbf (fun q => q ((zi_eq rfl (rfl : (0 : Int32) = Int32.ofInt 0) (by unfold zR; omega) (⟨by decide, by decide⟩ : zR 0)).mpr b33)), trivial⟩⟩ rfl ?_
        have q34 := trivial
        have q35 := zt_cl_stop (b := mM 2) (n := mM 1 1) (s := 59) (f := zt_clause (mM 2) (mM 1 1)) (a := m 1 2) (by omega) (by omega)
        have q36 := znx_i (b := mM 2) (n := mM 1 1) (a := (zt_clause (mM 2) (mM 1 1) (m 1 2)).2) (by omega) (by omega)
        have q37 := congrArg (zpk (mM 2) (mM 1 1)) (znx_i (b := mM 2) (n := mM 1 1) (a := (zt_clause (mM 2) (mM 1 1) (m 1 2)).2) (by omega) (by omega))
        have q38 := congrArg (zpk (mM 2) (mM 1 1)) (show (zt_list (mM 2) (mM 1 1) 59 59 (zt_clause (mM 2) (mM 1 1)) (zt_clause (mM 2) (mM 1 1)) 0).2 = znx (mM 2) (mM 1 1) (zt_clause (mM 2) (mM 1 1) (m 1 2)).2 by omega)
        refine zW.step (st1 := (67, [(some (.ref 10)), (some (.int (Int32.ofInt x1)))], [.ref 1], zk c m26)) (st2 := (67, [(some (.ref 10)), (some (.int (Int32.ofInt x1)))], [.ref 1], zk c m26)) ⟨[zo, zo, zo], _, rfl, ⟨trivial, trivial, (Nat.lt_of_lt_of_le (Nat.le_of_ble_eq_true rfl) hN), trivial⟩⟩ rfl ?_
        obtain ⟨r39, m39, hs39, hIm39, z_39, f_39, p_39, b_39, l_39, c3_39, kN_39, kD_39⟩ := S_X8_next_F zn (d + 33) hN hC (znx (mM 2) (mM 1 1) (zt_clause (mM 2) (mM 1 1) (m 1 2)).2) m26 hIm26 (by omega) (by omega)
        refine zW.step (st1 := (70, [(some (.ref 10)), (some (.int (Int32.ofInt x1)))], [.int (Int32.ofInt r39)], zk c m39)) ⟨[zc (some (.int (Int32.ofInt r39))) (zk c m39)], _, rfl, ⟨⟨⟨(Nat.lt_of_lt_of_le (Nat.le_of_ble_eq_true rfl) hN), (Nat.le_of_ble_eq_true rfl)⟩, hs39, (Nat.le_of_ble_eq_true rfl), Nat.le_refl _, Nat.le_refl _, Nat.le_refl _, Nat.le_refl _⟩, trivial⟩⟩ rfl ?_
        have f40 : (0 : Int) ≤ m39 1 1 ∧ m39 1 1 ≤ 240 := hIm39.1 1 1
        have f41 : m39 1 1 = m26 1 1 := kD_39 1 1 (by omega)
        have f42 : (0 : Int) ≤ m39 1 2 ∧ m39 1 2 ≤ 240 := hIm39.1 1 2
        have f43 : (0 : Int) ≤ m39 10 2 ∧ m39 10 2 ≤ 240 := hIm39.1 10 2
        have f44 : m39 10 2 = m26 10 2 := kD_39 10 2 (by omega)
        have tk45 : zN m0 m39 := zN_tr tk32 kN_39
        by_cases b46 : r39 = (-1)
        · refine zW.step (st1 := (74, [(some (.ref 10)), (some (.int (Int32.ofInt x1)))], [], zk c m39)) (st2 := (74, [(some (.ref 10)), (some (.int (Int32.ofInt x1)))], [], zk c m39)) ⟨[zo, zo], _, rfl, ⟨trivial, zbf (fun q => q ((zi_eq rfl rfl (by unfold zR; omega) (⟨by decide, by decide⟩ : zR (-1))).mpr b46)), trivial⟩⟩ rfl ?_
          refine zW.step (st1 := (85, [(some (.ref 10)), (some (.int (Int32.ofInt x1)))], [.int (Int32.ofInt (-1))], zk c m39)) (st2 := (85, [(some (.ref 10)), (some (.int (Int32.ofInt x1)))], [.int (Int32.ofInt (-1))], zk c m39)) ⟨[zo, zo], _, rfl, ⟨trivial, trivial, trivial⟩⟩ rfl ?_
          exact zW.fin (zfin_i rfl rfl rfl) (KR _ _ ⟨(-1), m39, rfl, rfl, hIm39, (by omega), (by omega), (by omega), tk45⟩)
        · refine zW.step (st1 := (78, [(some (.ref 10)), (some (.int (Int32.ofInt x1)))], [], zk c m39)) (st2 := (78, [(some (.ref 10)), (some (.int (Int32.ofInt x1)))], [], zk c m39)) ⟨[zo, zt], _, rfl, ⟨trivial, zbt (fun q => b46 ((zi_eq rfl rfl (by unfold zR; omega) (⟨by decide, by decide⟩ : zR (-1))).mp q)), trivial⟩⟩ rfl ?_
          refine zW.step (st1 := (85, [(some (.ref 10)), (some (.int (Int32.ofInt x1)))], [.int (Int32.ofInt (m39 1 2))], zk c m39)) (st2 := (85, [(some (.ref 10)), (some (.int (Int32.ofInt x1)))], [.int (Int32.ofInt (m39 1 2))], zk c m39)) ⟨[zo, zo, zo], _, rfl, ⟨trivial, (Nat.lt_of_lt_of_le (Nat.le_of_ble_eq_true rfl) hN), (Nat.lt_of_lt_of_le (Nat.le_of_ble_eq_true rfl) hN), trivial⟩⟩ rfl ?_
          exact zW.fin (zfin_i rfl rfl rfl) (KR _ _ ⟨m39 1 2, m39, rfl, rfl, hIm39, (by omega), (by omega), (by omega), tk45⟩)
      · refine zW.step (st1 := (57, [(some (.ref 10)), (some (.int (Int32.ofInt x1)))], [], zk c m26)) (st2 := (57, [(some (.ref 10)), (some (.int (Int32.ofInt x1)))], [], zk c m26)) ⟨[zt], _, rfl, ⟨zbt (fun q => b33 ((zi_eq rfl (rfl : (0 : Int32) = Int32.ofInt 0) (by unfold zR; omega) (⟨by decide, by decide⟩ : zR 0)).mp q)), trivial⟩⟩ rfl ?_
        have q47 := trivial
        have q48 := zt_cl_go (b := mM 2) (n := mM 1 1) (s := 59) (f := zt_clause (mM 2) (mM 1 1)) (a := m 1 2) zt_clause_g (by decide) (by omega) (by omega) (by omega) (by omega)
        refine zW.step (st1 := (20, [(some (.ref 10)), (some (.int ((Int32.ofInt x1) + Int32.ofInt 1)))], [], zk c m26)) (st2 := (20, [(some (.ref 10)), (some (.int (Int32.ofInt (x1 + 1))))], [], zk c m26)) ⟨[zo, zo], _, rfl, ⟨trivial, trivial, trivial⟩⟩ (z_steq (z_c1 rfl (z_c1 (z_si (zi_add rfl rfl)) rfl)) rfl rfl) ?_
        exact ih _ (by omega) (x1 + 1) m26 hIm26 (by omega) (by omega) (by omega) (by have e9 : m26 1 2 = znx (mM 2) (mM 1 1) (zt_clause (mM 2) (mM 1 1) (m 1 2)).2 + 1 := (by omega); rw [e9]; omega) tk32 rfl

set_option maxRecDepth 100000 in
set_option maxHeartbeats 4000000 in
theorem S_X10_read_F (zn : Bool) (d : Nat) {c : Nat × Nat} {mM : zM} (hN : 107 ≤ c.1) (hC : c.1 < z_RO) (m : zM) (hIm : zI c mM m) : zCi zn (d + 36) 121 [.ref 10] c m (fun (r : Int) (m1 : zM) => zI c mM m1 ∧ (-2147483648 ≤ r ∧ r ≤ 2147483647) ∧ (r = zt_fault (mM 2) (mM 1 1)) ∧ (r = -1 → m1 10 2 ≤ 239) ∧ zN m m1) := by
  refine zCi.of zu_X10_read hC (Nat.le_of_ble_eq_true rfl) ?_
  show zW zn (d + 35) 121 c (0, [(some (.ref 10)), none], [], zk c m) (fun v h1 => ∃ (r : Int) (m1 : zM), v = some (.int (Int32.ofInt r)) ∧ h1 = zk c m1 ∧ zI c mM m1 ∧ (-2147483648 ≤ r ∧ r ≤ 2147483647) ∧ (r = zt_fault (mM 2) (mM 1 1)) ∧ (r = -1 → m1 10 2 ≤ 239) ∧ zN m m1)
  have f49 : (0 : Int) ≤ m 1 1 ∧ m 1 1 ≤ 240 := hIm.1 1 1
  have f50 : (0 : Int) ≤ m 1 2 ∧ m 1 2 ≤ 240 := hIm.1 1 2
  have f51 : (0 : Int) ≤ m 10 2 ∧ m 10 2 ≤ 240 := hIm.1 10 2
  have q52 := zn_c hIm
  obtain ⟨m53, hm53⟩ : ∃ q, q = zm_up m 10 2 0 := ⟨_, rfl⟩
  have hIm53 : zI c mM m53 := by rw [hm53]; exact zI_up hIm (zOk_p (by decide)) (show (0 : Int) ≤ 0 ∧ 0 ≤ 240 by omega)
  have em53 : m53 10 2 = 0 := by rw [hm53]; exact zm_eq
  have f54 : m53 1 1 = m 1 1 := by rw [hm53]; exact zm_ne (by omega)
  have f55 : m53 1 2 = m 1 2 := by rw [hm53]; exact zm_ne (by omega)
  have tk56 : zN m m53 := by rw [hm53]; exact zN_up zN_rf (by unfold zRow; omega)
  refine zW.step (st1 := (5, [(some (.ref 10)), none], [], z_hup (zk c m) 10 (.inr (10, [.ref 1, .ref 11, .int (Int32.ofInt 0), .int (Int32.ofInt (m 10 3))])))) (st2 := (5, [(some (.ref 10)), none], [], zk c m53)) ⟨[zo, zo, zo], _, rfl, ⟨trivial, trivial, ⟨(Nat.lt_of_lt_of_le (Nat.le_of_ble_eq_true rfl) hN), rfl, rfl⟩, trivial⟩⟩ (z_steq rfl rfl ((zk_up c m 10 2 0 _ rfl).trans (by rw [hm53]))) ?_
  obtain ⟨m57, hm57⟩ : ∃ q, q = zm_up m53 10 3 0 := ⟨_, rfl⟩
  have hIm57 : zI c mM m57 := by rw [hm57]; exact zI_up hIm53 (zOk_p (by decide)) (show (0 : Int) ≤ 0 ∧ 0 ≤ 1 by omega)
  have em57 : m57 10 3 = 0 := by rw [hm57]; exact zm_eq
  have f58 : m57 1 1 = m53 1 1 := by rw [hm57]; exact zm_ne (by omega)
  have f59 : m57 1 2 = m53 1 2 := by rw [hm57]; exact zm_ne (by omega)
  have f60 : m57 10 2 = m53 10 2 := by rw [hm57]; exact zm_ne (by omega)
  have tk61 : zN m m57 := by rw [hm57]; exact zN_up tk56 (by unfold zRow; omega)
  clear tk56
  refine zW.step (st1 := (10, [(some (.ref 10)), none], [], z_hup (zk c m53) 10 (.inr (10, [.ref 1, .ref 11, .int (Int32.ofInt (m53 10 2)), .int (Int32.ofInt 0)])))) (st2 := (10, [(some (.ref 10)), none], [], zk c m57)) ⟨[zo, zo, zo], _, rfl, ⟨trivial, trivial, ⟨(Nat.lt_of_lt_of_le (Nat.le_of_ble_eq_true rfl) hN), (z_narZ rfl (by omega)), rfl⟩, trivial⟩⟩ (z_steq rfl rfl ((zk_up c m53 10 3 0 _ rfl).trans (by rw [hm57]))) ?_
  obtain ⟨m62, hm62⟩ : ∃ q, q = zm_up m57 1 2 0 := ⟨_, rfl⟩
  have hIm62 : zI c mM m62 := by rw [hm62]; exact zI_up hIm57 (by unfold zOk; decide) (show (0 : Int) ≤ 0 ∧ 0 ≤ 240 by omega)
  have em62 : m62 1 2 = 0 := by rw [hm62]; exact zm_eq
  have f63 : m62 1 1 = m57 1 1 := by rw [hm62]; exact zm_ne (by omega)
  have f64 : m62 10 2 = m57 10 2 := by rw [hm62]; exact zm_ne (by omega)
  have tk65 : zN m m62 := by rw [hm62]; exact zN_up tk61 (by unfold zRow; omega)
  clear tk61
  refine zW.step (st1 := (18, [(some (.ref 10)), none], [], z_hup (zk c m57) 1 (.inr (8, [.ref 2, .int (Int32.ofInt (m57 1 1)), .int (Int32.ofInt 0), .int (Int32.ofInt (m57 1 3))])))) (st2 := (18, [(some (.ref 10)), none], [], zk c m62)) ⟨[zo, zo, zo, zo], _, rfl, ⟨trivial, (Nat.lt_of_lt_of_le (Nat.le_of_ble_eq_true rfl) hN), trivial, ⟨(Nat.lt_of_lt_of_le (Nat.le_of_ble_eq_true rfl) hN), rfl, rfl⟩, trivial⟩⟩ (z_steq rfl rfl ((zk_up c m57 1 2 0 _ rfl).trans (by rw [hm62]))) ?_
  refine zW.step (st1 := (20, [(some (.ref 10)), (some (.int (Int32.ofInt 0)))], [], zk c m62)) (st2 := (20, [(some (.ref 10)), (some (.int (Int32.ofInt 0)))], [], zk c m62)) ⟨[zo, zo], _, rfl, ⟨trivial, trivial, trivial⟩⟩ rfl ?_
  exact L_X10_read_F_20 zn _ hN hC m _ (fun v9 h9 hq9 => hq9) _ 0 m62 hIm62 (by omega) (by omega) (by omega) (by have e9 : m62 1 2 = 0 := (by omega); rw [e9]; exact ⟨rfl, rfl⟩) tk65 rfl

