/-! texts, by program (wip/tools/gw5): X8_here_F, X8_next_F, X8_takes_F, X8_next_F2, X8_takesNumber_4F, J1_canEncode_9a6ad_F, J1_indexOfChar_4cfef_100F, J1_indexOf_4cfef_100F, J0_indexOf_7cf53_0F -/
set_option maxRecDepth 100000 in
set_option maxHeartbeats 4000000 in
theorem S_X8_here_F (zn : Bool) (d : Nat) {c : Nat × Nat} {mM : zM} (hN : 107 ≤ c.1) (hC : c.1 < z_RO) (a9 : Int) (m : zM) (hIm : zI c mM m) (ha9 : m 1 2 = a9) : zPi zn (d + 1) 106 [.ref 1] c m (fun (r : Int) => (-1 ≤ r ∧ r ≤ 255) ∧ (r = zpk (mM 2) (mM 1 1) a9) ∧ (r = -1 ∨ a9 < mM 1 1)) := by
  refine zPi.of zu_X8_here hC (Nat.le_of_ble_eq_true rfl) ?_
  show zW zn (d + 0) 106 c (0, [(some (.ref 1))], [], zk c m) (fun v h1 => ∃ (r : Int), v = some (.int (Int32.ofInt r)) ∧ h1 = zk c m ∧ (-1 ≤ r ∧ r ≤ 255) ∧ (r = zpk (mM 2) (mM 1 1) a9) ∧ (r = -1 ∨ a9 < mM 1 1))
  have q1 := zpk_c hIm ha9
  have q2 := zpk_or (mM 2) (mM 1 1) a9
  have f3 : (0 : Int) ≤ m 1 2 ∧ m 1 2 ≤ 240 := hIm.1 1 2
  have f4 : (0 : Int) ≤ m 1 1 ∧ m 1 1 ≤ 240 := hIm.1 1 1
  by_cases b5 : (m 1 1) ≤ (m 1 2)
  · refine zW.step (st1 := (23, [(some (.ref 1))], [], zk c m)) (st2 := (23, [(some (.ref 1))], [], zk c m)) ⟨[zo, zo, zo, zo, zt], _, rfl, ⟨trivial, (Nat.lt_of_lt_of_le (Nat.le_of_ble_eq_true rfl) hN), trivial, (Nat.lt_of_lt_of_le (Nat.le_of_ble_eq_true rfl) hN), zbt ((zi_le rfl rfl (by unfold zR; omega) (by unfold zR; omega)).mpr b5), trivial⟩⟩ rfl ?_
    refine zW.step (st1 := (24, [(some (.ref 1))], [.int (Int32.ofInt (-1))], zk c m)) (st2 := (24, [(some (.ref 1))], [.int (Int32.ofInt (-1))], zk c m)) ⟨[zo], _, rfl, ⟨trivial, trivial⟩⟩ rfl ?_
    exact zW.fin (zfin_i rfl rfl rfl) ⟨(-1), rfl, rfl, (by omega), (by omega), (by omega)⟩
  · refine zW.step (st1 := (11, [(some (.ref 1))], [], zk c m)) (st2 := (11, [(some (.ref 1))], [], zk c m)) ⟨[zo, zo, zo, zo, zo], _, rfl, ⟨trivial, (Nat.lt_of_lt_of_le (Nat.le_of_ble_eq_true rfl) hN), trivial, (Nat.lt_of_lt_of_le (Nat.le_of_ble_eq_true rfl) hN), zbf (fun q => b5 ((zi_le rfl rfl (by unfold zR; omega) (by unfold zR; omega)).mp q)), trivial⟩⟩ rfl ?_
    have f6 : (0 : Int) ≤ m 2 ((m 1 2).toNat) ∧ m 2 ((m 1 2).toNat) ≤ 255 := hIm.1 2 ((m 1 2).toNat)
    refine zW.step (st1 := (24, [(some (.ref 1))], [.int (Int32.ofInt (m 2 (Int32.ofInt (m 1 2)).toNatClampNeg))], zk c m)) (st2 := (24, [(some (.ref 1))], [.int (Int32.ofInt (m 2 ((m 1 2).toNat)))], zk c m)) ⟨[zo, zo, zo, zo, (false, 0, none, zh0, some (.inl (0, 240, .inl (fun j => Int32.ofInt (m 2 j))))), zo], _, rfl, ⟨trivial, (Nat.lt_of_lt_of_le (Nat.le_of_ble_eq_true rfl) hN), trivial, (Nat.lt_of_lt_of_le (Nat.le_of_ble_eq_true rfl) hN), ⟨zk_ra c m zA_2 (Nat.lt_of_lt_of_le (Nat.le_of_ble_eq_true rfl) hN), zi_in rfl (by omega) (by omega) (by omega)⟩, trivial, trivial⟩⟩ (z_steq rfl (z_c1 (z_vi ((zk_rd (f := m 2) rfl (by unfold zR; omega)).trans rfl : Int32.ofInt (m 2 (Int32.ofInt (m 1 2)).toNatClampNeg) = Int32.ofInt (m 2 ((m 1 2).toNat)))) rfl) rfl) ?_
    exact zW.fin (zfin_i rfl rfl rfl) ⟨m 2 ((m 1 2).toNat), rfl, rfl, (by omega), (by omega), (by omega)⟩

set_option maxRecDepth 100000 in
set_option maxHeartbeats 4000000 in
theorem L_X8_next_F_0 (zn : Bool) (d : Nat) {c : Nat × Nat} {mM : zM} (hN : 107 ≤ c.1) (hC : c.1 < z_RO) (a9 : Int) (hb9 : 0 ≤ a9 ∧ a9 ≤ mM 1 1) (m0 : zM) (Q : Option Value → z_H → Prop) (K : ∀  (m : zM), zI c mM m → znx (mM 2) (mM 1 1) (m 1 2) = znx (mM 2) (mM 1 1) a9 → zN m0 m → zD9 (fun p i => p = 1 ∧ (i = 2 ∨ i = 3)) m0 m → m 1 3 = m0 1 3 → znx (mM 2) (mM 1 1) (m 1 2) = m 1 2 → zW zn (d + 1) 109 c (38, [(some (.ref 1))], [], zk c m) Q) :
    ∀ (w : Nat)  (m : zM), zI c mM m → znx (mM 2) (mM 1 1) (m 1 2) = znx (mM 2) (mM 1 1) a9 → zN m0 m → zD9 (fun p i => p = 1 ∧ (i = 2 ∨ i = 3)) m0 m → m 1 3 = m0 1 3 → w = (240 - m 1 2).toNat → zW zn (d + 1) 109 c (0, [(some (.ref 1))], [], zk c m) Q := by
  intro w
  induction w using Nat.strongRecOn with | _ w ih => ?_
  intro m hIm J tN tD tCc hw
  have f1 : (0 : Int) ≤ m 1 1 ∧ m 1 1 ≤ 240 := hIm.1 1 1
  have f2 : (0 : Int) ≤ m 1 2 ∧ m 1 2 ≤ 240 := hIm.1 1 2
  have q3 := znx_c hIm
  have q4 := zn_c hIm
  by_cases b5 : (m 1 1) ≤ (m 1 2)
  · refine zW.step (st1 := (38, [(some (.ref 1))], [], zk c m)) (st2 := (38, [(some (.ref 1))], [], zk c m)) ⟨[zo, zo, zo, zo, zt], _, rfl, ⟨trivial, (Nat.lt_of_lt_of_le (Nat.le_of_ble_eq_true rfl) hN), trivial, (Nat.lt_of_lt_of_le (Nat.le_of_ble_eq_true rfl) hN), zbt ((zi_le rfl rfl (by unfold zR; omega) (by unfold zR; omega)).mpr b5), trivial⟩⟩ rfl ?_
    exact K m hIm (by omega) tN tD tCc (by omega)
  · refine zW.step (st1 := (11, [(some (.ref 1))], [], zk c m)) (st2 := (11, [(some (.ref 1))], [], zk c m)) ⟨[zo, zo, zo, zo, zo], _, rfl, ⟨trivial, (Nat.lt_of_lt_of_le (Nat.le_of_ble_eq_true rfl) hN), trivial, (Nat.lt_of_lt_of_le (Nat.le_of_ble_eq_true rfl) hN), zbf (fun q => b5 ((zi_le rfl rfl (by unfold zR; omega) (by unfold zR; omega)).mp q)), trivial⟩⟩ rfl ?_
    have f6 : (0 : Int) ≤ m 2 ((m 1 2).toNat) ∧ m 2 ((m 1 2).toNat) ≤ 255 := hIm.1 2 ((m 1 2).toNat)
    by_cases b7 : (m 2 ((m 1 2).toNat)) = 32
    · refine zW.step (st1 := (25, [(some (.ref 1))], [], zk c m)) (st2 := (25, [(some (.ref 1))], [], zk c m)) ⟨[zo, zo, zo, zo, (false, 0, none, zh0, some (.inl (0, 240, .inl (fun j => Int32.ofInt (m 2 j))))), zo, zo], _, rfl, ⟨trivial, (Nat.lt_of_lt_of_le (Nat.le_of_ble_eq_true rfl) hN), trivial, (Nat.lt_of_lt_of_le (Nat.le_of_ble_eq_true rfl) hN), ⟨zk_ra c m zA_2 (Nat.lt_of_lt_of_le (Nat.le_of_ble_eq_true rfl) hN), zi_in rfl (by omega) (by omega) (by omega)⟩, trivial, zbf (fun q => q ((zi_eq ((zk_rd (f := m 2) rfl (by unfold zR; omega)).trans rfl : Int32.ofInt (m 2 (Int32.ofInt (m 1 2)).toNatClampNeg) = Int32.ofInt (m 2 ((m 1 2).toNat))) (by decide : (Int8.ofInt 32).toInt32 = Int32.ofInt 32) (by unfold zR; omega) (⟨by decide, by decide⟩ : zR 32)).mpr b7)), trivial⟩⟩ rfl ?_
      obtain ⟨m8, hm8⟩ : ∃ q, q = zm_up m 1 2 ((m 1 2) + 1) := ⟨_, rfl⟩
      have hIm8 : zI c mM m8 := by rw [hm8]; exact zI_up hIm (by unfold zOk; decide) (show (0 : Int) ≤ ((m 1 2) + 1) ∧ ((m 1 2) + 1) ≤ 240 by omega)
      have em8 : m8 1 2 = ((m 1 2) + 1) := by rw [hm8]; exact zm_eq
      have tk9 : zN m0 m8 := by rw [hm8]; exact zN_up tN (by unfold zRow; omega)
      have tk10 : zD9 (fun p i => p = 1 ∧ (i = 2 ∨ i = 3)) m0 m8 := by rw [hm8]; exact zD9_up tD (by first | rfl | omega | (dsimp only; omega))
      have tk11 : m8 1 3 = m0 1 3 := by rw [hm8, zm_ne (by omega)]; exact tCc
      refine zW.step (st1 := (35, [(some (.ref 1))], [], z_hup (zk c m) 1 (.inr (8, [.ref 2, .int (Int32.ofInt (m 1 1)), .int ((Int32.ofInt (m 1 2)) + (Int32.ofInt 1)), .int (Int32.ofInt (m 1 3))])))) (st2 := (35, [(some (.ref 1))], [], zk c m8)) ⟨[zo, zo, zo, zo, zo, zo], _, rfl, ⟨trivial, trivial, (Nat.lt_of_lt_of_le (Nat.le_of_ble_eq_true rfl) hN), trivial, trivial, ⟨(Nat.lt_of_lt_of_le (Nat.le_of_ble_eq_true rfl) hN), rfl, rfl⟩, trivial⟩⟩ (z_steq rfl rfl ((zk_up c m 1 2 ((m 1 2) + 1) _ ((congrArg (fun q => (.inr (8, [.ref 2, .int (Int32.ofInt (m 1 1)), .int q, .int (Int32.ofInt (m 1 3))]) : z_E)) (zi_add rfl rfl)).trans rfl)).trans (by rw [hm8]))) ?_
      refine zW.step (st1 := (0, [(some (.ref 1))], [], zk c m8)) (st2 := (0, [(some (.ref 1))], [], zk c m8)) ⟨[zo], _, rfl, ⟨trivial, trivial⟩⟩ rfl ?_
      exact ih _ (by omega) m8 hIm8 (by have e9 : m8 1 2 = m 1 2 + 1 := (by omega); rw [e9]; omega) tk9 tk10 tk11 rfl
    · refine zW.step (st1 := (38, [(some (.ref 1))], [], zk c m)) (st2 := (38, [(some (.ref 1))], [], zk c m)) ⟨[zo, zo, zo, zo, (false, 0, none, zh0, some (.inl (0, 240, .inl (fun j => Int32.ofInt (m 2 j))))), zo, zt], _, rfl, ⟨trivial, (Nat.lt_of_lt_of_le (Nat.le_of_ble_eq_true rfl) hN), trivial, (Nat.lt_of_lt_of_le (Nat.le_of_ble_eq_true rfl) hN), ⟨zk_ra c m zA_2 (Nat.lt_of_lt_of_le (Nat.le_of_ble_eq_true rfl) hN), zi_in rfl (by omega) (by omega) (by omega)⟩, trivial, zbt (fun q => b7 ((zi_eq ((zk_rd (f := m 2) rfl (by unfold zR; omega)).trans rfl : Int32.ofInt (m 2 (Int32.ofInt (m 1 2)).toNatClampNeg) = Int32.ofInt (m 2 ((m 1 2).toNat))) (by decide : (Int8.ofInt 32).toInt32 = Int32.ofInt 32) (by unfold zR; omega) (⟨by decide, by decide⟩ : zR 32)).mp q)), trivial⟩⟩ rfl ?_
      exact K m hIm (by omega) tN tD tCc (by omega)

set_option maxRecDepth 100000 in
set_option maxHeartbeats 4000000 in
theorem S_X8_next_F (zn : Bool) (d : Nat) {c : Nat × Nat} {mM : zM} (hN : 107 ≤ c.1) (hC : c.1 < z_RO) (a9 : Int) (m : zM) (hIm : zI c mM m) (ha9 : m 1 2 = a9) (hb9 : 0 ≤ a9 ∧ a9 ≤ mM 1 1) : zCi zn (d + 2) 109 [.ref 1] c m (fun (r : Int) (m1 : zM) => zI c mM m1 ∧ (-1 ≤ r ∧ r ≤ 255) ∧ (r = zpk (mM 2) (mM 1 1) (znx (mM 2) (mM 1 1) a9)) ∧ (m1 1 2 = znx (mM 2) (mM 1 1) a9) ∧ (a9 ≤ m1 1 2 ∧ m1 1 2 ≤ mM 1 1) ∧ (r = -1 ∨ m1 1 2 < mM 1 1) ∧ (m1 1 3 = m 1 3) ∧ zN m m1 ∧ zD9 (fun p i => p = 1 ∧ (i = 2 ∨ i = 3)) m m1) := by
  refine zCi.of zu_X8_next hC (Nat.le_of_ble_eq_true rfl) ?_
  show zW zn (d + 1) 109 c (0, [(some (.ref 1))], [], zk c m) (fun v h1 => ∃ (r : Int) (m1 : zM), v = some (.int (Int32.ofInt r)) ∧ h1 = zk c m1 ∧ zI c mM m1 ∧ (-1 ≤ r ∧ r ≤ 255) ∧ (r = zpk (mM 2) (mM 1 1) (znx (mM 2) (mM 1 1) a9)) ∧ (m1 1 2 = znx (mM 2) (mM 1 1) a9) ∧ (a9 ≤ m1 1 2 ∧ m1 1 2 ≤ mM 1 1) ∧ (r = -1 ∨ m1 1 2 < mM 1 1) ∧ (m1 1 3 = m 1 3) ∧ zN m m1 ∧ zD9 (fun p i => p = 1 ∧ (i = 2 ∨ i = 3)) m m1)
  have f12 : (0 : Int) ≤ m 1 1 ∧ m 1 1 ≤ 240 := hIm.1 1 1
  have f13 : (0 : Int) ≤ m 1 2 ∧ m 1 2 ≤ 240 := hIm.1 1 2
  have q14 := zn_c hIm
  have q15 := znx_le (b := mM 2) (n := mM 1 1) hb9.2
  have q16 := zpk_or (mM 2) (mM 1 1) (znx (mM 2) (mM 1 1) a9)
  refine L_X8_next_F_0 zn _ hN hC a9 hb9 m _ (fun m_17 hIm_17 J_17 tN_17 tD_17 tCc_17 x_17 => ?_) _ m hIm (by rw [ha9]) zN_rf zD9_rf rfl rfl
  have f18 : (0 : Int) ≤ m_17 1 1 ∧ m_17 1 1 ≤ 240 := hIm_17.1 1 1
  have f19 : (0 : Int) ≤ m_17 1 2 ∧ m_17 1 2 ≤ 240 := hIm_17.1 1 2
  refine zW.step (st1 := (39, [(some (.ref 1))], [.ref 1], zk c m_17)) (st2 := (39, [(some (.ref 1))], [.ref 1], zk c m_17)) ⟨[zo], _, rfl, ⟨trivial, trivial⟩⟩ rfl ?_
  obtain ⟨r20, hs20, z_20, f_20, l_20⟩ := S_X8_here_F zn (d + 0) hN hC (znx (mM 2) (mM 1 1) a9) m_17 hIm_17 (by omega)
  refine zW.step (st1 := (42, [(some (.ref 1))], [.int (Int32.ofInt r20)], zk c m_17)) ⟨[zc (some (.int (Int32.ofInt r20))) (zk c m_17)], _, rfl, ⟨⟨⟨(Nat.lt_of_lt_of_le (Nat.le_of_ble_eq_true rfl) hN), (Nat.le_of_ble_eq_true rfl)⟩, hs20, (Nat.le_of_ble_eq_true rfl), Nat.le_refl _, Nat.le_refl _, Nat.le_refl _, Nat.le_refl _⟩, trivial⟩⟩ rfl ?_
  exact zW.fin (zfin_i rfl rfl rfl) ⟨r20, m_17, rfl, rfl, hIm_17, (by omega), (by omega), (by omega), (by omega), (by omega), (by omega), tN_17, tD_17⟩

set_option maxRecDepth 100000 in
set_option maxHeartbeats 4000000 in
theorem S_X8_takes_F (zn : Bool) (d : Nat) {c : Nat × Nat} {mM : zM} (hN : 107 ≤ c.1) (hC : c.1 < z_RO) (a : Int) (a9 : Int) (m : zM) (hIm : zI c mM m) (r_a : -2147483648 ≤ a ∧ a ≤ 2147483647) (ha : 0 ≤ a) (ha9 : m 1 2 = a9) (hb9 : 0 ≤ a9 ∧ a9 ≤ mM 1 1) : zCi zn (d + 3) 111 [.ref 1, .int (Int32.ofInt a)] c m (fun (r : Int) (m1 : zM) => zI c mM m1 ∧ (0 ≤ r ∧ r ≤ 1) ∧ (r = (ztk (mM 2) (mM 1 1) a a9).1 ∧ m1 1 2 = (ztk (mM 2) (mM 1 1) a a9).2) ∧ (a9 ≤ m1 1 2 ∧ m1 1 2 ≤ mM 1 1 ∧ (r = 1 → a9 < m1 1 2)) ∧ zN m m1 ∧ zD9 (fun p i => p = 1 ∧ (i = 2 ∨ i = 3)) m m1) := by
  refine zCi.of zu_X8_takes hC (Nat.le_of_ble_eq_true rfl) ?_
  show zW zn (d + 2) 111 c (0, [(some (.ref 1)), (some (.int (Int32.ofInt a)))], [], zk c m) (fun v h1 => ∃ (r : Int) (m1 : zM), v = some (.int (Int32.ofInt r)) ∧ h1 = zk c m1 ∧ zI c mM m1 ∧ (0 ≤ r ∧ r ≤ 1) ∧ (r = (ztk (mM 2) (mM 1 1) a a9).1 ∧ m1 1 2 = (ztk (mM 2) (mM 1 1) a a9).2) ∧ (a9 ≤ m1 1 2 ∧ m1 1 2 ≤ mM 1 1 ∧ (r = 1 → a9 < m1 1 2)) ∧ zN m m1 ∧ zD9 (fun p i => p = 1 ∧ (i = 2 ∨ i = 3)) m m1)
  have f1 : (0 : Int) ≤ m 1 1 ∧ m 1 1 ≤ 240 := hIm.1 1 1
  have f2 : (0 : Int) ≤ m 1 2 ∧ m 1 2 ≤ 240 := hIm.1 1 2
  have q3 := zn_c hIm
  have q4 := ztk_f (mM 2) (mM 1 1) a a9
  have q5 := znx_le (b := mM 2) (n := mM 1 1) hb9.2
  refine zW.step (st1 := (1, [(some (.ref 1)), (some (.int (Int32.ofInt a)))], [.ref 1], zk c m)) (st2 := (1, [(some (.ref 1)), (some (.int (Int32.ofInt a)))], [.ref 1], zk c m)) ⟨[zo], _, rfl, ⟨trivial, trivial⟩⟩ rfl ?_
  obtain ⟨r6, m6, hs6, hIm6, z_6, f_6, p_6, b_6, l_6, c3_6, kN_6, kD_6⟩ := S_X8_next_F zn (d + 0) hN hC a9 m hIm (by omega) (by omega)
  refine zW.step (st1 := (4, [(some (.ref 1)), (some (.int (Int32.ofInt a)))], [.int (Int32.ofInt r6)], zk c m6)) ⟨[zc (some (.int (Int32.ofInt r6))) (zk c m6)], _, rfl, ⟨⟨⟨(Nat.lt_of_lt_of_le (Nat.le_of_ble_eq_true rfl) hN), (Nat.le_of_ble_eq_true rfl)⟩, hs6, (Nat.le_of_ble_eq_true rfl), Nat.le_refl _, Nat.le_refl _, Nat.le_refl _, Nat.le_refl _⟩, trivial⟩⟩ rfl ?_
  have f7 : (0 : Int) ≤ m6 1 1 ∧ m6 1 1 ≤ 240 := hIm6.1 1 1
  have f8 : m6 1 1 = m 1 1 := kD_6 1 1 (by omega)
  have f9 : (0 : Int) ≤ m6 1 2 ∧ m6 1 2 ≤ 240 := hIm6.1 1 2
  have tk10 : zN m m6 := zN_tr zN_rf kN_6
  have tk11 : zD9 (fun p i => p = 1 ∧ (i = 2 ∨ i = 3)) m m6 := zD9_tr zD9_rf kD_6
  by_cases b12 : r6 = a
  · refine zW.step (st1 := (10, [(some (.ref 1)), (some (.int (Int32.ofInt a)))], [], zk c m6)) (st2 := (10, [(some (.ref 1)), (some (.int (Int32.ofInt a)))], [], zk c m6)) ⟨[zo, zt], _, rfl, ⟨trivial, zbt ((zi_eq rfl rfl (by unfold zR; omega) (by unfold zR; omega)).mpr b12), trivial⟩⟩ rfl ?_
    obtain ⟨m13, hm13⟩ : ∃ q, q = zm_up m6 1 2 ((m6 1 2) + 1) := ⟨_, rfl⟩
    have hIm13 : zI c mM m13 := by rw [hm13]; exact zI_up hIm6 (by unfold zOk; decide) (show (0 : Int) ≤ ((m6 1 2) + 1) ∧ ((m6 1 2) + 1) ≤ 240 by omega)
    have em13 : m13 1 2 = ((m6 1 2) + 1) := by rw [hm13]; exact zm_eq
    have f14 : m13 1 1 = m6 1 1 := by rw [hm13]; exact zm_ne (by omega)
    have tk15 : zN m m13 := by rw [hm13]; exact zN_up tk10 (by unfold zRow; omega)
    have tk16 : zD9 (fun p i => p = 1 ∧ (i = 2 ∨ i = 3)) m m13 := by rw [hm13]; exact zD9_up tk11 (by first | rfl | omega | (dsimp only; omega))
    clear tk10 tk11
    refine zW.step (st1 := (20, [(some (.ref 1)), (some (.int (Int32.ofInt a)))], [], z_hup (zk c m6) 1 (.inr (8, [.ref 2, .int (Int32.ofInt (m6 1 1)), .int ((Int32.ofInt (m6 1 2)) + (Int32.ofInt 1)), .int (Int32.ofInt (m6 1 3))])))) (st2 := (20, [(some (.ref 1)), (some (.int (Int32.ofInt a)))], [], zk c m13)) ⟨[zo, zo, zo, zo, zo, zo], _, rfl, ⟨trivial, trivial, (Nat.lt_of_lt_of_le (Nat.le_of_ble_eq_true rfl) hN), trivial, trivial, ⟨(Nat.lt_of_lt_of_le (Nat.le_of_ble_eq_true rfl) hN), rfl, rfl⟩, trivial⟩⟩ (z_steq rfl rfl ((zk_up c m6 1 2 ((m6 1 2) + 1) _ ((congrArg (fun q => (.inr (8, [.ref 2, .int (Int32.ofInt (m6 1 1)), .int q, .int (Int32.ofInt (m6 1 3))]) : z_E)) (zi_add rfl rfl)).trans rfl)).trans (by rw [hm13]))) ?_
    refine zW.step (st1 := (21, [(some (.ref 1)), (some (.int (Int32.ofInt a)))], [.int (Int32.ofInt 1)], zk c m13)) (st2 := (21, [(some (.ref 1)), (some (.int (Int32.ofInt a)))], [.int (Int32.ofInt 1)], zk c m13)) ⟨[zo], _, rfl, ⟨trivial, trivial⟩⟩ rfl ?_
    exact zW.fin (zfin_i rfl rfl rfl) ⟨1, m13, rfl, rfl, hIm13, (by omega), (by omega), (by omega), tk15, tk16⟩
  · refine zW.step (st1 := (8, [(some (.ref 1)), (some (.int (Int32.ofInt a)))], [], zk c m6)) (st2 := (8, [(some (.ref 1)), (some (.int (Int32.ofInt a)))], [], zk c m6)) ⟨[zo, zo], _, rfl, ⟨trivial, zbf (fun q => b12 ((zi_eq rfl rfl (by unfold zR; omega) (by unfold zR; omega)).mp q)), trivial⟩⟩ rfl ?_
    refine zW.step (st1 := (9, [(some (.ref 1)), (some (.int (Int32.ofInt a)))], [.int (Int32.ofInt 0)], zk c m6)) (st2 := (9, [(some (.ref 1)), (some (.int (Int32.ofInt a)))], [.int (Int32.ofInt 0)], zk c m6)) ⟨[zo], _, rfl, ⟨trivial, trivial⟩⟩ rfl ?_
    exact zW.fin (zfin_i rfl rfl rfl) ⟨0, m6, rfl, rfl, hIm6, (by omega), (by omega), (by omega), tk10, tk11⟩

theorem S_X8_next_F2 (zn : Bool) (d : Nat) {c : Nat × Nat} {mM : zM} (hN : 107 ≤ c.1) (hC : c.1 < z_RO) (a9 : Int) (m : zM) (hIm : zI c mM m) (ha9 : m 1 2 = a9) (hb9 : 0 ≤ a9 ∧ a9 ≤ mM 1 1) (hp9 : znx (mM 2) (mM 1 1) a9 = a9) : zCi zn (d + 2) 109 [.ref 1] c m (fun (r : Int) (m1 : zM) => zI c mM m1 ∧ (-1 ≤ r ∧ r ≤ 255) ∧ (r = zpk (mM 2) (mM 1 1) a9) ∧ (m1 1 2 = a9) ∧ (a9 ≤ m1 1 2 ∧ m1 1 2 ≤ mM 1 1) ∧ (r = -1 ∨ m1 1 2 < mM 1 1) ∧ (m1 1 3 = m 1 3) ∧ zN m m1 ∧ zD9 (fun p i => p = 1 ∧ (i = 2 ∨ i = 3)) m m1) := by
  obtain ⟨r, m1, hs, hI, z, f, p, b, l, c3, kN, kD⟩ := S_X8_next_F zn d hN hC a9 m hIm ha9 hb9
  rw [hp9] at f p
  exact ⟨r, m1, hs, hI, z, f, p, b, l, c3, kN, kD⟩

set_option maxRecDepth 100000 in
set_option maxHeartbeats 4000000 in
theorem L_X8_takesNumber_4F_19 (zn : Bool) (d : Nat) {c : Nat × Nat} {mM : zM} (hN : 107 ≤ c.1) (hC : c.1 < z_RO) (a9 : Int) (hb9 : 0 ≤ a9 ∧ a9 ≤ mM 1 1) (hp9 : znx (mM 2) (mM 1 1) a9 = a9) (hd9 : 48 ≤ zpk (mM 2) (mM 1 1) a9 ∧ zpk (mM 2) (mM 1 1) a9 ≤ 57) (m0 : zM) (Q : Option Value → z_H → Prop) (KR : ∀ v h1, (fun v h1 => ∃ (r : Int) (m1 : zM), v = some (.int (Int32.ofInt r)) ∧ h1 = zk c m1 ∧ zI c mM m1 ∧ (0 ≤ r ∧ r ≤ 1) ∧ (r = (zn4 (mM 2) (mM 1 1) 4 a9).1 ∧ m1 1 2 = (zn4 (mM 2) (mM 1 1) 4 a9).2) ∧ (a9 ≤ m1 1 2 ∧ m1 1 2 ≤ mM 1 1 ∧ (r = 1 → a9 < m1 1 2)) ∧ (r = 1 → 0 ≤ m1 1 3 ∧ m1 1 3 ≤ 9999) ∧ zN m0 m1 ∧ zD9 (fun p i => p = 1 ∧ (i = 2 ∨ i = 3)) m0 m1) v h1 → Q v h1) :
    ∀ (w : Nat) (x2 : Int) (m : zM), zI c mM m → 0 ≤ x2 ∧ x2 ≤ 4 → (a9 ≤ m 1 2 ∧ m 1 2 ≤ mM 1 1 ∧ (x2 = 0 ∨ a9 < m 1 2) ∧ (x2 = 0 → 48 ≤ zpk (mM 2) (mM 1 1) (m 1 2) ∧ zpk (mM 2) (mM 1 1) (m 1 2) ≤ 57)) → 0 ≤ m 1 3 ∧ (x2 = 0 ∧ m 1 3 ≤ 0 ∨ x2 = 1 ∧ m 1 3 ≤ 9 ∨ x2 = 2 ∧ m 1 3 ≤ 99 ∨ x2 = 3 ∧ m 1 3 ≤ 999 ∨ x2 = 4 ∧ m 1 3 ≤ 9999) → (zn4 (mM 2) (mM 1 1) 4 a9).1 = (zn4 (mM 2) (mM 1 1) (4 - x2).toNat (m 1 2)).1 ∧ (zn4 (mM 2) (mM 1 1) 4 a9).2 = (zn4 (mM 2) (mM 1 1) (4 - x2).toNat (m 1 2)).2 → zN m0 m → zD9 (fun p i => p = 1 ∧ (i = 2 ∨ i = 3)) m0 m → w = (4 - x2).toNat → zW zn (d + 2) 112 c (19, [(some (.ref 1)), (some (.int (Int32.ofInt 4))), (some (.int (Int32.ofInt x2)))], [], zk c m) Q := by
  intro w
  induction w using Nat.strongRecOn with | _ w ih => ?_
  intro x2 m hIm i1 jb v9 J tN tD hw
  have f1 : (0 : Int) ≤ m 1 1 ∧ m 1 1 ≤ 240 := hIm.1 1 1
  have f2 : (0 : Int) ≤ m 1 2 ∧ m 1 2 ≤ 240 := hIm.1 1 2
  have f3 : (-2147483648 : Int) ≤ m 1 3 ∧ m 1 3 ≤ 2147483647 := hIm.1 1 3
  have q4 := zn_c hIm
  by_cases b5 : 4 ≤ x2
  · refine zW.step (st1 := (69, [(some (.ref 1)), (some (.int (Int32.ofInt 4))), (some (.int (Int32.ofInt x2)))], [], zk c m)) (st2 := (69, [(some (.ref 1)), (some (.int (Int32.ofInt 4))), (some (.int (Int32.ofInt x2)))], [], zk c m)) ⟨[zo, zo, zt], _, rfl, ⟨trivial, trivial, zbt ((zi_le rfl rfl (⟨by decide, by decide⟩ : zR 4) (by unfold zR; omega)).mpr b5), trivial⟩⟩ rfl ?_
    refine zW.step (st1 := (70, [(some (.ref 1)), (some (.int (Int32.ofInt 4))), (some (.int (Int32.ofInt x2)))], [.ref 1], zk c m)) (st2 := (70, [(some (.ref 1)), (some (.int (Int32.ofInt 4))), (some (.int (Int32.ofInt x2)))], [.ref 1], zk c m)) ⟨[zo], _, rfl, ⟨trivial, trivial⟩⟩ rfl ?_
    obtain ⟨r6, hs6, z_6, f_6, l_6⟩ := S_X8_here_F zn (d + 1) hN hC (m 1 2) m hIm (by omega)
    refine zW.step (st1 := (73, [(some (.ref 1)), (some (.int (Int32.ofInt 4))), (some (.int (Int32.ofInt x2)))], [.int (Int32.ofInt r6)], zk c m)) ⟨[zc (some (.int (Int32.ofInt r6))) (zk c m)], _, rfl, ⟨⟨⟨(Nat.lt_of_lt_of_le (Nat.le_of_ble_eq_true rfl) hN), (Nat.le_of_ble_eq_true rfl)⟩, hs6, (Nat.le_of_ble_eq_true rfl), Nat.le_refl _, Nat.le_refl _, Nat.le_refl _, Nat.le_refl _⟩, trivial⟩⟩ rfl ?_
    obtain ⟨r7, hs7, z_7, q_7⟩ := S_X8_isDigit zn (d + 1) hN hC r6 m hIm (by omega)
    refine zW.step (st1 := (76, [(some (.ref 1)), (some (.int (Int32.ofInt 4))), (some (.int (Int32.ofInt x2)))], [.int (Int32.ofInt r7)], zk c m)) ⟨[zc (some (.int (Int32.ofInt r7))) (zk c m)], _, rfl, ⟨⟨(Nat.le_of_ble_eq_true rfl), hs7, (Nat.le_of_ble_eq_true rfl), Nat.le_refl _, Nat.le_refl _, Nat.le_refl _, Nat.le_refl _⟩, trivial⟩⟩ rfl ?_
    by_cases b8 : r7 = 0
    · refine zW.step (st1 := (79, [(some (.ref 1)), (some (.int (Int32.ofInt 4))), (some (.int (Int32.ofInt x2)))], [], zk c m)) (st2 := (79, [(some (.ref 1)), (some (.int (Int32.ofInt 4))), (some (.int (Int32.ofInt x2)))], [], zk c m)) ⟨[zo], _, rfl, ⟨zbf (fun q => q ((zi_eq rfl (rfl : (0 : Int32) = Int32.ofInt 0) (by unfold zR; omega) (⟨by decide, by decide⟩ : zR 0)).mpr b8)), trivial⟩⟩ rfl ?_
      have q9 := zn4_en (mM 2) (mM 1 1) x2 (m 1 2) (by omega)
      refine zW.step (st1 := (84, [(some (.ref 1)), (some (.int (Int32.ofInt 4))), (some (.int (Int32.ofInt x2)))], [.int (Int32.ofInt 1)], zk c m)) (st2 := (84, [(some (.ref 1)), (some (.int (Int32.ofInt 4))), (some (.int (Int32.ofInt x2)))], [.int (Int32.ofInt 1)], zk c m)) ⟨[zo, zo], _, rfl, ⟨trivial, trivial, trivial⟩⟩ rfl ?_
      exact zW.fin (zfin_i rfl rfl rfl) (KR _ _ ⟨1, m, rfl, rfl, hIm, (by omega), (by omega), (by omega), (by omega), tN, tD⟩)
    · refine zW.step (st1 := (83, [(some (.ref 1)), (some (.int (Int32.ofInt 4))), (some (.int (Int32.ofInt x2)))], [], zk c m)) (st2 := (83, [(some (.ref 1)), (some (.int (Int32.ofInt 4))), (some (.int (Int32.ofInt x2)))], [], zk c m)) ⟨[zt], _, rfl, ⟨zbt (fun q => b8 ((zi_eq rfl (rfl : (0 : Int32) = Int32.ofInt 0) (by unfold zR; omega) (⟨by decide, by decide⟩ : zR 0)).mp q)), trivial⟩⟩ rfl ?_
      have q10 := zn4_ov (mM 2) (mM 1 1) x2 (m 1 2) (by omega) (by omega)
      refine zW.step (st1 := (84, [(some (.ref 1)), (some (.int (Int32.ofInt 4))), (some (.int (Int32.ofInt x2)))], [.int (Int32.ofInt 0)], zk c m)) (st2 := (84, [(some (.ref 1)), (some (.int (Int32.ofInt 4))), (some (.int (Int32.ofInt x2)))], [.int (Int32.ofInt 0)], zk c m)) ⟨[zo], _, rfl, ⟨trivial, trivial⟩⟩ rfl ?_
      exact zW.fin (zfin_i rfl rfl rfl) (KR _ _ ⟨0, m, rfl, rfl, hIm, (by omega), (by omega), (by omega), (by omega), tN, tD⟩)
  · refine zW.step (st1 := (24, [(some (.ref 1)), (some (.int (Int32.ofInt 4))), (some (.int (Int32.ofInt x2)))], [], zk c m)) (st2 := (24, [(some (.ref 1)), (some (.int (Int32.ofInt 4))), (some (.int (Int32.ofInt x2)))], [], zk c m)) ⟨[zo, zo, zo], _, rfl, ⟨trivial, trivial, zbf (fun q => b5 ((zi_le rfl rfl (⟨by decide, by decide⟩ : zR 4) (by unfold zR; omega)).mp q)), trivial⟩⟩ rfl ?_
    refine zW.step (st1 := (25, [(some (.ref 1)), (some (.int (Int32.ofInt 4))), (some (.int (Int32.ofInt x2)))], [.ref 1], zk c m)) (st2 := (25, [(some (.ref 1)), (some (.int (Int32.ofInt 4))), (some (.int (Int32.ofInt x2)))], [.ref 1], zk c m)) ⟨[zo], _, rfl, ⟨trivial, trivial⟩⟩ rfl ?_
    obtain ⟨r11, hs11, z_11, f_11, l_11⟩ := S_X8_here_F zn (d + 1) hN hC (m 1 2) m hIm (by omega)
    refine zW.step (st1 := (28, [(some (.ref 1)), (some (.int (Int32.ofInt 4))), (some (.int (Int32.ofInt x2)))], [.int (Int32.ofInt r11)], zk c m)) ⟨[zc (some (.int (Int32.ofInt r11))) (zk c m)], _, rfl, ⟨⟨⟨(Nat.lt_of_lt_of_le (Nat.le_of_ble_eq_true rfl) hN), (Nat.le_of_ble_eq_true rfl)⟩, hs11, (Nat.le_of_ble_eq_true rfl), Nat.le_refl _, Nat.le_refl _, Nat.le_refl _, Nat.le_refl _⟩, trivial⟩⟩ rfl ?_
    obtain ⟨r12, hs12, z_12, q_12⟩ := S_X8_isDigit zn (d + 1) hN hC r11 m hIm (by omega)
    refine zW.step (st1 := (31, [(some (.ref 1)), (some (.int (Int32.ofInt 4))), (some (.int (Int32.ofInt x2)))], [.int (Int32.ofInt r12)], zk c m)) ⟨[zc (some (.int (Int32.ofInt r12))) (zk c m)], _, rfl, ⟨⟨(Nat.le_of_ble_eq_true rfl), hs12, (Nat.le_of_ble_eq_true rfl), Nat.le_refl _, Nat.le_refl _, Nat.le_refl _, Nat.le_refl _⟩, trivial⟩⟩ rfl ?_
    by_cases b13 : r12 = 0
    · refine zW.step (st1 := (69, [(some (.ref 1)), (some (.int (Int32.ofInt 4))), (some (.int (Int32.ofInt x2)))], [], zk c m)) (st2 := (69, [(some (.ref 1)), (some (.int (Int32.ofInt 4))), (some (.int (Int32.ofInt x2)))], [], zk c m)) ⟨[zt], _, rfl, ⟨zbt ((zi_eq rfl (rfl : (0 : Int32) = Int32.ofInt 0) (by unfold zR; omega) (⟨by decide, by decide⟩ : zR 0)).mpr b13), trivial⟩⟩ rfl ?_
      refine zW.step (st1 := (70, [(some (.ref 1)), (some (.int (Int32.ofInt 4))), (some (.int (Int32.ofInt x2)))], [.ref 1], zk c m)) (st2 := (70, [(some (.ref 1)), (some (.int (Int32.ofInt 4))), (some (.int (Int32.ofInt x2)))], [.ref 1], zk c m)) ⟨[zo], _, rfl, ⟨trivial, trivial⟩⟩ rfl ?_
      obtain ⟨r14, hs14, z_14, f_14, l_14⟩ := S_X8_here_F zn (d + 1) hN hC (m 1 2) m hIm (by omega)
      refine zW.step (st1 := (73, [(some (.ref 1)), (some (.int (Int32.ofInt 4))), (some (.int (Int32.ofInt x2)))], [.int (Int32.ofInt r14)], zk c m)) ⟨[zc (some (.int (Int32.ofInt r14))) (zk c m)], _, rfl, ⟨⟨⟨(Nat.lt_of_lt_of_le (Nat.le_of_ble_eq_true rfl) hN), (Nat.le_of_ble_eq_true rfl)⟩, hs14, (Nat.le_of_ble_eq_true rfl), Nat.le_refl _, Nat.le_refl _, Nat.le_refl _, Nat.le_refl _⟩, trivial⟩⟩ rfl ?_
      obtain ⟨r15, hs15, z_15, q_15⟩ := S_X8_isDigit zn (d + 1) hN hC r14 m hIm (by omega)
      refine zW.step (st1 := (76, [(some (.ref 1)), (some (.int (Int32.ofInt 4))), (some (.int (Int32.ofInt x2)))], [.int (Int32.ofInt r15)], zk c m)) ⟨[zc (some (.int (Int32.ofInt r15))) (zk c m)], _, rfl, ⟨⟨(Nat.le_of_ble_eq_true rfl), hs15, (Nat.le_of_ble_eq_true rfl), Nat.le_refl _, Nat.le_refl _, Nat.le_refl _, Nat.le_refl _⟩, trivial⟩⟩ rfl ?_
      by_cases b16 : r15 = 0
      · refine zW.step (st1 := (79, [(some (.ref 1)), (some (.int (Int32.ofInt 4))), (some (.int (Int32.ofInt x2)))], [], zk c m)) (st2 := (79, [(some (.ref 1)), (some (.int (Int32.ofInt 4))), (some (.int (Int32.ofInt x2)))], [], zk c m)) ⟨[zo], _, rfl, ⟨zbf (fun q => q ((zi_eq rfl (rfl : (0 : Int32) = Int32.ofInt 0) (by unfold zR; omega) (⟨by decide, by decide⟩ : zR 0)).mpr b16)), trivial⟩⟩ rfl ?_
        have q17 := zn4_en (mM 2) (mM 1 1) x2 (m 1 2) (by omega)
        refine zW.step (st1 := (84, [(some (.ref 1)), (some (.int (Int32.ofInt 4))), (some (.int (Int32.ofInt x2)))], [.int (Int32.ofInt 1)], zk c m)) (st2 := (84, [(some (.ref 1)), (some (.int (Int32.ofInt 4))), (some (.int (Int32.ofInt x2)))], [.int (Int32.ofInt 1)], zk c m)) ⟨[zo, zo], _, rfl, ⟨trivial, trivial, trivial⟩⟩ rfl ?_
        exact zW.fin (zfin_i rfl rfl rfl) (KR _ _ ⟨1, m, rfl, rfl, hIm, (by omega), (by omega), (by omega), (by omega), tN, tD⟩)
      · refine zW.step (st1 := (83, [(some (.ref 1)), (some (.int (Int32.ofInt 4))), (some (.int (Int32.ofInt x2)))], [], zk c m)) (st2 := (83, [(some (.ref 1)), (some (.int (Int32.ofInt 4))), (some (.int (Int32.ofInt x2)))], [], zk c m)) ⟨[zt], _, rfl, ⟨zbt (fun q => b16 ((zi_eq rfl (rfl : (0 : Int32) = Int32.ofInt 0) (by unfold zR; omega) (⟨by decide, by decide⟩ : zR 0)).mp q)), trivial⟩⟩ rfl ?_
        have q18 := zn4_ov (mM 2) (mM 1 1) x2 (m 1 2) (by omega) (by omega)
        refine zW.step (st1 := (84, [(some (.ref 1)), (some (.int (Int32.ofInt 4))), (some (.int (Int32.ofInt x2)))], [.int (Int32.ofInt 0)], zk c m)) (st2 := (84, [(some (.ref 1)), (some (.int (Int32.ofInt 4))), (some (.int (Int32.ofInt x2)))], [.int (Int32.ofInt 0)], zk c m)) ⟨[zo], _, rfl, ⟨trivial, trivial⟩⟩ rfl ?_
        exact zW.fin (zfin_i rfl rfl rfl) (KR _ _ ⟨0, m, rfl, rfl, hIm, (by omega), (by omega), (by omega), (by omega), tN, tD⟩)
    · refine zW.step (st1 := (34, [(some (.ref 1)), (some (.int (Int32.ofInt 4))), (some (.int (Int32.ofInt x2)))], [], zk c m)) (st2 := (34, [(some (.ref 1)), (some (.int (Int32.ofInt 4))), (some (.int (Int32.ofInt x2)))], [], zk c m)) ⟨[zo], _, rfl, ⟨zbf (fun q => b13 ((zi_eq rfl (rfl : (0 : Int32) = Int32.ofInt 0) (by unfold zR; omega) (⟨by decide, by decide⟩ : zR 0)).mp q)), trivial⟩⟩ rfl ?_
      refine zW.step (st1 := (43, [(some (.ref 1)), (some (.int (Int32.ofInt 4))), (some (.int (Int32.ofInt x2)))], [.ref 1, .int ((Int32.ofInt (m 1 3)) * ((Int8.ofInt 10).toInt32)), .ref 1], zk c m)) (st2 := (43, [(some (.ref 1)), (some (.int (Int32.ofInt 4))), (some (.int (Int32.ofInt x2)))], [.ref 1, .int (Int32.ofInt ((m 1 3) * 10)), .ref 1], zk c m)) ⟨[zo, zo, zo, zo, zo, zo], _, rfl, ⟨trivial, trivial, (Nat.lt_of_lt_of_le (Nat.le_of_ble_eq_true rfl) hN), trivial, trivial, trivial, trivial⟩⟩ (z_steq rfl (z_c1 rfl (z_c1 (z_vi (zi_mul rfl (by decide : (Int8.ofInt 10).toInt32 = Int32.ofInt 10))) rfl)) rfl) ?_
      obtain ⟨r19, hs19, z_19, f_19, l_19⟩ := S_X8_here_F zn (d + 1) hN hC (m 1 2) m hIm (by omega)
      refine zW.step (st1 := (46, [(some (.ref 1)), (some (.int (Int32.ofInt 4))), (some (.int (Int32.ofInt x2)))], [.int (Int32.ofInt r19), .int (Int32.ofInt ((m 1 3) * 10)), .ref 1], zk c m)) ⟨[zc (some (.int (Int32.ofInt r19))) (zk c m)], _, rfl, ⟨⟨⟨(Nat.lt_of_lt_of_le (Nat.le_of_ble_eq_true rfl) hN), (Nat.le_of_ble_eq_true rfl)⟩, hs19, (Nat.le_of_ble_eq_true rfl), Nat.le_refl _, Nat.le_refl _, Nat.le_refl _, Nat.le_refl _⟩, trivial⟩⟩ rfl ?_
      have f20 := zwR ((((m 1 3) * 10) + r19) - 48)
      have f21 := zwI ((((m 1 3) * 10) + r19) - 48)
      obtain ⟨m22, hm22⟩ : ∃ q, q = zm_up m 1 3 (zw ((((m 1 3) * 10) + r19) - 48)) := ⟨_, rfl⟩
      have hIm22 : zI c mM m22 := by rw [hm22]; exact zI_up hIm (by unfold zOk; decide) (show (-2147483648 : Int) ≤ (zw ((((m 1 3) * 10) + r19) - 48)) ∧ (zw ((((m 1 3) * 10) + r19) - 48)) ≤ 2147483647 by omega)
      have em22 : m22 1 3 = (zw ((((m 1 3) * 10) + r19) - 48)) := by rw [hm22]; exact zm_eq
      have f23 : m22 1 1 = m 1 1 := by rw [hm22]; exact zm_ne (by omega)
      have f24 : m22 1 2 = m 1 2 := by rw [hm22]; exact zm_ne (by omega)
      have tk25 : zN m0 m22 := by rw [hm22]; exact zN_up tN (by unfold zRow; omega)
      have tk26 : zD9 (fun p i => p = 1 ∧ (i = 2 ∨ i = 3)) m0 m22 := by rw [hm22]; exact zD9_up tD (by first | rfl | omega | (dsimp only; omega))
      refine zW.step (st1 := (53, [(some (.ref 1)), (some (.int (Int32.ofInt 4))), (some (.int (Int32.ofInt x2)))], [], z_hup (zk c m) 1 (.inr (8, [.ref 2, .int (Int32.ofInt (m 1 1)), .int (Int32.ofInt (m 1 2)), .int (((Int32.ofInt ((m 1 3) * 10)) + (Int32.ofInt r19)) - ((Int8.ofInt 48).toInt32))])))) (st2 := (53, [(some (.ref 1)), (some (.int (Int32.ofInt 4))), (some (.int (Int32.ofInt x2)))], [], zk c m22)) ⟨[zo, zo, zo, zo], _, rfl, ⟨trivial, trivial, trivial, ⟨(Nat.lt_of_lt_of_le (Nat.le_of_ble_eq_true rfl) hN), rfl, rfl⟩, trivial⟩⟩ (z_steq rfl rfl ((zk_up c m 1 3 (zw ((((m 1 3) * 10) + r19) - 48)) _ ((congrArg (fun q => (.inr (8, [.ref 2, .int (Int32.ofInt (m 1 1)), .int (Int32.ofInt (m 1 2)), .int q]) : z_E)) (Eq.trans (zi_sub (zi_add rfl rfl) (by decide : (Int8.ofInt 48).toInt32 = Int32.ofInt 48)) (zw_eq _))).trans rfl)).trans (by rw [hm22]))) ?_
      have f27 : (0 : Int) ≤ m22 1 2 ∧ m22 1 2 ≤ 240 := hIm22.1 1 2
      obtain ⟨m28, hm28⟩ : ∃ q, q = zm_up m22 1 2 ((m22 1 2) + 1) := ⟨_, rfl⟩
      have hIm28 : zI c mM m28 := by rw [hm28]; exact zI_up hIm22 (by unfold zOk; decide) (show (0 : Int) ≤ ((m22 1 2) + 1) ∧ ((m22 1 2) + 1) ≤ 240 by omega)
      have em28 : m28 1 2 = ((m22 1 2) + 1) := by rw [hm28]; exact zm_eq
      have f29 : m28 1 1 = m22 1 1 := by rw [hm28]; exact zm_ne (by omega)
      have f30 : m28 1 3 = m22 1 3 := by rw [hm28]; exact zm_ne (by omega)
      have tk31 : zN m0 m28 := by rw [hm28]; exact zN_up tk25 (by unfold zRow; omega)
      have tk32 : zD9 (fun p i => p = 1 ∧ (i = 2 ∨ i = 3)) m0 m28 := by rw [hm28]; exact zD9_up tk26 (by first | rfl | omega | (dsimp only; omega))
      clear tk25 tk26
      refine zW.step (st1 := (63, [(some (.ref 1)), (some (.int (Int32.ofInt 4))), (some (.int (Int32.ofInt x2)))], [], z_hup (zk c m22) 1 (.inr (8, [.ref 2, .int (Int32.ofInt (m22 1 1)), .int ((Int32.ofInt (m22 1 2)) + (Int32.ofInt 1)), .int (Int32.ofInt (m22 1 3))])))) (st2 := (63, [(some (.ref 1)), (some (.int (Int32.ofInt 4))), (some (.int (Int32.ofInt x2)))], [], zk c m28)) ⟨[zo, zo, zo, zo, zo, zo], _, rfl, ⟨trivial, trivial, (Nat.lt_of_lt_of_le (Nat.le_of_ble_eq_true rfl) hN), trivial, trivial, ⟨(Nat.lt_of_lt_of_le (Nat.le_of_ble_eq_true rfl) hN), rfl, rfl⟩, trivial⟩⟩ (z_steq rfl rfl ((zk_up c m22 1 2 ((m22 1 2) + 1) _ ((congrArg (fun q => (.inr (8, [.ref 2, .int (Int32.ofInt (m22 1 1)), .int q, .int (Int32.ofInt (m22 1 3))]) : z_E)) (zi_add rfl rfl)).trans rfl)).trans (by rw [hm28]))) ?_
      have q33 := zn4_st (mM 2) (mM 1 1) x2 (m 1 2) (by omega) (by omega)
      refine zW.step (st1 := (19, [(some (.ref 1)), (some (.int (Int32.ofInt 4))), (some (.int ((Int32.ofInt x2) + Int32.ofInt 1)))], [], zk c m28)) (st2 := (19, [(some (.ref 1)), (some (.int (Int32.ofInt 4))), (some (.int (Int32.ofInt (x2 + 1))))], [], zk c m28)) ⟨[zo, zo], _, rfl, ⟨trivial, trivial, trivial⟩⟩ (z_steq (z_c1 rfl (z_c1 rfl (z_c1 (z_si (zi_add rfl rfl)) rfl))) rfl rfl) ?_
      exact ih _ (by omega) (x2 + 1) m28 hIm28 (by omega) (by omega) (by omega) (by have e9 : m28 1 2 = ((m 1 2)) + 1 := (by omega); rw [e9]; omega) tk31 tk32 rfl

set_option maxRecDepth 100000 in
set_option maxHeartbeats 4000000 in
theorem S_X8_takesNumber_4F (zn : Bool) (d : Nat) {c : Nat × Nat} {mM : zM} (hN : 107 ≤ c.1) (hC : c.1 < z_RO) (a9 : Int) (m : zM) (hIm : zI c mM m) (ha9 : m 1 2 = a9) (hb9 : 0 ≤ a9 ∧ a9 ≤ mM 1 1) (hp9 : znx (mM 2) (mM 1 1) a9 = a9) (hd9 : 48 ≤ zpk (mM 2) (mM 1 1) a9 ∧ zpk (mM 2) (mM 1 1) a9 ≤ 57) : zCi zn (d + 3) 112 [.ref 1, .int (Int32.ofInt 4)] c m (fun (r : Int) (m1 : zM) => zI c mM m1 ∧ (0 ≤ r ∧ r ≤ 1) ∧ (r = (zn4 (mM 2) (mM 1 1) 4 a9).1 ∧ m1 1 2 = (zn4 (mM 2) (mM 1 1) 4 a9).2) ∧ (a9 ≤ m1 1 2 ∧ m1 1 2 ≤ mM 1 1 ∧ (r = 1 → a9 < m1 1 2)) ∧ (r = 1 → 0 ≤ m1 1 3 ∧ m1 1 3 ≤ 9999) ∧ zN m m1 ∧ zD9 (fun p i => p = 1 ∧ (i = 2 ∨ i = 3)) m m1) := by
  refine zCi.of zu_X8_takesNumber hC (Nat.le_of_ble_eq_true rfl) ?_
  show zW zn (d + 2) 112 c (0, [(some (.ref 1)), (some (.int (Int32.ofInt 4))), none], [], zk c m) (fun v h1 => ∃ (r : Int) (m1 : zM), v = some (.int (Int32.ofInt r)) ∧ h1 = zk c m1 ∧ zI c mM m1 ∧ (0 ≤ r ∧ r ≤ 1) ∧ (r = (zn4 (mM 2) (mM 1 1) 4 a9).1 ∧ m1 1 2 = (zn4 (mM 2) (mM 1 1) 4 a9).2) ∧ (a9 ≤ m1 1 2 ∧ m1 1 2 ≤ mM 1 1 ∧ (r = 1 → a9 < m1 1 2)) ∧ (r = 1 → 0 ≤ m1 1 3 ∧ m1 1 3 ≤ 9999) ∧ zN m m1 ∧ zD9 (fun p i => p = 1 ∧ (i = 2 ∨ i = 3)) m m1)
  have f34 : (0 : Int) ≤ m 1 1 ∧ m 1 1 ≤ 240 := hIm.1 1 1
  have f35 : (0 : Int) ≤ m 1 2 ∧ m 1 2 ≤ 240 := hIm.1 1 2
  have f36 : (-2147483648 : Int) ≤ m 1 3 ∧ m 1 3 ≤ 2147483647 := hIm.1 1 3
  have q37 := zn_c hIm
  obtain ⟨m38, hm38⟩ : ∃ q, q = zm_up m 1 3 0 := ⟨_, rfl⟩
  have hIm38 : zI c mM m38 := by rw [hm38]; exact zI_up hIm (by unfold zOk; decide) (show (-2147483648 : Int) ≤ 0 ∧ 0 ≤ 2147483647 by omega)
  have em38 : m38 1 3 = 0 := by rw [hm38]; exact zm_eq
  have f39 : m38 1 1 = m 1 1 := by rw [hm38]; exact zm_ne (by omega)
  have f40 : m38 1 2 = m 1 2 := by rw [hm38]; exact zm_ne (by omega)
  have tk41 : zN m m38 := by rw [hm38]; exact zN_up zN_rf (by unfold zRow; omega)
  have tk42 : zD9 (fun p i => p = 1 ∧ (i = 2 ∨ i = 3)) m m38 := by rw [hm38]; exact zD9_up zD9_rf (by first | rfl | omega | (dsimp only; omega))
  refine zW.step (st1 := (5, [(some (.ref 1)), (some (.int (Int32.ofInt 4))), none], [], z_hup (zk c m) 1 (.inr (8, [.ref 2, .int (Int32.ofInt (m 1 1)), .int (Int32.ofInt (m 1 2)), .int (Int32.ofInt 0)])))) (st2 := (5, [(some (.ref 1)), (some (.int (Int32.ofInt 4))), none], [], zk c m38)) ⟨[zo, zo, zo], _, rfl, ⟨trivial, trivial, ⟨(Nat.lt_of_lt_of_le (Nat.le_of_ble_eq_true rfl) hN), rfl, rfl⟩, trivial⟩⟩ (z_steq rfl rfl ((zk_up c m 1 3 0 _ rfl).trans (by rw [hm38]))) ?_
  refine zW.step (st1 := (6, [(some (.ref 1)), (some (.int (Int32.ofInt 4))), none], [.ref 1], zk c m38)) (st2 := (6, [(some (.ref 1)), (some (.int (Int32.ofInt 4))), none], [.ref 1], zk c m38)) ⟨[zo], _, rfl, ⟨trivial, trivial⟩⟩ rfl ?_
  obtain ⟨r43, m43, hs43, hIm43, z_43, f_43, p_43, b_43, l_43, c3_43, kN_43, kD_43⟩ := S_X8_next_F2 zn (d + 0) hN hC a9 m38 hIm38 (by omega) (by omega) (by exact hp9)
  refine zW.step (st1 := (9, [(some (.ref 1)), (some (.int (Int32.ofInt 4))), none], [.int (Int32.ofInt r43)], zk c m43)) ⟨[zc (some (.int (Int32.ofInt r43))) (zk c m43)], _, rfl, ⟨⟨⟨(Nat.lt_of_lt_of_le (Nat.le_of_ble_eq_true rfl) hN), (Nat.le_of_ble_eq_true rfl)⟩, hs43, (Nat.le_of_ble_eq_true rfl), Nat.le_refl _, Nat.le_refl _, Nat.le_refl _, Nat.le_refl _⟩, trivial⟩⟩ rfl ?_
  have f44 : (0 : Int) ≤ m43 1 1 ∧ m43 1 1 ≤ 240 := hIm43.1 1 1
  have f45 : m43 1 1 = m38 1 1 := kD_43 1 1 (by omega)
  have f46 : (0 : Int) ≤ m43 1 2 ∧ m43 1 2 ≤ 240 := hIm43.1 1 2
  have f47 : (-2147483648 : Int) ≤ m43 1 3 ∧ m43 1 3 ≤ 2147483647 := hIm43.1 1 3
  have tk48 : zN m m43 := zN_tr tk41 kN_43
  have tk49 : zD9 (fun p i => p = 1 ∧ (i = 2 ∨ i = 3)) m m43 := zD9_tr tk42 kD_43
  obtain ⟨r50, hs50, z_50, q_50⟩ := S_X8_isDigit zn (d + 1) hN hC r43 m43 hIm43 (by omega)
  refine zW.step (st1 := (12, [(some (.ref 1)), (some (.int (Int32.ofInt 4))), none], [.int (Int32.ofInt r50)], zk c m43)) ⟨[zc (some (.int (Int32.ofInt r50))) (zk c m43)], _, rfl, ⟨⟨(Nat.le_of_ble_eq_true rfl), hs50, (Nat.le_of_ble_eq_true rfl), Nat.le_refl _, Nat.le_refl _, Nat.le_refl _, Nat.le_refl _⟩, trivial⟩⟩ rfl ?_
  by_cases b51 : r50 = 0
  · refine zW.step (st1 := (15, [(some (.ref 1)), (some (.int (Int32.ofInt 4))), none], [], zk c m43)) (st2 := (15, [(some (.ref 1)), (some (.int (Int32.ofInt 4))), none], [], zk c m43)) ⟨[zo], _, rfl, ⟨zbf (fun q => q ((zi_eq rfl (rfl : (0 : Int32) = Int32.ofInt 0) (by unfold zR; omega) (⟨by decide, by decide⟩ : zR 0)).mpr b51)), trivial⟩⟩ rfl ?_
    refine zW.step (st1 := (16, [(some (.ref 1)), (some (.int (Int32.ofInt 4))), none], [.int (Int32.ofInt 0)], zk c m43)) (st2 := (16, [(some (.ref 1)), (some (.int (Int32.ofInt 4))), none], [.int (Int32.ofInt 0)], zk c m43)) ⟨[zo], _, rfl, ⟨trivial, trivial⟩⟩ rfl ?_
    exact zW.fin (zfin_i rfl rfl rfl) ⟨0, m43, rfl, rfl, hIm43, (by omega), (by omega), (by omega), (by omega), tk48, tk49⟩
  · refine zW.step (st1 := (17, [(some (.ref 1)), (some (.int (Int32.ofInt 4))), none], [], zk c m43)) (st2 := (17, [(some (.ref 1)), (some (.int (Int32.ofInt 4))), none], [], zk c m43)) ⟨[zt], _, rfl, ⟨zbt (fun q => b51 ((zi_eq rfl (rfl : (0 : Int32) = Int32.ofInt 0) (by unfold zR; omega) (⟨by decide, by decide⟩ : zR 0)).mp q)), trivial⟩⟩ rfl ?_
    refine zW.step (st1 := (19, [(some (.ref 1)), (some (.int (Int32.ofInt 4))), (some (.int (Int32.ofInt 0)))], [], zk c m43)) (st2 := (19, [(some (.ref 1)), (some (.int (Int32.ofInt 4))), (some (.int (Int32.ofInt 0)))], [], zk c m43)) ⟨[zo, zo], _, rfl, ⟨trivial, trivial, trivial⟩⟩ rfl ?_
    exact L_X8_takesNumber_4F_19 zn _ hN hC a9 hb9 hp9 hd9 m _ (fun v9 h9 hq9 => hq9) _ 0 m43 hIm43 (by omega) (by have e9 : m43 1 2 = a9 := (by omega); rw [e9]; omega) (by omega) (by have e9 : m43 1 2 = a9 := (by omega); rw [e9]; exact ⟨rfl, rfl⟩) tk48 tk49 rfl

set_option maxRecDepth 100000 in
set_option maxHeartbeats 4000000 in
theorem S_J1_canEncode_9a6ad_F (zn : Bool) (d : Nat) {c : Nat × Nat} {mM : zM} (hN : 107 ≤ c.1) (hC : c.1 < z_RO) (a : Int) (m : zM) (hIm : zI c mM m) (r_a : -2147483648 ≤ a ∧ a ≤ 2147483647) (hc : 0 ≤ a ∧ a ≤ 255) : zPi zn (d + 1) 10 [.int (Int32.ofInt a)] c m (fun (r : Int) => (r = 1)) := by
  refine zPi.of zu_J1_canEncode_9a6ad hC (Nat.le_of_ble_eq_true rfl) ?_
  show zW zn (d + 0) 10 c (0, [(some (.int (Int32.ofInt a)))], [], zk c m) (fun v h1 => ∃ (r : Int), v = some (.int (Int32.ofInt r)) ∧ h1 = zk c m ∧ (r = 1))
  have q1 := zb_us8 a hc
  by_cases b2 : a < 0
  · refine zW.step (st1 := (15, [(some (.int (Int32.ofInt a)))], [], zk c m)) (st2 := (15, [(some (.int (Int32.ofInt a)))], [], zk c m)) ⟨[zo, zt], _, rfl, ⟨trivial, zbt ((zi_lt rfl (rfl : (0 : Int32) = Int32.ofInt 0) (by unfold zR; omega) (⟨by decide, by decide⟩ : zR 0)).mpr b2), trivial⟩⟩ rfl ?_
    refine zW.step (st1 := (16, [(some (.int (Int32.ofInt a)))], [.int (Int32.ofInt 0)], zk c m)) (st2 := (16, [(some (.int (Int32.ofInt a)))], [.int (Int32.ofInt 0)], zk c m)) ⟨[zo], _, rfl, ⟨trivial, trivial⟩⟩ rfl ?_
    exact zW.fin (zfin_i rfl rfl rfl) ⟨0, rfl, rfl, (by omega)⟩
  · refine zW.step (st1 := (4, [(some (.int (Int32.ofInt a)))], [], zk c m)) (st2 := (4, [(some (.int (Int32.ofInt a)))], [], zk c m)) ⟨[zo, zo], _, rfl, ⟨trivial, zbf (fun q => b2 ((zi_lt rfl (rfl : (0 : Int32) = Int32.ofInt 0) (by unfold zR; omega) (⟨by decide, by decide⟩ : zR 0)).mp q)), trivial⟩⟩ rfl ?_
    by_cases b3 : 255 < a
    · refine zW.step (st1 := (15, [(some (.int (Int32.ofInt a)))], [], zk c m)) (st2 := (15, [(some (.int (Int32.ofInt a)))], [], zk c m)) ⟨[zo, zo, zt], _, rfl, ⟨trivial, trivial, zbt ((zi_lt (by decide : (Int16.ofInt 255).toInt32 = Int32.ofInt 255) rfl (⟨by decide, by decide⟩ : zR 255) (by unfold zR; omega)).mpr b3), trivial⟩⟩ rfl ?_
      refine zW.step (st1 := (16, [(some (.int (Int32.ofInt a)))], [.int (Int32.ofInt 0)], zk c m)) (st2 := (16, [(some (.int (Int32.ofInt a)))], [.int (Int32.ofInt 0)], zk c m)) ⟨[zo], _, rfl, ⟨trivial, trivial⟩⟩ rfl ?_
      exact zW.fin (zfin_i rfl rfl rfl) ⟨0, rfl, rfl, (by omega)⟩
    · refine zW.step (st1 := (11, [(some (.int (Int32.ofInt a)))], [], zk c m)) (st2 := (11, [(some (.int (Int32.ofInt a)))], [], zk c m)) ⟨[zo, zo, zo], _, rfl, ⟨trivial, trivial, zbf (fun q => b3 ((zi_lt (by decide : (Int16.ofInt 255).toInt32 = Int32.ofInt 255) rfl (⟨by decide, by decide⟩ : zR 255) (by unfold zR; omega)).mp q)), trivial⟩⟩ rfl ?_
      refine zW.step (st1 := (16, [(some (.int (Int32.ofInt a)))], [.int (Int32.ofInt 1)], zk c m)) (st2 := (16, [(some (.int (Int32.ofInt a)))], [.int (Int32.ofInt 1)], zk c m)) ⟨[zo, zo], _, rfl, ⟨trivial, trivial, trivial⟩⟩ rfl ?_
      exact zW.fin (zfin_i rfl rfl rfl) ⟨1, rfl, rfl, (by omega)⟩

set_option maxRecDepth 100000 in
set_option maxHeartbeats 4000000 in
theorem L_J1_indexOfChar_4cfef_100F_7 (zn : Bool) (d : Nat) {c : Nat × Nat} {mM : zM} (hN : 107 ≤ c.1) (hC : c.1 < z_RO) (ch : Int) (lo : Int) (hi : Int) (r_ch : -2147483648 ≤ ch ∧ ch ≤ 2147483647) (r_lo : -2147483648 ≤ lo ∧ lo ≤ 2147483647) (r_hi : -2147483648 ≤ hi ∧ hi ≤ 2147483647) (hl : lo = 0) (hh : hi = 1) (x4 : Int) (m : zM) (hIm : zI c mM m) (Q : Option Value → z_H → Prop) (KR : ∀ v h1, (fun v h1 => ∃ (r : Int), v = some (.int (Int32.ofInt r)) ∧ h1 = zk c m ∧ (-1 ≤ r ∧ r < 1) ∧ (r = zix zLs0 0 (Int.bmod ch 256))) v h1 → Q v h1) (K : ∀ (x5 : Int), 0 ≤ x5 ∧ x5 ≤ 1 → -2147483648 ≤ x4 ∧ x4 ≤ 2147483647 → x4 = Int.bmod ch 256 → zix zLs0 0 x4 = zix (zLs0.drop x5.toNat) x5 x4 → zix zLs0 0 x4 = -1 → zW zn (d + 0) 12 c (31, [(some (.ref (z_RO + 100))), (some (.int (Int32.ofInt ch))), (some (.int (Int32.ofInt lo))), (some (.int (Int32.ofInt hi))), (some (.int (Int32.ofInt x4))), (some (.int (Int32.ofInt x5)))], [], zk c m) Q) :
    ∀ (w : Nat) (x5 : Int), 0 ≤ x5 ∧ x5 ≤ 1 → -2147483648 ≤ x4 ∧ x4 ≤ 2147483647 → x4 = Int.bmod ch 256 → zix zLs0 0 x4 = zix (zLs0.drop x5.toNat) x5 x4 → w = (1 - x5).toNat → zW zn (d + 0) 12 c (7, [(some (.ref (z_RO + 100))), (some (.int (Int32.ofInt ch))), (some (.int (Int32.ofInt lo))), (some (.int (Int32.ofInt hi))), (some (.int (Int32.ofInt x4))), (some (.int (Int32.ofInt x5)))], [], zk c m) Q := by
  intro w
  induction w using Nat.strongRecOn with | _ w ih => ?_
  intro x5 i1 i4 i5 J hw
  by_cases b1 : hi ≤ x5
  · refine zW.step (st1 := (31, [(some (.ref (z_RO + 100))), (some (.int (Int32.ofInt ch))), (some (.int (Int32.ofInt lo))), (some (.int (Int32.ofInt hi))), (some (.int (Int32.ofInt x4))), (some (.int (Int32.ofInt x5)))], [], zk c m)) (st2 := (31, [(some (.ref (z_RO + 100))), (some (.int (Int32.ofInt ch))), (some (.int (Int32.ofInt lo))), (some (.int (Int32.ofInt hi))), (some (.int (Int32.ofInt x4))), (some (.int (Int32.ofInt x5)))], [], zk c m)) ⟨[zo, zo, zt], _, rfl, ⟨trivial, trivial, zbt ((zi_le rfl rfl (by unfold zR; omega) (by unfold zR; omega)).mpr b1), trivial⟩⟩ rfl ?_
    exact K x5 (by omega) (by omega) (by exact i5) (by omega) (by have e9 : x5 = 1 := (by omega); rw [J, e9]; exact zix_0_e _)
  · refine zW.step (st1 := (13, [(some (.ref (z_RO + 100))), (some (.int (Int32.ofInt ch))), (some (.int (Int32.ofInt lo))), (some (.int (Int32.ofInt hi))), (some (.int (Int32.ofInt x4))), (some (.int (Int32.ofInt x5)))], [], zk c m)) (st2 := (13, [(some (.ref (z_RO + 100))), (some (.int (Int32.ofInt ch))), (some (.int (Int32.ofInt lo))), (some (.int (Int32.ofInt hi))), (some (.int (Int32.ofInt x4))), (some (.int (Int32.ofInt x5)))], [], zk c m)) ⟨[zo, zo, zo], _, rfl, ⟨trivial, trivial, zbf (fun q => b1 ((zi_le rfl rfl (by unfold zR; omega) (by unfold zR; omega)).mp q)), trivial⟩⟩ rfl ?_
    have q2 := zix_0 x5 x4 (by omega)
    have f3 := zbt9_b 0 x5.toNat
    by_cases b4 : (zbt9 0 x5.toNat) = x4
    · refine zW.step (st1 := (22, [(some (.ref (z_RO + 100))), (some (.int (Int32.ofInt ch))), (some (.int (Int32.ofInt lo))), (some (.int (Int32.ofInt hi))), (some (.int (Int32.ofInt x4))), (some (.int (Int32.ofInt x5)))], [], zk c m)) (st2 := (22, [(some (.ref (z_RO + 100))), (some (.int (Int32.ofInt ch))), (some (.int (Int32.ofInt lo))), (some (.int (Int32.ofInt hi))), (some (.int (Int32.ofInt x4))), (some (.int (Int32.ofInt x5)))], [], zk c m)) ⟨[zo, zo, zo, zo, zo], _, rfl, ⟨trivial, trivial, (zi_in rfl (by omega) (by omega) (by decide) : vp_in (Int32.ofInt x5) 1), trivial, zbf (fun q => q ((zi_eq (zbt9_rd 0 rfl (by unfold zR; omega)) rfl (by unfold zR; omega) (by unfold zR; omega)).mpr b4)), trivial⟩⟩ rfl ?_
      refine zW.step (st1 := (24, [(some (.ref (z_RO + 100))), (some (.int (Int32.ofInt ch))), (some (.int (Int32.ofInt lo))), (some (.int (Int32.ofInt hi))), (some (.int (Int32.ofInt x4))), (some (.int (Int32.ofInt x5)))], [.int (Int32.ofInt x5)], zk c m)) (st2 := (24, [(some (.ref (z_RO + 100))), (some (.int (Int32.ofInt ch))), (some (.int (Int32.ofInt lo))), (some (.int (Int32.ofInt hi))), (some (.int (Int32.ofInt x4))), (some (.int (Int32.ofInt x5)))], [.int (Int32.ofInt x5)], zk c m)) ⟨[zo], _, rfl, ⟨trivial, trivial⟩⟩ rfl ?_
      exact zW.fin (zfin_i rfl rfl rfl) (KR _ _ ⟨x5, rfl, rfl, (by omega), (by rw [← i5]; omega)⟩)
    · refine zW.step (st1 := (25, [(some (.ref (z_RO + 100))), (some (.int (Int32.ofInt ch))), (some (.int (Int32.ofInt lo))), (some (.int (Int32.ofInt hi))), (some (.int (Int32.ofInt x4))), (some (.int (Int32.ofInt x5)))], [], zk c m)) (st2 := (25, [(some (.ref (z_RO + 100))), (some (.int (Int32.ofInt ch))), (some (.int (Int32.ofInt lo))), (some (.int (Int32.ofInt hi))), (some (.int (Int32.ofInt x4))), (some (.int (Int32.ofInt x5)))], [], zk c m)) ⟨[zo, zo, zo, zo, zt], _, rfl, ⟨trivial, trivial, (zi_in rfl (by omega) (by omega) (by decide) : vp_in (Int32.ofInt x5) 1), trivial, zbt (fun q => b4 ((zi_eq (zbt9_rd 0 rfl (by unfold zR; omega)) rfl (by unfold zR; omega) (by unfold zR; omega)).mp q)), trivial⟩⟩ rfl ?_
      refine zW.step (st1 := (7, [(some (.ref (z_RO + 100))), (some (.int (Int32.ofInt ch))), (some (.int (Int32.ofInt lo))), (some (.int (Int32.ofInt hi))), (some (.int (Int32.ofInt x4))), (some (.int ((Int32.ofInt x5) + Int32.ofInt 1)))], [], zk c m)) (st2 := (7, [(some (.ref (z_RO + 100))), (some (.int (Int32.ofInt ch))), (some (.int (Int32.ofInt lo))), (some (.int (Int32.ofInt hi))), (some (.int (Int32.ofInt x4))), (some (.int (Int32.ofInt (x5 + 1))))], [], zk c m)) ⟨[zo, zo], _, rfl, ⟨trivial, trivial, trivial⟩⟩ (z_steq (z_c1 rfl (z_c1 rfl (z_c1 rfl (z_c1 rfl (z_c1 rfl (z_c1 (z_si (zi_add rfl rfl)) rfl)))))) rfl rfl) ?_
      exact ih _ (by omega) (x5 + 1) (by omega) (by omega) (by exact i5) (by omega) rfl

set_option maxRecDepth 100000 in
set_option maxHeartbeats 4000000 in
theorem S_J1_indexOfChar_4cfef_100F (zn : Bool) (d : Nat) {c : Nat × Nat} {mM : zM} (hN : 107 ≤ c.1) (hC : c.1 < z_RO) (ch : Int) (lo : Int) (hi : Int) (m : zM) (hIm : zI c mM m) (r_ch : -2147483648 ≤ ch ∧ ch ≤ 2147483647) (r_lo : -2147483648 ≤ lo ∧ lo ≤ 2147483647) (r_hi : -2147483648 ≤ hi ∧ hi ≤ 2147483647) (hl : lo = 0) (hh : hi = 1) : zPi zn (d + 1) 12 [.ref (z_RO + 100), .int (Int32.ofInt ch), .int (Int32.ofInt lo), .int (Int32.ofInt hi)] c m (fun (r : Int) => (-1 ≤ r ∧ r < 1) ∧ (r = zix zLs0 0 (Int.bmod ch 256))) := by
  refine zPi.of zu_J1_indexOfChar_4cfef hC (Nat.le_of_ble_eq_true rfl) ?_
  show zW zn (d + 0) 12 c (0, [(some (.ref (z_RO + 100))), (some (.int (Int32.ofInt ch))), (some (.int (Int32.ofInt lo))), (some (.int (Int32.ofInt hi))), none, none], [], zk c m) (fun v h1 => ∃ (r : Int), v = some (.int (Int32.ofInt r)) ∧ h1 = zk c m ∧ (-1 ≤ r ∧ r < 1) ∧ (r = zix zLs0 0 (Int.bmod ch 256)))
  have f5 := zbm ch
  refine zW.step (st1 := (7, [(some (.ref (z_RO + 100))), (some (.int (Int32.ofInt ch))), (some (.int (Int32.ofInt lo))), (some (.int (Int32.ofInt hi))), (some (.int ((Int32.ofInt ch).toInt8.toInt32))), (some (.int (Int32.ofInt lo)))], [], zk c m)) (st2 := (7, [(some (.ref (z_RO + 100))), (some (.int (Int32.ofInt ch))), (some (.int (Int32.ofInt lo))), (some (.int (Int32.ofInt hi))), (some (.int (Int32.ofInt (Int.bmod ch 256)))), (some (.int (Int32.ofInt lo)))], [], zk c m)) ⟨[zo, zo, zo, zo, zo], _, rfl, ⟨trivial, trivial, trivial, trivial, trivial, trivial⟩⟩ (z_steq (z_c1 rfl (z_c1 rfl (z_c1 rfl (z_c1 rfl (z_c1 (z_si (zi_i2b rfl)) rfl))))) rfl rfl) ?_
  refine L_J1_indexOfChar_4cfef_100F_7 zn _ hN hC ch lo hi r_ch r_lo r_hi hl hh (Int.bmod ch 256) m hIm _ (fun v9 h9 hq9 => hq9) (fun x5_6 i1_6 i4_6 i5_6 J_6 e_6 => ?_) _ lo (by omega) (by omega) (by rfl) (by rw [hl]; rfl) rfl
  refine zW.step (st1 := (32, [(some (.ref (z_RO + 100))), (some (.int (Int32.ofInt ch))), (some (.int (Int32.ofInt lo))), (some (.int (Int32.ofInt hi))), (some (.int (Int32.ofInt (Int.bmod ch 256)))), (some (.int (Int32.ofInt x5_6)))], [.int (Int32.ofInt (-1))], zk c m)) (st2 := (32, [(some (.ref (z_RO + 100))), (some (.int (Int32.ofInt ch))), (some (.int (Int32.ofInt lo))), (some (.int (Int32.ofInt hi))), (some (.int (Int32.ofInt (Int.bmod ch 256)))), (some (.int (Int32.ofInt x5_6)))], [.int (Int32.ofInt (-1))], zk c m)) ⟨[zo], _, rfl, ⟨trivial, trivial⟩⟩ rfl ?_
  exact zW.fin (zfin_i rfl rfl rfl) ⟨(-1), rfl, rfl, (by omega), (by omega)⟩

set_option maxRecDepth 100000 in
set_option maxHeartbeats 4000000 in
theorem S_J1_indexOf_4cfef_100F (zn : Bool) (d : Nat) {c : Nat × Nat} {mM : zM} (hN : 107 ≤ c.1) (hC : c.1 < z_RO) (ch : Int) (fr : Int) (to : Int) (m : zM) (hIm : zI c mM m) (r_ch : -2147483648 ≤ ch ∧ ch ≤ 2147483647) (r_fr : -2147483648 ≤ fr ∧ fr ≤ 2147483647) (r_to : -2147483648 ≤ to ∧ to ≤ 2147483647) (hc : 0 ≤ ch ∧ ch ≤ 255) (hf : fr = 0) (hto : to = 1) : zPi zn (d + 2) 13 [.ref (z_RO + 100), .int (Int32.ofInt ch), .int (Int32.ofInt fr), .int (Int32.ofInt to)] c m (fun (r : Int) => (-1 ≤ r ∧ r < 1) ∧ (r = zix zLs0 0 ch)) := by
  refine zPi.of zu_J1_indexOf_4cfef hC (Nat.le_of_ble_eq_true rfl) ?_
  show zW zn (d + 1) 13 c (0, [(some (.ref (z_RO + 100))), (some (.int (Int32.ofInt ch))), (some (.int (Int32.ofInt fr))), (some (.int (Int32.ofInt to)))], [], zk c m) (fun v h1 => ∃ (r : Int), v = some (.int (Int32.ofInt r)) ∧ h1 = zk c m ∧ (-1 ≤ r ∧ r < 1) ∧ (r = zix zLs0 0 ch))
  have q1 := zix_0_m ch hc
  refine zW.step (st1 := (1, [(some (.ref (z_RO + 100))), (some (.int (Int32.ofInt ch))), (some (.int (Int32.ofInt fr))), (some (.int (Int32.ofInt to)))], [.int (Int32.ofInt ch)], zk c m)) (st2 := (1, [(some (.ref (z_RO + 100))), (some (.int (Int32.ofInt ch))), (some (.int (Int32.ofInt fr))), (some (.int (Int32.ofInt to)))], [.int (Int32.ofInt ch)], zk c m)) ⟨[zo], _, rfl, ⟨trivial, trivial⟩⟩ rfl ?_
  obtain ⟨r2, hs2, f_2⟩ := S_J1_canEncode_9a6ad_F zn (d + 0) hN hC ch m hIm (by omega) (by omega)
  refine zW.step (st1 := (4, [(some (.ref (z_RO + 100))), (some (.int (Int32.ofInt ch))), (some (.int (Int32.ofInt fr))), (some (.int (Int32.ofInt to)))], [.int (Int32.ofInt r2)], zk c m)) ⟨[zc (some (.int (Int32.ofInt r2))) (zk c m)], _, rfl, ⟨⟨(Nat.le_of_ble_eq_true rfl), hs2, (Nat.le_of_ble_eq_true rfl), Nat.le_refl _, Nat.le_refl _, Nat.le_refl _, Nat.le_refl _⟩, trivial⟩⟩ rfl ?_
  by_cases b3 : r2 = 0
  · refine zW.step (st1 := (7, [(some (.ref (z_RO + 100))), (some (.int (Int32.ofInt ch))), (some (.int (Int32.ofInt fr))), (some (.int (Int32.ofInt to)))], [], zk c m)) (st2 := (7, [(some (.ref (z_RO + 100))), (some (.int (Int32.ofInt ch))), (some (.int (Int32.ofInt fr))), (some (.int (Int32.ofInt to)))], [], zk c m)) ⟨[zo], _, rfl, ⟨zbf (fun q => q ((zi_eq rfl (rfl : (0 : Int32) = Int32.ofInt 0) (by unfold zR; omega) (⟨by decide, by decide⟩ : zR 0)).mpr b3)), trivial⟩⟩ rfl ?_
    exfalso; omega
  · refine zW.step (st1 := (9, [(some (.ref (z_RO + 100))), (some (.int (Int32.ofInt ch))), (some (.int (Int32.ofInt fr))), (some (.int (Int32.ofInt to)))], [], zk c m)) (st2 := (9, [(some (.ref (z_RO + 100))), (some (.int (Int32.ofInt ch))), (some (.int (Int32.ofInt fr))), (some (.int (Int32.ofInt to)))], [], zk c m)) ⟨[zt], _, rfl, ⟨zbt (fun q => b3 ((zi_eq rfl (rfl : (0 : Int32) = Int32.ofInt 0) (by unfold zR; omega) (⟨by decide, by decide⟩ : zR 0)).mp q)), trivial⟩⟩ rfl ?_
    by_cases b4 : (max fr 0) < (min to 1)
    · refine zW.step (st1 := (29, [(some (.ref (z_RO + 100))), (some (.int (Int32.ofInt ch))), (some (.int (if (Int32.ofInt fr) < (Int32.ofInt 0) then (Int32.ofInt 0) else (Int32.ofInt fr)))), (some (.int (if (Int32.ofNat 1) < (Int32.ofInt to) then (Int32.ofNat 1) else (Int32.ofInt to))))], [], zk c m)) (st2 := (29, [(some (.ref (z_RO + 100))), (some (.int (Int32.ofInt ch))), (some (.int (Int32.ofInt (max fr 0)))), (some (.int (Int32.ofInt (min to 1))))], [], zk c m)) ⟨[zo, zo, zo, zo, zo, zo, zo, zo, zo, zo, zo, zt], _, rfl, ⟨trivial, trivial, ⟨(Nat.le_of_ble_eq_true rfl), Nat.le_refl _, Nat.le_refl _⟩, trivial, trivial, trivial, trivial, ⟨(Nat.le_of_ble_eq_true rfl), Nat.le_refl _, Nat.le_refl _⟩, trivial, trivial, trivial, zbt ((zi_lt (zi_max rfl rfl (by unfold zR; omega) (⟨by decide, by decide⟩ : zR 0)) (zi_min rfl (by decide : Int32.ofNat 1 = Int32.ofInt 1) (by unfold zR; omega) (⟨by decide, by decide⟩ : zR 1)) (by unfold zR; omega) (by unfold zR; omega)).mpr b4), trivial⟩⟩ (z_steq (z_c1 rfl (z_c1 rfl (z_c1 (z_si (zi_max rfl rfl (by unfold zR; omega) (⟨by decide, by decide⟩ : zR 0))) (z_c1 (z_si (zi_min rfl (by decide : Int32.ofNat 1 = Int32.ofInt 1) (by unfold zR; omega) (⟨by decide, by decide⟩ : zR 1))) rfl)))) rfl rfl) ?_
      refine zW.step (st1 := (33, [(some (.ref (z_RO + 100))), (some (.int (Int32.ofInt ch))), (some (.int (Int32.ofInt (max fr 0)))), (some (.int (Int32.ofInt (min to 1))))], [.int (Int32.ofInt (min to 1)), .int (Int32.ofInt (max fr 0)), .int (Int32.ofInt ch), .ref (z_RO + 100)], zk c m)) (st2 := (33, [(some (.ref (z_RO + 100))), (some (.int (Int32.ofInt ch))), (some (.int (Int32.ofInt (max fr 0)))), (some (.int (Int32.ofInt (min to 1))))], [.int (Int32.ofInt (min to 1)), .int (Int32.ofInt (max fr 0)), .int (Int32.ofInt ch), .ref (z_RO + 100)], zk c m)) ⟨[zo, zo, zo, zo], _, rfl, ⟨trivial, trivial, trivial, trivial, trivial⟩⟩ rfl ?_
      obtain ⟨r5, hs5, q_5, f_5⟩ := S_J1_indexOfChar_4cfef_100F zn (d + 0) hN hC ch (max fr 0) (min to 1) m hIm (by omega) (by omega) (by omega) (by omega) (by omega)
      refine zW.step (st1 := (36, [(some (.ref (z_RO + 100))), (some (.int (Int32.ofInt ch))), (some (.int (Int32.ofInt (max fr 0)))), (some (.int (Int32.ofInt (min to 1))))], [.int (Int32.ofInt r5)], zk c m)) ⟨[zc (some (.int (Int32.ofInt r5))) (zk c m)], _, rfl, ⟨⟨(Nat.le_of_ble_eq_true rfl), hs5, (Nat.le_of_ble_eq_true rfl), Nat.le_refl _, Nat.le_refl _, Nat.le_refl _, Nat.le_refl _⟩, trivial⟩⟩ rfl ?_
      exact zW.fin (zfin_i rfl rfl rfl) ⟨r5, rfl, rfl, (by omega), (by omega)⟩
    · refine zW.step (st1 := (27, [(some (.ref (z_RO + 100))), (some (.int (Int32.ofInt ch))), (some (.int (if (Int32.ofInt fr) < (Int32.ofInt 0) then (Int32.ofInt 0) else (Int32.ofInt fr)))), (some (.int (if (Int32.ofNat 1) < (Int32.ofInt to) then (Int32.ofNat 1) else (Int32.ofInt to))))], [], zk c m)) (st2 := (27, [(some (.ref (z_RO + 100))), (some (.int (Int32.ofInt ch))), (some (.int (Int32.ofInt (max fr 0)))), (some (.int (Int32.ofInt (min to 1))))], [], zk c m)) ⟨[zo, zo, zo, zo, zo, zo, zo, zo, zo, zo, zo, zo], _, rfl, ⟨trivial, trivial, ⟨(Nat.le_of_ble_eq_true rfl), Nat.le_refl _, Nat.le_refl _⟩, trivial, trivial, trivial, trivial, ⟨(Nat.le_of_ble_eq_true rfl), Nat.le_refl _, Nat.le_refl _⟩, trivial, trivial, trivial, zbf (fun q => b4 ((zi_lt (zi_max rfl rfl (by unfold zR; omega) (⟨by decide, by decide⟩ : zR 0)) (zi_min rfl (by decide : Int32.ofNat 1 = Int32.ofInt 1) (by unfold zR; omega) (⟨by decide, by decide⟩ : zR 1)) (by unfold zR; omega) (by unfold zR; omega)).mp q)), trivial⟩⟩ (z_steq (z_c1 rfl (z_c1 rfl (z_c1 (z_si (zi_max rfl rfl (by unfold zR; omega) (⟨by decide, by decide⟩ : zR 0))) (z_c1 (z_si (zi_min rfl (by decide : Int32.ofNat 1 = Int32.ofInt 1) (by unfold zR; omega) (⟨by decide, by decide⟩ : zR 1))) rfl)))) rfl rfl) ?_
      exfalso; omega

set_option maxRecDepth 100000 in
set_option maxHeartbeats 4000000 in
theorem S_J0_indexOf_7cf53_0F (zn : Bool) (d : Nat) {c : Nat × Nat} {mM : zM} (hN : 107 ≤ c.1) (hC : c.1 < z_RO) (ch : Int) (fr : Int) (m : zM) (hIm : zI c mM m) (r_ch : -2147483648 ≤ ch ∧ ch ≤ 2147483647) (r_fr : -2147483648 ≤ fr ∧ fr ≤ 2147483647) (hc : 0 ≤ ch ∧ ch ≤ 255) (hf : fr = 0) : zPi zn (d + 3) 7 [.ref (z_RO + 0), .int (Int32.ofInt ch), .int (Int32.ofInt fr)] c m (fun (r : Int) => (-1 ≤ r ∧ r < 1) ∧ (r = zix zLs0 0 ch)) := by
  refine zPi.of zu_J0_indexOf_7cf53 hC (Nat.le_of_ble_eq_true rfl) ?_
  show zW zn (d + 2) 7 c (0, [(some (.ref (z_RO + 0))), (some (.int (Int32.ofInt ch))), (some (.int (Int32.ofInt fr)))], [], zk c m) (fun v h1 => ∃ (r : Int), v = some (.int (Int32.ofInt r)) ∧ h1 = zk c m ∧ (-1 ≤ r ∧ r < 1) ∧ (r = zix zLs0 0 ch))
  refine zW.step (st1 := (1, [(some (.ref (z_RO + 0))), (some (.int (Int32.ofInt ch))), (some (.int (Int32.ofInt fr)))], [.ref (z_RO + 0)], zk c m)) (st2 := (1, [(some (.ref (z_RO + 0))), (some (.int (Int32.ofInt ch))), (some (.int (Int32.ofInt fr)))], [.ref (z_RO + 0)], zk c m)) ⟨[zo], _, rfl, ⟨trivial, trivial⟩⟩ rfl ?_
  obtain ⟨r1, hs1, q_1⟩ := S_J0_isLatin1_aae02_0 zn (d + 1) hN hC m hIm
  subst q_1
  refine zW.step (st1 := (4, [(some (.ref (z_RO + 0))), (some (.int (Int32.ofInt ch))), (some (.int (Int32.ofInt fr)))], [.int (Int32.ofInt 1)], zk c m)) ⟨[zc (some (.int (Int32.ofInt 1))) (zk c m)], _, rfl, ⟨⟨(Nat.le_of_ble_eq_true rfl), hs1, (Nat.le_of_ble_eq_true rfl), Nat.le_refl _, Nat.le_refl _, Nat.le_refl _, Nat.le_refl _⟩, trivial⟩⟩ rfl ?_
  have b2 : ¬ ((1 : Int) = 0) := by omega
  refine zW.step (st1 := (7, [(some (.ref (z_RO + 0))), (some (.int (Int32.ofInt ch))), (some (.int (Int32.ofInt fr)))], [], zk c m)) (st2 := (7, [(some (.ref (z_RO + 0))), (some (.int (Int32.ofInt ch))), (some (.int (Int32.ofInt fr)))], [], zk c m)) ⟨[zo], _, rfl, ⟨zbf (fun q => b2 ((zi_eq (by decide : Int32.ofInt 1 = Int32.ofInt 1) (rfl : (0 : Int32) = Int32.ofInt 0) (⟨by decide, by decide⟩ : zR 1) (⟨by decide, by decide⟩ : zR 0)).mp q)), trivial⟩⟩ rfl ?_
  refine zW.step (st1 := (14, [(some (.ref (z_RO + 0))), (some (.int (Int32.ofInt ch))), (some (.int (Int32.ofInt fr)))], [.ref (z_RO + 0), .int (Int32.ofInt fr), .int (Int32.ofInt ch), .ref (z_RO + 100)], zk c m)) (st2 := (14, [(some (.ref (z_RO + 0))), (some (.int (Int32.ofInt ch))), (some (.int (Int32.ofInt fr)))], [.ref (z_RO + 0), .int (Int32.ofInt fr), .int (Int32.ofInt ch), .ref (z_RO + 100)], zk c m)) ⟨[zo, zo, zo, zo, zo], _, rfl, ⟨trivial, trivial, trivial, trivial, trivial, trivial⟩⟩ rfl ?_
  obtain ⟨r3, hs3, q_3⟩ := S_J0_length_8abf5_0 zn (d + 0) hN hC m hIm
  subst q_3
  refine zW.step (st1 := (17, [(some (.ref (z_RO + 0))), (some (.int (Int32.ofInt ch))), (some (.int (Int32.ofInt fr)))], [.int (Int32.ofInt 1), .int (Int32.ofInt fr), .int (Int32.ofInt ch), .ref (z_RO + 100)], zk c m)) ⟨[zc (some (.int (Int32.ofInt 1))) (zk c m)], _, rfl, ⟨⟨(Nat.le_of_ble_eq_true rfl), hs3, (Nat.le_of_ble_eq_true rfl), Nat.le_refl _, Nat.le_refl _, Nat.le_refl _, Nat.le_refl _⟩, trivial⟩⟩ rfl ?_
  obtain ⟨r4, hs4, q_4, f_4⟩ := S_J1_indexOf_4cfef_100F zn (d + 0) hN hC ch fr 1 m hIm (by omega) (by omega) (by omega) (by omega) (by omega) (by omega)
  refine zW.step (st1 := (20, [(some (.ref (z_RO + 0))), (some (.int (Int32.ofInt ch))), (some (.int (Int32.ofInt fr)))], [.int (Int32.ofInt r4)], zk c m)) ⟨[zc (some (.int (Int32.ofInt r4))) (zk c m)], _, rfl, ⟨⟨(Nat.le_of_ble_eq_true rfl), hs4, (Nat.le_of_ble_eq_true rfl), Nat.le_refl _, Nat.le_refl _, Nat.le_refl _, Nat.le_refl _⟩, trivial⟩⟩ rfl ?_
  refine zW.step (st1 := (36, [(some (.ref (z_RO + 0))), (some (.int (Int32.ofInt ch))), (some (.int (Int32.ofInt fr)))], [.int (Int32.ofInt r4)], zk c m)) (st2 := (36, [(some (.ref (z_RO + 0))), (some (.int (Int32.ofInt ch))), (some (.int (Int32.ofInt fr)))], [.int (Int32.ofInt r4)], zk c m)) ⟨[zo], _, rfl, ⟨trivial, trivial⟩⟩ rfl ?_
  exact zW.fin (zfin_i rfl rfl rfl) ⟨r4, rfl, rfl, (by omega), (by omega)⟩

