/-! texts, by program (wip/tools/gw5): X12_look_H, X12_fails_H, X12_here_F, X12_has_F, X12_mostOf_F, X12_leastOf_F, X12_usual_F -/
set_option maxRecDepth 100000 in
set_option maxHeartbeats 4000000 in
theorem L_X12_look_H_0 (zn : Bool) (d : Nat) {c : Nat × Nat} {mC : zM} {t9 : Int} {e9 : Nat} (hN : 107 ≤ c.1) (hC : c.1 < z_RO) (a9 : Int) (hb9 : 0 ≤ a9 ∧ a9 ≤ mC 79 6) (m0 : zM) (Q : Option Value → z_H → Prop) (K : ∀  (m : zM), zJ mC t9 e9 m → m 79 5 = 80 ∧ m 79 8 = 0 ∧ m 79 9 = mC 79 6 → znx (zbT mC) (mC 79 6) (m 79 10) = znx (zbT mC) (mC 79 6) a9 → m 79 11 = m0 79 11 → m 79 12 = m0 79 12 → zY m0 m → zD9 (fun p i => p = 79 ∧ (10 ≤ i ∧ i ≤ 12)) m0 m → znx (zbT mC) (mC 79 6) (m 79 10) = m 79 10 → zW zn (d + 0) 253 c (43, [(some (.ref 79))], [], zk c m) Q) :
    ∀ (w : Nat)  (m : zM), zJ mC t9 e9 m → m 79 5 = 80 ∧ m 79 8 = 0 ∧ m 79 9 = mC 79 6 → znx (zbT mC) (mC 79 6) (m 79 10) = znx (zbT mC) (mC 79 6) a9 → m 79 11 = m0 79 11 → m 79 12 = m0 79 12 → zY m0 m → zD9 (fun p i => p = 79 ∧ (10 ≤ i ∧ i ≤ 12)) m0 m → w = (241 - m 79 10).toNat → zW zn (d + 0) 253 c (0, [(some (.ref 79))], [], zk c m) Q := by
  intro w
  induction w using Nat.strongRecOn with | _ w ih => ?_
  intro m hIm t5 J j4 j5 tY tD hw
  have f1 : (80 : Int) ≤ m 79 5 ∧ m 79 5 ≤ 81 := hIm.1 79 5
  have f2 : (0 : Int) ≤ m 79 8 ∧ m 79 8 ≤ 720 := hIm.1 79 8
  have f3 : (0 : Int) ≤ m 79 9 ∧ m 79 9 ≤ 240 := hIm.1 79 9
  have f4 : (0 : Int) ≤ m 79 10 ∧ m 79 10 ≤ 241 := hIm.1 79 10
  have f5 : (-2147483648 : Int) ≤ m 79 11 ∧ m 79 11 ≤ 2147483647 := hIm.1 79 11
  have f6 : (0 : Int) ≤ m 79 12 ∧ m 79 12 ≤ 6 := hIm.1 79 12
  have q7 := znx_m hIm t5
  have q8 := zn_m hIm
  have q9 := zub_f (zch m)
  by_cases b10 : (m 79 9) ≤ (m 79 10)
  · refine zW.step (st1 := (43, [(some (.ref 79))], [], zk c m)) (st2 := (43, [(some (.ref 79))], [], zk c m)) ⟨[zo, zo, zo, zo, zt], _, rfl, ⟨trivial, (Nat.lt_of_lt_of_le (Nat.le_of_ble_eq_true rfl) hN), trivial, (Nat.lt_of_lt_of_le (Nat.le_of_ble_eq_true rfl) hN), zbt ((zi_le rfl rfl (by unfold zR; omega) (by unfold zR; omega)).mpr b10), trivial⟩⟩ rfl ?_
    exact K m hIm (by omega) (by omega) (by omega) (by omega) tY tD (by omega)
  · refine zW.step (st1 := (11, [(some (.ref 79))], [], zk c m)) (st2 := (11, [(some (.ref 79))], [], zk c m)) ⟨[zo, zo, zo, zo, zo], _, rfl, ⟨trivial, (Nat.lt_of_lt_of_le (Nat.le_of_ble_eq_true rfl) hN), trivial, (Nat.lt_of_lt_of_le (Nat.le_of_ble_eq_true rfl) hN), zbf (fun q => b10 ((zi_le rfl rfl (by unfold zR; omega) (by unfold zR; omega)).mp q)), trivial⟩⟩ rfl ?_
    obtain ⟨X11, nX11, hX11, kX11, hAX11⟩ := zx_tx hIm.1
    have f12 := zJ_tb hIm
    have zX11 := zch_eq hX11
    refine zW.step (st1 := (15, [(some (.ref 79))], [(zm_rf (m 79 5))], zk c m)) (st2 := (15, [(some (.ref 79))], [.ref X11], zk c m)) ⟨[zo, zo], _, rfl, ⟨trivial, (Nat.lt_of_lt_of_le (Nat.le_of_ble_eq_true rfl) hN), trivial⟩⟩ (z_steq rfl (z_c1 (zm_rf_1 hX11 (by omega)) rfl) rfl) ?_
    have f13 : (-128 : Int) ≤ m X11 (((m 79 8) + (m 79 10)).toNat) ∧ m X11 (((m 79 8) + (m 79 10)).toNat) ≤ 127 := zx_b hIm.1 (X := X11) (by omega) (((m 79 8) + (m 79 10)).toNat)
    by_cases b14 : (m X11 (((m 79 8) + (m 79 10)).toNat)) = 32
    · refine zW.step (st1 := (30, [(some (.ref 79))], [], zk c m)) (st2 := (30, [(some (.ref 79))], [], zk c m)) ⟨[zo, zo, zo, zo, zo, (false, 0, none, zh0, some (.inl (2, nX11, .inl (fun j => Int32.ofInt (m X11 j))))), zo, zo], _, rfl, ⟨trivial, (Nat.lt_of_lt_of_le (Nat.le_of_ble_eq_true rfl) hN), trivial, (Nat.lt_of_lt_of_le (Nat.le_of_ble_eq_true rfl) hN), trivial, ⟨zk_ra c m hAX11 (by omega), zi_in (zi_add rfl rfl) (by omega) (by omega) (by omega)⟩, trivial, zbf (fun q => q ((zi_eq ((zk_rd (f := m X11) (zi_add rfl rfl) (by unfold zR; omega)).trans rfl : Int32.ofInt (m X11 ((Int32.ofInt (m 79 8)) + (Int32.ofInt (m 79 10))).toNatClampNeg) = Int32.ofInt (m X11 (((m 79 8) + (m 79 10)).toNat))) (by decide : (Int8.ofInt 32).toInt32 = Int32.ofInt 32) (by unfold zR; omega) (⟨by decide, by decide⟩ : zR 32)).mpr b14)), trivial⟩⟩ rfl ?_
      obtain ⟨m15, hm15⟩ : ∃ q, q = zm_up m 79 10 ((m 79 10) + 1) := ⟨_, rfl⟩
      have hIm15 := zJ_upE hIm hm15 (zOj_79 (by decide)) (show (0 : Int) ≤ ((m 79 10) + 1) ∧ ((m 79 10) + 1) ≤ 241 by omega)
      have em15 : m15 79 10 = ((m 79 10) + 1) := by rw [hm15]; exact zm_eq
      have f16 : m15 79 9 = m 79 9 := by rw [hm15]; exact zm_ne (Or.inr (by decide))
      have f17 : m15 79 8 = m 79 8 := by rw [hm15]; exact zm_ne (Or.inr (by decide))
      have f18 : m15 79 5 = m 79 5 := by rw [hm15]; exact zm_ne (Or.inr (by decide))
      have f19 : m15 79 11 = m 79 11 := by rw [hm15]; exact zm_ne (Or.inr (by decide))
      have f20 : m15 79 12 = m 79 12 := by rw [hm15]; exact zm_ne (Or.inr (by decide))
      have tk21 : zY m0 m15 := by rw [hm15]; exact zY_up tY (zYs_79 (by decide))
      have tk22 : zD9 (fun p i => p = 79 ∧ (10 ≤ i ∧ i ≤ 12)) m0 m15 := by rw [hm15]; exact zD9_up tD (by first | rfl | omega | (dsimp only; omega))
      refine zW.step (st1 := (40, [(some (.ref 79))], [], z_hup (zk c m) 79 (.inr (12, (.int (Int32.ofInt (m 79 0)) :: .ref 80 :: .ref 81 :: .ref 82 :: .ref 83 :: zm_rf (m 79 5) :: .int (Int32.ofInt (m 79 6)) :: .int (Int32.ofInt (m 79 7)) :: .int (Int32.ofInt (m 79 8)) :: .int (Int32.ofInt (m 79 9)) :: .int ((Int32.ofInt (m 79 10)) + (Int32.ofInt 1)) :: .int (Int32.ofInt (m 79 11)) :: .int (Int32.ofInt (m 79 12)) :: .int (Int32.ofInt (m 79 13)) :: .int (Int32.ofInt (m 79 14)) :: .ref (z_RO + 5) :: .ref (z_RO + 3) :: .int (Int32.ofInt (m 79 17)) :: .ref 84 :: .ref 85 :: .ref 86 :: .ref 87 :: .ref 88 :: .ref 89 :: .ref 90 :: .ref 91 :: .int (Int32.ofInt (m 79 26)) :: .int (Int32.ofInt (m 79 27)) :: .int (Int32.ofInt (m 79 28)) :: .int (Int32.ofInt (m 79 29)) :: .int (Int32.ofInt (m 79 30)) :: .ref 92 :: .ref 93 :: .int (Int32.ofInt (m 79 33)) :: .int (Int32.ofInt (m 79 34)) :: .ref 94 :: .ref 95 :: .int (Int32.ofInt (m 79 37)) :: .int (Int32.ofInt (m 79 38)) :: .int (Int32.ofInt (m 79 39)) :: .int (Int32.ofInt (m 79 40)) :: .int (Int32.ofInt (m 79 41)) :: .int (Int32.ofInt (m 79 42)) :: .ref 96 :: .ref 97 :: .ref 98 :: .ref 99 :: .ref 100 :: .int (Int32.ofInt (m 79 48)) :: .int (Int32.ofInt (m 79 49)) :: .long (Int64.ofInt (m 79 50)) :: .ref 101 :: .ref 102 :: .int (Int32.ofInt (m 79 53)) :: .ref 103 :: .ref 104 :: .ref 105 :: .int (Int32.ofInt (m 79 57)) :: []))))) (st2 := (40, [(some (.ref 79))], [], zk c m15)) ⟨[zo, zo, zo, zo, zo, zo], _, rfl, ⟨trivial, trivial, (Nat.lt_of_lt_of_le (Nat.le_of_ble_eq_true rfl) hN), trivial, trivial, ⟨(Nat.lt_of_lt_of_le (Nat.le_of_ble_eq_true rfl) hN), rfl, rfl⟩, trivial⟩⟩ (z_steq rfl rfl ((zk_up c m 79 10 ((m 79 10) + 1) _ ((congrArg (fun q => (.inr (12, (.int (Int32.ofInt (m 79 0)) :: .ref 80 :: .ref 81 :: .ref 82 :: .ref 83 :: zm_rf (m 79 5) :: .int (Int32.ofInt (m 79 6)) :: .int (Int32.ofInt (m 79 7)) :: .int (Int32.ofInt (m 79 8)) :: .int (Int32.ofInt (m 79 9)) :: .int q :: .int (Int32.ofInt (m 79 11)) :: .int (Int32.ofInt (m 79 12)) :: .int (Int32.ofInt (m 79 13)) :: .int (Int32.ofInt (m 79 14)) :: .ref (z_RO + 5) :: .ref (z_RO + 3) :: .int (Int32.ofInt (m 79 17)) :: .ref 84 :: .ref 85 :: .ref 86 :: .ref 87 :: .ref 88 :: .ref 89 :: .ref 90 :: .ref 91 :: .int (Int32.ofInt (m 79 26)) :: .int (Int32.ofInt (m 79 27)) :: .int (Int32.ofInt (m 79 28)) :: .int (Int32.ofInt (m 79 29)) :: .int (Int32.ofInt (m 79 30)) :: .ref 92 :: .ref 93 :: .int (Int32.ofInt (m 79 33)) :: .int (Int32.ofInt (m 79 34)) :: .ref 94 :: .ref 95 :: .int (Int32.ofInt (m 79 37)) :: .int (Int32.ofInt (m 79 38)) :: .int (Int32.ofInt (m 79 39)) :: .int (Int32.ofInt (m 79 40)) :: .int (Int32.ofInt (m 79 41)) :: .int (Int32.ofInt (m 79 42)) :: .ref 96 :: .ref 97 :: .ref 98 :: .ref 99 :: .ref 100 :: .int (Int32.ofInt (m 79 48)) :: .int (Int32.ofInt (m 79 49)) :: .long (Int64.ofInt (m 79 50)) :: .ref 101 :: .ref 102 :: .int (Int32.ofInt (m 79 53)) :: .ref 103 :: .ref 104 :: .ref 105 :: .int (Int32.ofInt (m 79 57)) :: [])) : z_E)) (zi_add rfl rfl)).trans rfl)).trans (by rw [hm15]))) ?_
      refine zW.step (st1 := (0, [(some (.ref 79))], [], zk c m15)) (st2 := (0, [(some (.ref 79))], [], zk c m15)) ⟨[zo], _, rfl, ⟨trivial, trivial⟩⟩ rfl ?_
      exact ih _ (by omega) m15 hIm15 (by omega) (by have e9 : m15 79 10 = m 79 10 + 1 := (by omega); rw [e9]; omega) (by omega) (by omega) tk21 tk22 rfl
    · refine zW.step (st1 := (43, [(some (.ref 79))], [], zk c m)) (st2 := (43, [(some (.ref 79))], [], zk c m)) ⟨[zo, zo, zo, zo, zo, (false, 0, none, zh0, some (.inl (2, nX11, .inl (fun j => Int32.ofInt (m X11 j))))), zo, zt], _, rfl, ⟨trivial, (Nat.lt_of_lt_of_le (Nat.le_of_ble_eq_true rfl) hN), trivial, (Nat.lt_of_lt_of_le (Nat.le_of_ble_eq_true rfl) hN), trivial, ⟨zk_ra c m hAX11 (by omega), zi_in (zi_add rfl rfl) (by omega) (by omega) (by omega)⟩, trivial, zbt (fun q => b14 ((zi_eq ((zk_rd (f := m X11) (zi_add rfl rfl) (by unfold zR; omega)).trans rfl : Int32.ofInt (m X11 ((Int32.ofInt (m 79 8)) + (Int32.ofInt (m 79 10))).toNatClampNeg) = Int32.ofInt (m X11 (((m 79 8) + (m 79 10)).toNat))) (by decide : (Int8.ofInt 32).toInt32 = Int32.ofInt 32) (by unfold zR; omega) (⟨by decide, by decide⟩ : zR 32)).mp q)), trivial⟩⟩ rfl ?_
      exact K m hIm (by omega) (by omega) (by omega) (by omega) tY tD (by omega)

set_option maxRecDepth 100000 in
set_option maxHeartbeats 4000000 in
theorem S_X12_look_H (zn : Bool) (d : Nat) {c : Nat × Nat} {mC : zM} {t9 : Int} {e9 : Nat} (hN : 107 ≤ c.1) (hC : c.1 < z_RO) (a9 : Int) (m : zM) (hIm : zJ mC t9 e9 m) (ha9 : m 79 10 = a9) (hb9 : 0 ≤ a9 ∧ a9 ≤ mC 79 6) (ht5 : m 79 5 = 80 ∧ m 79 8 = 0 ∧ m 79 9 = mC 79 6) : zCi zn (d + 1) 253 [.ref 79] c m (fun (r : Int) (m1 : zM) => zJ mC t9 e9 m1 ∧ (-1 ≤ r ∧ r ≤ 255) ∧ (r = zpk (zbT mC) (mC 79 6) (znx (zbT mC) (mC 79 6) a9)) ∧ (m1 79 10 = znx (zbT mC) (mC 79 6) a9) ∧ (a9 ≤ m1 79 10 ∧ m1 79 10 ≤ mC 79 6) ∧ (r = -1 ∨ m1 79 10 < mC 79 6) ∧ (m1 79 5 = 80 ∧ m1 79 8 = 0 ∧ m1 79 9 = mC 79 6) ∧ (m1 79 11 = m 79 11) ∧ (m1 79 12 = m 79 12) ∧ zY m m1 ∧ zD9 (fun p i => p = 79 ∧ (10 ≤ i ∧ i ≤ 12)) m m1) := by
  refine zCi.of zu_X12_look hC (Nat.le_of_ble_eq_true rfl) ?_
  show zW zn (d + 0) 253 c (0, [(some (.ref 79))], [], zk c m) (fun v h1 => ∃ (r : Int) (m1 : zM), v = some (.int (Int32.ofInt r)) ∧ h1 = zk c m1 ∧ zJ mC t9 e9 m1 ∧ (-1 ≤ r ∧ r ≤ 255) ∧ (r = zpk (zbT mC) (mC 79 6) (znx (zbT mC) (mC 79 6) a9)) ∧ (m1 79 10 = znx (zbT mC) (mC 79 6) a9) ∧ (a9 ≤ m1 79 10 ∧ m1 79 10 ≤ mC 79 6) ∧ (r = -1 ∨ m1 79 10 < mC 79 6) ∧ (m1 79 5 = 80 ∧ m1 79 8 = 0 ∧ m1 79 9 = mC 79 6) ∧ (m1 79 11 = m 79 11) ∧ (m1 79 12 = m 79 12) ∧ zY m m1 ∧ zD9 (fun p i => p = 79 ∧ (10 ≤ i ∧ i ≤ 12)) m m1)
  have f23 : (80 : Int) ≤ m 79 5 ∧ m 79 5 ≤ 81 := hIm.1 79 5
  have f24 : (0 : Int) ≤ m 79 8 ∧ m 79 8 ≤ 720 := hIm.1 79 8
  have f25 : (0 : Int) ≤ m 79 9 ∧ m 79 9 ≤ 240 := hIm.1 79 9
  have f26 : (0 : Int) ≤ m 79 10 ∧ m 79 10 ≤ 241 := hIm.1 79 10
  have f27 : (-2147483648 : Int) ≤ m 79 11 ∧ m 79 11 ≤ 2147483647 := hIm.1 79 11
  have f28 : (0 : Int) ≤ m 79 12 ∧ m 79 12 ≤ 6 := hIm.1 79 12
  have q29 := zn_m hIm
  have q30 := znx_le (b := zbT mC) (n := mC 79 6) hb9.2
  have q31 := zpk_or (zbT mC) (mC 79 6) (znx (zbT mC) (mC 79 6) a9)
  refine L_X12_look_H_0 zn _ hN hC a9 hb9 m _ (fun m_32 hIm_32 t5_32 J_32 j4_32 j5_32 tY_32 tD_32 x_32 => ?_) _ m hIm (by omega) (by rw [ha9]) (by omega) (by omega) zY_rf zD9_rf rfl
  have f33 : (80 : Int) ≤ m_32 79 5 ∧ m_32 79 5 ≤ 81 := hIm_32.1 79 5
  have f34 : (0 : Int) ≤ m_32 79 8 ∧ m_32 79 8 ≤ 720 := hIm_32.1 79 8
  have f35 : (0 : Int) ≤ m_32 79 9 ∧ m_32 79 9 ≤ 240 := hIm_32.1 79 9
  have f36 : (0 : Int) ≤ m_32 79 10 ∧ m_32 79 10 ≤ 241 := hIm_32.1 79 10
  have f37 : (-2147483648 : Int) ≤ m_32 79 11 ∧ m_32 79 11 ≤ 2147483647 := hIm_32.1 79 11
  have f38 : (0 : Int) ≤ m_32 79 12 ∧ m_32 79 12 ≤ 6 := hIm_32.1 79 12
  have q39 := zpk_m hIm_32 (by omega) (rfl : m_32 79 10 = m_32 79 10)
  have q40 := congrArg (zpk (zbT mC) (mC 79 6)) (show m_32 79 10 = znx (zbT mC) (mC 79 6) a9 by omega)
  have q41 := zub_f (zch m_32)
  by_cases b42 : (m_32 79 9) ≤ (m_32 79 10)
  · refine zW.step (st1 := (75, [(some (.ref 79))], [], zk c m_32)) (st2 := (75, [(some (.ref 79))], [], zk c m_32)) ⟨[zo, zo, zo, zo, zt], _, rfl, ⟨trivial, (Nat.lt_of_lt_of_le (Nat.le_of_ble_eq_true rfl) hN), trivial, (Nat.lt_of_lt_of_le (Nat.le_of_ble_eq_true rfl) hN), zbt ((zi_le rfl rfl (by unfold zR; omega) (by unfold zR; omega)).mpr b42), trivial⟩⟩ rfl ?_
    refine zW.step (st1 := (76, [(some (.ref 79))], [.int (Int32.ofInt (-1))], zk c m_32)) (st2 := (76, [(some (.ref 79))], [.int (Int32.ofInt (-1))], zk c m_32)) ⟨[zo], _, rfl, ⟨trivial, trivial⟩⟩ rfl ?_
    exact zW.fin (zfin_i rfl rfl rfl) ⟨(-1), m_32, rfl, rfl, hIm_32, (by omega), (by omega), (by omega), (by omega), (by omega), (by omega), (by omega), (by omega), tY_32, tD_32⟩
  · refine zW.step (st1 := (54, [(some (.ref 79))], [], zk c m_32)) (st2 := (54, [(some (.ref 79))], [], zk c m_32)) ⟨[zo, zo, zo, zo, zo], _, rfl, ⟨trivial, (Nat.lt_of_lt_of_le (Nat.le_of_ble_eq_true rfl) hN), trivial, (Nat.lt_of_lt_of_le (Nat.le_of_ble_eq_true rfl) hN), zbf (fun q => b42 ((zi_le rfl rfl (by unfold zR; omega) (by unfold zR; omega)).mp q)), trivial⟩⟩ rfl ?_
    obtain ⟨X43, nX43, hX43, kX43, hAX43⟩ := zx_tx hIm_32.1
    have f44 := zJ_tb hIm_32
    have zX43 := zch_eq hX43
    refine zW.step (st1 := (58, [(some (.ref 79))], [(zm_rf (m_32 79 5))], zk c m_32)) (st2 := (58, [(some (.ref 79))], [.ref X43], zk c m_32)) ⟨[zo, zo], _, rfl, ⟨trivial, (Nat.lt_of_lt_of_le (Nat.le_of_ble_eq_true rfl) hN), trivial⟩⟩ (z_steq rfl (z_c1 (zm_rf_1 hX43 (by omega)) rfl) rfl) ?_
    have f45 : (-128 : Int) ≤ m_32 X43 (((m_32 79 8) + (m_32 79 10)).toNat) ∧ m_32 X43 (((m_32 79 8) + (m_32 79 10)).toNat) ≤ 127 := zx_b hIm_32.1 (X := X43) (by omega) (((m_32 79 8) + (m_32 79 10)).toNat)
    have f46 : (-2147483648 : Int) ≤ zb_and (m_32 X43 (((m_32 79 8) + (m_32 79 10)).toNat)) 255 ∧ zb_and (m_32 X43 (((m_32 79 8) + (m_32 79 10)).toNat)) 255 ≤ 2147483647 := zb_andR (m_32 X43 (((m_32 79 8) + (m_32 79 10)).toNat)) 255
    have f47 := zb_and255 (m_32 X43 (((m_32 79 8) + (m_32 79 10)).toNat))
    have f48 := zb_and_le (a := m_32 X43 (((m_32 79 8) + (m_32 79 10)).toNat)) (b := 255) (by decide) (by decide)
    have q49 := zb_255 (v := (m_32 X43 (((m_32 79 8) + (m_32 79 10)).toNat))) (w := zch m_32) (by omega) (by omega)
    refine zW.step (st1 := (76, [(some (.ref 79))], [.int ((Int32.ofInt (m_32 X43 ((Int32.ofInt (m_32 79 8)) + (Int32.ofInt (m_32 79 10))).toNatClampNeg)) &&& ((Int16.ofInt 255).toInt32))], zk c m_32)) (st2 := (76, [(some (.ref 79))], [.int (Int32.ofInt (zb_and (m_32 X43 (((m_32 79 8) + (m_32 79 10)).toNat)) 255))], zk c m_32)) ⟨[zo, zo, zo, zo, zo, (false, 0, none, zh0, some (.inl (2, nX43, .inl (fun j => Int32.ofInt (m_32 X43 j))))), zo, zo, zo], _, rfl, ⟨trivial, (Nat.lt_of_lt_of_le (Nat.le_of_ble_eq_true rfl) hN), trivial, (Nat.lt_of_lt_of_le (Nat.le_of_ble_eq_true rfl) hN), trivial, ⟨zk_ra c m_32 hAX43 (by omega), zi_in (zi_add rfl rfl) (by omega) (by omega) (by omega)⟩, trivial, trivial, trivial, trivial⟩⟩ (z_steq rfl (z_c1 (z_vi (zi_and ((zk_rd (f := m_32 X43) (zi_add rfl rfl) (by unfold zR; omega)).trans rfl : Int32.ofInt (m_32 X43 ((Int32.ofInt (m_32 79 8)) + (Int32.ofInt (m_32 79 10))).toNatClampNeg) = Int32.ofInt (m_32 X43 (((m_32 79 8) + (m_32 79 10)).toNat))) (by decide : (Int16.ofInt 255).toInt32 = Int32.ofInt 255))) rfl) rfl) ?_
    exact zW.fin (zfin_i rfl rfl rfl) ⟨zb_and (m_32 X43 (((m_32 79 8) + (m_32 79 10)).toNat)) 255, m_32, rfl, rfl, hIm_32, (by omega), (by omega), (by omega), (by omega), (by omega), (by omega), (by omega), (by omega), tY_32, tD_32⟩

set_option maxRecDepth 100000 in
set_option maxHeartbeats 4000000 in
theorem S_X12_fails_H (zn : Bool) (d : Nat) {c : Nat × Nat} {mC : zM} {t9 : Int} {e9 : Nat} (hN : 107 ≤ c.1) (hC : c.1 < z_RO) (a9 : Int) (m : zM) (hIm : zJ mC t9 e9 m) (ha9 : m 79 11 = -1 → m 79 10 = a9) (ht5 : m 79 5 = 80 ∧ m 79 8 = 0 ∧ m 79 9 = mC 79 6) : zCi zn (d + 1) 210 [.ref 79] c m (fun (r : Int) (m1 : zM) => zJ mC t9 e9 m1 ∧ (r = 0) ∧ ((m 79 11 = -1 → m1 79 11 = a9) ∧ (m 79 11 ≠ -1 → m1 79 11 = m 79 11)) ∧ (m1 79 10 = m 79 10) ∧ (m1 79 5 = 80 ∧ m1 79 8 = 0 ∧ m1 79 9 = mC 79 6) ∧ (m1 79 12 = m 79 12) ∧ zY m m1 ∧ zD9 (fun p i => p = 79 ∧ (10 ≤ i ∧ i ≤ 12)) m m1) := by
  refine zCi.of zu_X12_fails hC (Nat.le_of_ble_eq_true rfl) ?_
  show zW zn (d + 0) 210 c (0, [(some (.ref 79))], [], zk c m) (fun v h1 => ∃ (r : Int) (m1 : zM), v = some (.int (Int32.ofInt r)) ∧ h1 = zk c m1 ∧ zJ mC t9 e9 m1 ∧ (r = 0) ∧ ((m 79 11 = -1 → m1 79 11 = a9) ∧ (m 79 11 ≠ -1 → m1 79 11 = m 79 11)) ∧ (m1 79 10 = m 79 10) ∧ (m1 79 5 = 80 ∧ m1 79 8 = 0 ∧ m1 79 9 = mC 79 6) ∧ (m1 79 12 = m 79 12) ∧ zY m m1 ∧ zD9 (fun p i => p = 79 ∧ (10 ≤ i ∧ i ≤ 12)) m m1)
  have f1 : (80 : Int) ≤ m 79 5 ∧ m 79 5 ≤ 81 := hIm.1 79 5
  have f2 : (0 : Int) ≤ m 79 8 ∧ m 79 8 ≤ 720 := hIm.1 79 8
  have f3 : (0 : Int) ≤ m 79 9 ∧ m 79 9 ≤ 240 := hIm.1 79 9
  have f4 : (0 : Int) ≤ m 79 10 ∧ m 79 10 ≤ 241 := hIm.1 79 10
  have f5 : (-2147483648 : Int) ≤ m 79 11 ∧ m 79 11 ≤ 2147483647 := hIm.1 79 11
  have f6 : (0 : Int) ≤ m 79 12 ∧ m 79 12 ≤ 6 := hIm.1 79 12
  by_cases b7 : (m 79 11) = (-1)
  · refine zW.step (st1 := (8, [(some (.ref 79))], [], zk c m)) (st2 := (8, [(some (.ref 79))], [], zk c m)) ⟨[zo, zo, zo, zo], _, rfl, ⟨trivial, (Nat.lt_of_lt_of_le (Nat.le_of_ble_eq_true rfl) hN), trivial, zbf (fun q => q ((zi_eq rfl rfl (by unfold zR; omega) (⟨by decide, by decide⟩ : zR (-1))).mpr b7)), trivial⟩⟩ rfl ?_
    obtain ⟨m8, hm8⟩ : ∃ q, q = zm_up m 79 11 (m 79 10) := ⟨_, rfl⟩
    have hIm8 := zJ_upE hIm hm8 (zOj_79 (by decide)) (show (-2147483648 : Int) ≤ (m 79 10) ∧ (m 79 10) ≤ 2147483647 by omega)
    have em8 : m8 79 11 = (m 79 10) := by rw [hm8]; exact zm_eq
    have f9 : m8 79 5 = m 79 5 := by rw [hm8]; exact zm_ne (Or.inr (by decide))
    have f10 : m8 79 8 = m 79 8 := by rw [hm8]; exact zm_ne (Or.inr (by decide))
    have f11 : m8 79 9 = m 79 9 := by rw [hm8]; exact zm_ne (Or.inr (by decide))
    have f12 : m8 79 10 = m 79 10 := by rw [hm8]; exact zm_ne (Or.inr (by decide))
    have f13 : m8 79 12 = m 79 12 := by rw [hm8]; exact zm_ne (Or.inr (by decide))
    have tk14 : zY m m8 := by rw [hm8]; exact zY_up zY_rf (zYs_79 (by decide))
    have tk15 : zD9 (fun p i => p = 79 ∧ (10 ≤ i ∧ i ≤ 12)) m m8 := by rw [hm8]; exact zD9_up zD9_rf (by first | rfl | omega | (dsimp only; omega))
    refine zW.step (st1 := (16, [(some (.ref 79))], [], z_hup (zk c m) 79 (.inr (12, (.int (Int32.ofInt (m 79 0)) :: .ref 80 :: .ref 81 :: .ref 82 :: .ref 83 :: zm_rf (m 79 5) :: .int (Int32.ofInt (m 79 6)) :: .int (Int32.ofInt (m 79 7)) :: .int (Int32.ofInt (m 79 8)) :: .int (Int32.ofInt (m 79 9)) :: .int (Int32.ofInt (m 79 10)) :: .int (Int32.ofInt (m 79 10)) :: .int (Int32.ofInt (m 79 12)) :: .int (Int32.ofInt (m 79 13)) :: .int (Int32.ofInt (m 79 14)) :: .ref (z_RO + 5) :: .ref (z_RO + 3) :: .int (Int32.ofInt (m 79 17)) :: .ref 84 :: .ref 85 :: .ref 86 :: .ref 87 :: .ref 88 :: .ref 89 :: .ref 90 :: .ref 91 :: .int (Int32.ofInt (m 79 26)) :: .int (Int32.ofInt (m 79 27)) :: .int (Int32.ofInt (m 79 28)) :: .int (Int32.ofInt (m 79 29)) :: .int (Int32.ofInt (m 79 30)) :: .ref 92 :: .ref 93 :: .int (Int32.ofInt (m 79 33)) :: .int (Int32.ofInt (m 79 34)) :: .ref 94 :: .ref 95 :: .int (Int32.ofInt (m 79 37)) :: .int (Int32.ofInt (m 79 38)) :: .int (Int32.ofInt (m 79 39)) :: .int (Int32.ofInt (m 79 40)) :: .int (Int32.ofInt (m 79 41)) :: .int (Int32.ofInt (m 79 42)) :: .ref 96 :: .ref 97 :: .ref 98 :: .ref 99 :: .ref 100 :: .int (Int32.ofInt (m 79 48)) :: .int (Int32.ofInt (m 79 49)) :: .long (Int64.ofInt (m 79 50)) :: .ref 101 :: .ref 102 :: .int (Int32.ofInt (m 79 53)) :: .ref 103 :: .ref 104 :: .ref 105 :: .int (Int32.ofInt (m 79 57)) :: []))))) (st2 := (16, [(some (.ref 79))], [], zk c m8)) ⟨[zo, zo, zo, zo], _, rfl, ⟨trivial, trivial, (Nat.lt_of_lt_of_le (Nat.le_of_ble_eq_true rfl) hN), ⟨(Nat.lt_of_lt_of_le (Nat.le_of_ble_eq_true rfl) hN), rfl, rfl⟩, trivial⟩⟩ (z_steq rfl rfl ((zk_up c m 79 11 (m 79 10) _ rfl).trans (by rw [hm8]))) ?_
    refine zW.step (st1 := (17, [(some (.ref 79))], [.int (Int32.ofInt 0)], zk c m8)) (st2 := (17, [(some (.ref 79))], [.int (Int32.ofInt 0)], zk c m8)) ⟨[zo], _, rfl, ⟨trivial, trivial⟩⟩ rfl ?_
    exact zW.fin (zfin_i rfl rfl rfl) ⟨0, m8, rfl, rfl, hIm8, (by omega), (by omega), (by omega), (by omega), (by omega), tk14, tk15⟩
  · refine zW.step (st1 := (16, [(some (.ref 79))], [], zk c m)) (st2 := (16, [(some (.ref 79))], [], zk c m)) ⟨[zo, zo, zo, zt], _, rfl, ⟨trivial, (Nat.lt_of_lt_of_le (Nat.le_of_ble_eq_true rfl) hN), trivial, zbt (fun q => b7 ((zi_eq rfl rfl (by unfold zR; omega) (⟨by decide, by decide⟩ : zR (-1))).mp q)), trivial⟩⟩ rfl ?_
    refine zW.step (st1 := (17, [(some (.ref 79))], [.int (Int32.ofInt 0)], zk c m)) (st2 := (17, [(some (.ref 79))], [.int (Int32.ofInt 0)], zk c m)) ⟨[zo], _, rfl, ⟨trivial, trivial⟩⟩ rfl ?_
    exact zW.fin (zfin_i rfl rfl rfl) ⟨0, m, rfl, rfl, hIm, (by omega), (by omega), (by omega), (by omega), (by omega), zY_rf, zD9_rf⟩

set_option maxRecDepth 100000 in
set_option maxHeartbeats 4000000 in
theorem S_X12_here_F (zn : Bool) (d : Nat) {c : Nat × Nat} {mC : zM} {t9 : Int} {e9 : Nat} (hN : 107 ≤ c.1) (hC : c.1 < z_RO) (a9 : Int) (m : zM) (hIm : zJ mC t9 e9 m) (ha9 : m 79 10 = a9) (ht5 : m 79 5 = 80 ∧ m 79 8 = 0 ∧ m 79 9 = mC 79 6) : zPi zn (d + 1) 228 [.ref 79] c m (fun (r : Int) => (-1 ≤ r ∧ r ≤ 255) ∧ (r = zpk (zbT mC) (mC 79 6) a9)) := by
  refine zPi.of zu_X12_here hC (Nat.le_of_ble_eq_true rfl) ?_
  show zW zn (d + 0) 228 c (0, [(some (.ref 79))], [], zk c m) (fun v h1 => ∃ (r : Int), v = some (.int (Int32.ofInt r)) ∧ h1 = zk c m ∧ (-1 ≤ r ∧ r ≤ 255) ∧ (r = zpk (zbT mC) (mC 79 6) a9))
  have f1 : (80 : Int) ≤ m 79 5 ∧ m 79 5 ≤ 81 := hIm.1 79 5
  have f2 : (0 : Int) ≤ m 79 8 ∧ m 79 8 ≤ 720 := hIm.1 79 8
  have f3 : (0 : Int) ≤ m 79 9 ∧ m 79 9 ≤ 240 := hIm.1 79 9
  have f4 : (0 : Int) ≤ m 79 10 ∧ m 79 10 ≤ 241 := hIm.1 79 10
  have f5 : (-2147483648 : Int) ≤ m 79 11 ∧ m 79 11 ≤ 2147483647 := hIm.1 79 11
  have f6 : (0 : Int) ≤ m 79 12 ∧ m 79 12 ≤ 6 := hIm.1 79 12
  have q7 := zpk_m hIm ht5 ha9
  have q8 := zn_m hIm
  have q9 := zub_f (zch m)
  by_cases b10 : (m 79 9) ≤ (m 79 10)
  · refine zW.step (st1 := (32, [(some (.ref 79))], [], zk c m)) (st2 := (32, [(some (.ref 79))], [], zk c m)) ⟨[zo, zo, zo, zo, zt], _, rfl, ⟨trivial, (Nat.lt_of_lt_of_le (Nat.le_of_ble_eq_true rfl) hN), trivial, (Nat.lt_of_lt_of_le (Nat.le_of_ble_eq_true rfl) hN), zbt ((zi_le rfl rfl (by unfold zR; omega) (by unfold zR; omega)).mpr b10), trivial⟩⟩ rfl ?_
    refine zW.step (st1 := (33, [(some (.ref 79))], [.int (Int32.ofInt (-1))], zk c m)) (st2 := (33, [(some (.ref 79))], [.int (Int32.ofInt (-1))], zk c m)) ⟨[zo], _, rfl, ⟨trivial, trivial⟩⟩ rfl ?_
    exact zW.fin (zfin_i rfl rfl rfl) ⟨(-1), rfl, rfl, (by omega), (by omega)⟩
  · refine zW.step (st1 := (11, [(some (.ref 79))], [], zk c m)) (st2 := (11, [(some (.ref 79))], [], zk c m)) ⟨[zo, zo, zo, zo, zo], _, rfl, ⟨trivial, (Nat.lt_of_lt_of_le (Nat.le_of_ble_eq_true rfl) hN), trivial, (Nat.lt_of_lt_of_le (Nat.le_of_ble_eq_true rfl) hN), zbf (fun q => b10 ((zi_le rfl rfl (by unfold zR; omega) (by unfold zR; omega)).mp q)), trivial⟩⟩ rfl ?_
    obtain ⟨X11, nX11, hX11, kX11, hAX11⟩ := zx_tx hIm.1
    have f12 := zJ_tb hIm
    have zX11 := zch_eq hX11
    refine zW.step (st1 := (15, [(some (.ref 79))], [(zm_rf (m 79 5))], zk c m)) (st2 := (15, [(some (.ref 79))], [.ref X11], zk c m)) ⟨[zo, zo], _, rfl, ⟨trivial, (Nat.lt_of_lt_of_le (Nat.le_of_ble_eq_true rfl) hN), trivial⟩⟩ (z_steq rfl (z_c1 (zm_rf_1 hX11 (by omega)) rfl) rfl) ?_
    have f13 : (-128 : Int) ≤ m X11 (((m 79 8) + (m 79 10)).toNat) ∧ m X11 (((m 79 8) + (m 79 10)).toNat) ≤ 127 := zx_b hIm.1 (X := X11) (by omega) (((m 79 8) + (m 79 10)).toNat)
    have f14 : (-2147483648 : Int) ≤ zb_and (m X11 (((m 79 8) + (m 79 10)).toNat)) 255 ∧ zb_and (m X11 (((m 79 8) + (m 79 10)).toNat)) 255 ≤ 2147483647 := zb_andR (m X11 (((m 79 8) + (m 79 10)).toNat)) 255
    have f15 := zb_and255 (m X11 (((m 79 8) + (m 79 10)).toNat))
    have f16 := zb_and_le (a := m X11 (((m 79 8) + (m 79 10)).toNat)) (b := 255) (by decide) (by decide)
    have q17 := zb_255 (v := (m X11 (((m 79 8) + (m 79 10)).toNat))) (w := zch m) (by omega) (by omega)
    refine zW.step (st1 := (33, [(some (.ref 79))], [.int ((Int32.ofInt (m X11 ((Int32.ofInt (m 79 8)) + (Int32.ofInt (m 79 10))).toNatClampNeg)) &&& ((Int16.ofInt 255).toInt32))], zk c m)) (st2 := (33, [(some (.ref 79))], [.int (Int32.ofInt (zb_and (m X11 (((m 79 8) + (m 79 10)).toNat)) 255))], zk c m)) ⟨[zo, zo, zo, zo, zo, (false, 0, none, zh0, some (.inl (2, nX11, .inl (fun j => Int32.ofInt (m X11 j))))), zo, zo, zo], _, rfl, ⟨trivial, (Nat.lt_of_lt_of_le (Nat.le_of_ble_eq_true rfl) hN), trivial, (Nat.lt_of_lt_of_le (Nat.le_of_ble_eq_true rfl) hN), trivial, ⟨zk_ra c m hAX11 (by omega), zi_in (zi_add rfl rfl) (by omega) (by omega) (by omega)⟩, trivial, trivial, trivial, trivial⟩⟩ (z_steq rfl (z_c1 (z_vi (zi_and ((zk_rd (f := m X11) (zi_add rfl rfl) (by unfold zR; omega)).trans rfl : Int32.ofInt (m X11 ((Int32.ofInt (m 79 8)) + (Int32.ofInt (m 79 10))).toNatClampNeg) = Int32.ofInt (m X11 (((m 79 8) + (m 79 10)).toNat))) (by decide : (Int16.ofInt 255).toInt32 = Int32.ofInt 255))) rfl) rfl) ?_
    exact zW.fin (zfin_i rfl rfl rfl) ⟨zb_and (m X11 (((m 79 8) + (m 79 10)).toNat)) 255, rfl, rfl, (by omega), (by omega)⟩

set_option maxRecDepth 100000 in
set_option maxHeartbeats 4000000 in
theorem S_X12_has_F (zn : Bool) (d : Nat) {c : Nat × Nat} {mC : zM} {t9 : Int} {e9 : Nat} (hN : 107 ≤ c.1) (hC : c.1 < z_RO) (a : Int) (b : Int) (m : zM) (hIm : zJ mC t9 e9 m) (r_a : -2147483648 ≤ a ∧ a ≤ 2147483647) (r_b : -2147483648 ≤ b ∧ b ≤ 2147483647) : zPi zn (d + 1) 225 [.int (Int32.ofInt a), .int (Int32.ofInt b)] c m (fun (r : Int) => (0 ≤ r ∧ r ≤ 1) ∧ (r = 1 ↔ zb_and (zb_shr a b) 1 = 1)) := by
  refine zPi.of zu_X12_has hC (Nat.le_of_ble_eq_true rfl) ?_
  show zW zn (d + 0) 225 c (0, [(some (.int (Int32.ofInt a))), (some (.int (Int32.ofInt b)))], [], zk c m) (fun v h1 => ∃ (r : Int), v = some (.int (Int32.ofInt r)) ∧ h1 = zk c m ∧ (0 ≤ r ∧ r ≤ 1) ∧ (r = 1 ↔ zb_and (zb_shr a b) 1 = 1))
  have f1 : (-2147483648 : Int) ≤ zb_shr a b ∧ zb_shr a b ≤ 2147483647 := zb_shrR a b
  have f2 := zb_shr_f a b
  have f3 : (-2147483648 : Int) ≤ zb_and (zb_shr a b) 1 ∧ zb_and (zb_shr a b) 1 ≤ 2147483647 := zb_andR (zb_shr a b) 1
  have f4 := zb_and_le (a := zb_shr a b) (b := 1) (by decide) (by decide)
  by_cases b5 : (zb_and (zb_shr a b) 1) = 1
  · refine zW.step (st1 := (9, [(some (.int (Int32.ofInt a))), (some (.int (Int32.ofInt b)))], [], zk c m)) (st2 := (9, [(some (.int (Int32.ofInt a))), (some (.int (Int32.ofInt b)))], [], zk c m)) ⟨[zo, zo, zo, zo, zo, zo, zo], _, rfl, ⟨trivial, trivial, trivial, trivial, trivial, trivial, zbf (fun q => q ((zi_eq (zi_and (zi_shr rfl rfl) rfl) rfl (zb_andR _ _) (⟨by decide, by decide⟩ : zR 1)).mpr b5)), trivial⟩⟩ rfl ?_
    refine zW.step (st1 := (14, [(some (.int (Int32.ofInt a))), (some (.int (Int32.ofInt b)))], [.int (Int32.ofInt 1)], zk c m)) (st2 := (14, [(some (.int (Int32.ofInt a))), (some (.int (Int32.ofInt b)))], [.int (Int32.ofInt 1)], zk c m)) ⟨[zo, zo], _, rfl, ⟨trivial, trivial, trivial⟩⟩ rfl ?_
    exact zW.fin (zfin_i rfl rfl rfl) ⟨1, rfl, rfl, (by omega), (by omega)⟩
  · refine zW.step (st1 := (13, [(some (.int (Int32.ofInt a))), (some (.int (Int32.ofInt b)))], [], zk c m)) (st2 := (13, [(some (.int (Int32.ofInt a))), (some (.int (Int32.ofInt b)))], [], zk c m)) ⟨[zo, zo, zo, zo, zo, zo, zt], _, rfl, ⟨trivial, trivial, trivial, trivial, trivial, trivial, zbt (fun q => b5 ((zi_eq (zi_and (zi_shr rfl rfl) rfl) rfl (zb_andR _ _) (⟨by decide, by decide⟩ : zR 1)).mp q)), trivial⟩⟩ rfl ?_
    refine zW.step (st1 := (14, [(some (.int (Int32.ofInt a))), (some (.int (Int32.ofInt b)))], [.int (Int32.ofInt 0)], zk c m)) (st2 := (14, [(some (.int (Int32.ofInt a))), (some (.int (Int32.ofInt b)))], [.int (Int32.ofInt 0)], zk c m)) ⟨[zo], _, rfl, ⟨trivial, trivial⟩⟩ rfl ?_
    exact zW.fin (zfin_i rfl rfl rfl) ⟨0, rfl, rfl, (by omega), (by omega)⟩

set_option maxRecDepth 100000 in
set_option maxHeartbeats 4000000 in
theorem S_X12_mostOf_F (zn : Bool) (d : Nat) {c : Nat × Nat} {mC : zM} {t9 : Int} {e9 : Nat} (hN : 107 ≤ c.1) (hC : c.1 < z_RO) (kind : Int) (what : Int) (m : zM) (hIm : zJ mC t9 e9 m) (r_kind : -2147483648 ≤ kind ∧ kind ≤ 2147483647) (r_what : -2147483648 ≤ what ∧ what ≤ 2147483647) : zPi zn (d + 1) 258 [.int (Int32.ofInt kind), .int (Int32.ofInt what)] c m (fun (r : Int) => (0 ≤ r ∧ r ≤ 99) ∧ (kind = 99 → (what = 5 → r = 3) ∧ (what = 6 → r = 6)) ∧ (kind = 99 → (what = 0 → r = 4) ∧ (what = 1 → r = 9) ∧ (what = 2 → r = 99) ∧ (what = 3 → r = 99) ∧ (what = 4 → r = 99) ∧ (what = 5 → r = 3) ∧ (what = 6 → r = 6)) ∧ (kind = 112 → (what = 0 → r = 9) ∧ (what = 1 → r = 1)) ∧ (kind = 114 → r = 5)) := by
  refine zPi.of zu_X12_mostOf hC (Nat.le_of_ble_eq_true rfl) ?_
  show zW zn (d + 0) 258 c (0, [(some (.int (Int32.ofInt kind))), (some (.int (Int32.ofInt what)))], [], zk c m) (fun v h1 => ∃ (r : Int), v = some (.int (Int32.ofInt r)) ∧ h1 = zk c m ∧ (0 ≤ r ∧ r ≤ 99) ∧ (kind = 99 → (what = 5 → r = 3) ∧ (what = 6 → r = 6)) ∧ (kind = 99 → (what = 0 → r = 4) ∧ (what = 1 → r = 9) ∧ (what = 2 → r = 99) ∧ (what = 3 → r = 99) ∧ (what = 4 → r = 99) ∧ (what = 5 → r = 3) ∧ (what = 6 → r = 6)) ∧ (kind = 112 → (what = 0 → r = 9) ∧ (what = 1 → r = 1)) ∧ (kind = 114 → r = 5))
  by_cases b1 : kind = 114
  · refine zW.step (st1 := (6, [(some (.int (Int32.ofInt kind))), (some (.int (Int32.ofInt what)))], [], zk c m)) (st2 := (6, [(some (.int (Int32.ofInt kind))), (some (.int (Int32.ofInt what)))], [], zk c m)) ⟨[zo, zo, zo], _, rfl, ⟨trivial, trivial, zbf (fun q => q ((zi_eq rfl (by decide : (Int8.ofInt 114).toInt32 = Int32.ofInt 114) (by unfold zR; omega) (⟨by decide, by decide⟩ : zR 114)).mpr b1)), trivial⟩⟩ rfl ?_
    refine zW.step (st1 := (7, [(some (.int (Int32.ofInt kind))), (some (.int (Int32.ofInt what)))], [.int (Int32.ofInt 5)], zk c m)) (st2 := (7, [(some (.int (Int32.ofInt kind))), (some (.int (Int32.ofInt what)))], [.int (Int32.ofInt 5)], zk c m)) ⟨[zo], _, rfl, ⟨trivial, trivial⟩⟩ rfl ?_
    exact zW.fin (zfin_i rfl rfl rfl) ⟨5, rfl, rfl, (by omega), (by omega), (by omega), (by omega), (by omega)⟩
  · refine zW.step (st1 := (8, [(some (.int (Int32.ofInt kind))), (some (.int (Int32.ofInt what)))], [], zk c m)) (st2 := (8, [(some (.int (Int32.ofInt kind))), (some (.int (Int32.ofInt what)))], [], zk c m)) ⟨[zo, zo, zt], _, rfl, ⟨trivial, trivial, zbt (fun q => b1 ((zi_eq rfl (by decide : (Int8.ofInt 114).toInt32 = Int32.ofInt 114) (by unfold zR; omega) (⟨by decide, by decide⟩ : zR 114)).mp q)), trivial⟩⟩ rfl ?_
    by_cases b2 : kind = 112
    · refine zW.step (st1 := (14, [(some (.int (Int32.ofInt kind))), (some (.int (Int32.ofInt what)))], [], zk c m)) (st2 := (14, [(some (.int (Int32.ofInt kind))), (some (.int (Int32.ofInt what)))], [], zk c m)) ⟨[zo, zo, zo], _, rfl, ⟨trivial, trivial, zbf (fun q => q ((zi_eq rfl (by decide : (Int8.ofInt 112).toInt32 = Int32.ofInt 112) (by unfold zR; omega) (⟨by decide, by decide⟩ : zR 112)).mpr b2)), trivial⟩⟩ rfl ?_
      by_cases b3 : what = 0
      · refine zW.step (st1 := (18, [(some (.int (Int32.ofInt kind))), (some (.int (Int32.ofInt what)))], [], zk c m)) (st2 := (18, [(some (.int (Int32.ofInt kind))), (some (.int (Int32.ofInt what)))], [], zk c m)) ⟨[zo, zo], _, rfl, ⟨trivial, zbf (fun q => q ((zi_eq rfl (rfl : (0 : Int32) = Int32.ofInt 0) (by unfold zR; omega) (⟨by decide, by decide⟩ : zR 0)).mpr b3)), trivial⟩⟩ rfl ?_
        refine zW.step (st1 := (24, [(some (.int (Int32.ofInt kind))), (some (.int (Int32.ofInt what)))], [.int ((Int8.ofInt 9).toInt32)], zk c m)) (st2 := (24, [(some (.int (Int32.ofInt kind))), (some (.int (Int32.ofInt what)))], [.int (Int32.ofInt 9)], zk c m)) ⟨[zo, zo], _, rfl, ⟨trivial, trivial, trivial⟩⟩ (z_steq rfl (z_c1 (z_vi (by decide : (Int8.ofInt 9).toInt32 = Int32.ofInt 9)) rfl) rfl) ?_
        exact zW.fin (zfin_i rfl rfl rfl) ⟨9, rfl, rfl, (by omega), (by omega), (by omega), (by omega), (by omega)⟩
      · refine zW.step (st1 := (23, [(some (.int (Int32.ofInt kind))), (some (.int (Int32.ofInt what)))], [], zk c m)) (st2 := (23, [(some (.int (Int32.ofInt kind))), (some (.int (Int32.ofInt what)))], [], zk c m)) ⟨[zo, zt], _, rfl, ⟨trivial, zbt (fun q => b3 ((zi_eq rfl (rfl : (0 : Int32) = Int32.ofInt 0) (by unfold zR; omega) (⟨by decide, by decide⟩ : zR 0)).mp q)), trivial⟩⟩ rfl ?_
        refine zW.step (st1 := (24, [(some (.int (Int32.ofInt kind))), (some (.int (Int32.ofInt what)))], [.int (Int32.ofInt 1)], zk c m)) (st2 := (24, [(some (.int (Int32.ofInt kind))), (some (.int (Int32.ofInt what)))], [.int (Int32.ofInt 1)], zk c m)) ⟨[zo], _, rfl, ⟨trivial, trivial⟩⟩ rfl ?_
        exact zW.fin (zfin_i rfl rfl rfl) ⟨1, rfl, rfl, (by omega), (by omega), (by omega), (by omega), (by omega)⟩
    · refine zW.step (st1 := (25, [(some (.int (Int32.ofInt kind))), (some (.int (Int32.ofInt what)))], [], zk c m)) (st2 := (25, [(some (.int (Int32.ofInt kind))), (some (.int (Int32.ofInt what)))], [], zk c m)) ⟨[zo, zo, zt], _, rfl, ⟨trivial, trivial, zbt (fun q => b2 ((zi_eq rfl (by decide : (Int8.ofInt 112).toInt32 = Int32.ofInt 112) (by unfold zR; omega) (⟨by decide, by decide⟩ : zR 112)).mp q)), trivial⟩⟩ rfl ?_
      by_cases b4 : what = 0
      · refine zW.step (st1 := (68, [(some (.int (Int32.ofInt kind))), (some (.int (Int32.ofInt what)))], [], zk c m)) (st2 := (68, [(some (.int (Int32.ofInt kind))), (some (.int (Int32.ofInt what)))], [], zk c m)) ⟨[zo, (true, 0, none, zh0, none)], _, rfl, ⟨trivial, zts (j := 0) rfl (by unfold zR; omega) (by omega), trivial⟩⟩ rfl ?_
        refine zW.step (st1 := (69, [(some (.int (Int32.ofInt kind))), (some (.int (Int32.ofInt what)))], [.int (Int32.ofInt 4)], zk c m)) (st2 := (69, [(some (.int (Int32.ofInt kind))), (some (.int (Int32.ofInt what)))], [.int (Int32.ofInt 4)], zk c m)) ⟨[zo], _, rfl, ⟨trivial, trivial⟩⟩ rfl ?_
        exact zW.fin (zfin_i rfl rfl rfl) ⟨4, rfl, rfl, (by omega), (by omega), (by omega), (by omega), (by omega)⟩
      by_cases b5 : what = 1
      · refine zW.step (st1 := (70, [(some (.int (Int32.ofInt kind))), (some (.int (Int32.ofInt what)))], [], zk c m)) (st2 := (70, [(some (.int (Int32.ofInt kind))), (some (.int (Int32.ofInt what)))], [], zk c m)) ⟨[zo, (true, 1, none, zh0, none)], _, rfl, ⟨trivial, zts (j := 1) rfl (by unfold zR; omega) (by omega), trivial⟩⟩ rfl ?_
        refine zW.step (st1 := (72, [(some (.int (Int32.ofInt kind))), (some (.int (Int32.ofInt what)))], [.int ((Int8.ofInt 9).toInt32)], zk c m)) (st2 := (72, [(some (.int (Int32.ofInt kind))), (some (.int (Int32.ofInt what)))], [.int (Int32.ofInt 9)], zk c m)) ⟨[zo], _, rfl, ⟨trivial, trivial⟩⟩ (z_steq rfl (z_c1 (z_vi (by decide : (Int8.ofInt 9).toInt32 = Int32.ofInt 9)) rfl) rfl) ?_
        exact zW.fin (zfin_i rfl rfl rfl) ⟨9, rfl, rfl, (by omega), (by omega), (by omega), (by omega), (by omega)⟩
      by_cases b6 : what = 2
      · refine zW.step (st1 := (78, [(some (.int (Int32.ofInt kind))), (some (.int (Int32.ofInt what)))], [], zk c m)) (st2 := (78, [(some (.int (Int32.ofInt kind))), (some (.int (Int32.ofInt what)))], [], zk c m)) ⟨[zo, (true, 2, none, zh0, none)], _, rfl, ⟨trivial, zts (j := 2) rfl (by unfold zR; omega) (by omega), trivial⟩⟩ rfl ?_
        refine zW.step (st1 := (80, [(some (.int (Int32.ofInt kind))), (some (.int (Int32.ofInt what)))], [.int ((Int8.ofInt 99).toInt32)], zk c m)) (st2 := (80, [(some (.int (Int32.ofInt kind))), (some (.int (Int32.ofInt what)))], [.int (Int32.ofInt 99)], zk c m)) ⟨[zo], _, rfl, ⟨trivial, trivial⟩⟩ (z_steq rfl (z_c1 (z_vi (by decide : (Int8.ofInt 99).toInt32 = Int32.ofInt 99)) rfl) rfl) ?_
        exact zW.fin (zfin_i rfl rfl rfl) ⟨99, rfl, rfl, (by omega), (by omega), (by omega), (by omega), (by omega)⟩
      by_cases b7 : what = 3
      · refine zW.step (st1 := (78, [(some (.int (Int32.ofInt kind))), (some (.int (Int32.ofInt what)))], [], zk c m)) (st2 := (78, [(some (.int (Int32.ofInt kind))), (some (.int (Int32.ofInt what)))], [], zk c m)) ⟨[zo, (true, 3, none, zh0, none)], _, rfl, ⟨trivial, zts (j := 3) rfl (by unfold zR; omega) (by omega), trivial⟩⟩ rfl ?_
        refine zW.step (st1 := (80, [(some (.int (Int32.ofInt kind))), (some (.int (Int32.ofInt what)))], [.int ((Int8.ofInt 99).toInt32)], zk c m)) (st2 := (80, [(some (.int (Int32.ofInt kind))), (some (.int (Int32.ofInt what)))], [.int (Int32.ofInt 99)], zk c m)) ⟨[zo], _, rfl, ⟨trivial, trivial⟩⟩ (z_steq rfl (z_c1 (z_vi (by decide : (Int8.ofInt 99).toInt32 = Int32.ofInt 99)) rfl) rfl) ?_
        exact zW.fin (zfin_i rfl rfl rfl) ⟨99, rfl, rfl, (by omega), (by omega), (by omega), (by omega), (by omega)⟩
      by_cases b8 : what = 4
      · refine zW.step (st1 := (78, [(some (.int (Int32.ofInt kind))), (some (.int (Int32.ofInt what)))], [], zk c m)) (st2 := (78, [(some (.int (Int32.ofInt kind))), (some (.int (Int32.ofInt what)))], [], zk c m)) ⟨[zo, (true, 4, none, zh0, none)], _, rfl, ⟨trivial, zts (j := 4) rfl (by unfold zR; omega) (by omega), trivial⟩⟩ rfl ?_
        refine zW.step (st1 := (80, [(some (.int (Int32.ofInt kind))), (some (.int (Int32.ofInt what)))], [.int ((Int8.ofInt 99).toInt32)], zk c m)) (st2 := (80, [(some (.int (Int32.ofInt kind))), (some (.int (Int32.ofInt what)))], [.int (Int32.ofInt 99)], zk c m)) ⟨[zo], _, rfl, ⟨trivial, trivial⟩⟩ (z_steq rfl (z_c1 (z_vi (by decide : (Int8.ofInt 99).toInt32 = Int32.ofInt 99)) rfl) rfl) ?_
        exact zW.fin (zfin_i rfl rfl rfl) ⟨99, rfl, rfl, (by omega), (by omega), (by omega), (by omega), (by omega)⟩
      by_cases b9 : what = 5
      · refine zW.step (st1 := (73, [(some (.int (Int32.ofInt kind))), (some (.int (Int32.ofInt what)))], [], zk c m)) (st2 := (73, [(some (.int (Int32.ofInt kind))), (some (.int (Int32.ofInt what)))], [], zk c m)) ⟨[zo, (true, 5, none, zh0, none)], _, rfl, ⟨trivial, zts (j := 5) rfl (by unfold zR; omega) (by omega), trivial⟩⟩ rfl ?_
        refine zW.step (st1 := (74, [(some (.int (Int32.ofInt kind))), (some (.int (Int32.ofInt what)))], [.int (Int32.ofInt 3)], zk c m)) (st2 := (74, [(some (.int (Int32.ofInt kind))), (some (.int (Int32.ofInt what)))], [.int (Int32.ofInt 3)], zk c m)) ⟨[zo], _, rfl, ⟨trivial, trivial⟩⟩ rfl ?_
        exact zW.fin (zfin_i rfl rfl rfl) ⟨3, rfl, rfl, (by omega), (by omega), (by omega), (by omega), (by omega)⟩
      by_cases b10 : what = 6
      · refine zW.step (st1 := (75, [(some (.int (Int32.ofInt kind))), (some (.int (Int32.ofInt what)))], [], zk c m)) (st2 := (75, [(some (.int (Int32.ofInt kind))), (some (.int (Int32.ofInt what)))], [], zk c m)) ⟨[zo, (true, 6, none, zh0, none)], _, rfl, ⟨trivial, zts (j := 6) rfl (by unfold zR; omega) (by omega), trivial⟩⟩ rfl ?_
        refine zW.step (st1 := (77, [(some (.int (Int32.ofInt kind))), (some (.int (Int32.ofInt what)))], [.int ((Int8.ofInt 6).toInt32)], zk c m)) (st2 := (77, [(some (.int (Int32.ofInt kind))), (some (.int (Int32.ofInt what)))], [.int (Int32.ofInt 6)], zk c m)) ⟨[zo], _, rfl, ⟨trivial, trivial⟩⟩ (z_steq rfl (z_c1 (z_vi (by decide : (Int8.ofInt 6).toInt32 = Int32.ofInt 6)) rfl) rfl) ?_
        exact zW.fin (zfin_i rfl rfl rfl) ⟨6, rfl, rfl, (by omega), (by omega), (by omega), (by omega), (by omega)⟩
      refine zW.step (st1 := (78, [(some (.int (Int32.ofInt kind))), (some (.int (Int32.ofInt what)))], [], zk c m)) (st2 := (78, [(some (.int (Int32.ofInt kind))), (some (.int (Int32.ofInt what)))], [], zk c m)) ⟨[zo, zo], _, rfl, ⟨trivial, ztdf rfl (by unfold zR; omega) (by omega), trivial⟩⟩ rfl ?_
      refine zW.step (st1 := (80, [(some (.int (Int32.ofInt kind))), (some (.int (Int32.ofInt what)))], [.int ((Int8.ofInt 99).toInt32)], zk c m)) (st2 := (80, [(some (.int (Int32.ofInt kind))), (some (.int (Int32.ofInt what)))], [.int (Int32.ofInt 99)], zk c m)) ⟨[zo], _, rfl, ⟨trivial, trivial⟩⟩ (z_steq rfl (z_c1 (z_vi (by decide : (Int8.ofInt 99).toInt32 = Int32.ofInt 99)) rfl) rfl) ?_
      exact zW.fin (zfin_i rfl rfl rfl) ⟨99, rfl, rfl, (by omega), (by omega), (by omega), (by omega), (by omega)⟩

set_option maxRecDepth 100000 in
set_option maxHeartbeats 4000000 in
theorem S_X12_leastOf_F (zn : Bool) (d : Nat) {c : Nat × Nat} {mC : zM} {t9 : Int} {e9 : Nat} (hN : 107 ≤ c.1) (hC : c.1 < z_RO) (kind : Int) (what : Int) (m : zM) (hIm : zJ mC t9 e9 m) (r_kind : -2147483648 ≤ kind ∧ kind ≤ 2147483647) (r_what : -2147483648 ≤ what ∧ what ≤ 2147483647) : zPi zn (d + 1) 249 [.int (Int32.ofInt kind), .int (Int32.ofInt what)] c m (fun (r : Int) => (0 ≤ r ∧ r ≤ 1) ∧ (kind = 99 → what = 4 → r = 1) ∧ (kind = 99 → (what = 0 → r = 0) ∧ (what = 1 → r = 0) ∧ (what = 2 → r = 1) ∧ (what = 3 → r = 1) ∧ (what = 4 → r = 1) ∧ (what = 5 → r = 0) ∧ (what = 6 → r = 0)) ∧ (kind = 112 → (what = 0 → r = 0) ∧ (what = 1 → r = 0)) ∧ (kind = 114 → r = 0)) := by
  refine zPi.of zu_X12_leastOf hC (Nat.le_of_ble_eq_true rfl) ?_
  show zW zn (d + 0) 249 c (0, [(some (.int (Int32.ofInt kind))), (some (.int (Int32.ofInt what)))], [], zk c m) (fun v h1 => ∃ (r : Int), v = some (.int (Int32.ofInt r)) ∧ h1 = zk c m ∧ (0 ≤ r ∧ r ≤ 1) ∧ (kind = 99 → what = 4 → r = 1) ∧ (kind = 99 → (what = 0 → r = 0) ∧ (what = 1 → r = 0) ∧ (what = 2 → r = 1) ∧ (what = 3 → r = 1) ∧ (what = 4 → r = 1) ∧ (what = 5 → r = 0) ∧ (what = 6 → r = 0)) ∧ (kind = 112 → (what = 0 → r = 0) ∧ (what = 1 → r = 0)) ∧ (kind = 114 → r = 0))
  by_cases b1 : kind = 99
  · refine zW.step (st1 := (6, [(some (.int (Int32.ofInt kind))), (some (.int (Int32.ofInt what)))], [], zk c m)) (st2 := (6, [(some (.int (Int32.ofInt kind))), (some (.int (Int32.ofInt what)))], [], zk c m)) ⟨[zo, zo, zo], _, rfl, ⟨trivial, trivial, zbf (fun q => q ((zi_eq rfl (by decide : (Int8.ofInt 99).toInt32 = Int32.ofInt 99) (by unfold zR; omega) (⟨by decide, by decide⟩ : zR 99)).mpr b1)), trivial⟩⟩ rfl ?_
    by_cases b2 : what ≤ 1
    · refine zW.step (st1 := (20, [(some (.int (Int32.ofInt kind))), (some (.int (Int32.ofInt what)))], [], zk c m)) (st2 := (20, [(some (.int (Int32.ofInt kind))), (some (.int (Int32.ofInt what)))], [], zk c m)) ⟨[zo, zo, zt], _, rfl, ⟨trivial, trivial, zbt ((zi_le rfl rfl (by unfold zR; omega) (⟨by decide, by decide⟩ : zR 1)).mpr b2), trivial⟩⟩ rfl ?_
      refine zW.step (st1 := (21, [(some (.int (Int32.ofInt kind))), (some (.int (Int32.ofInt what)))], [.int (Int32.ofInt 0)], zk c m)) (st2 := (21, [(some (.int (Int32.ofInt kind))), (some (.int (Int32.ofInt what)))], [.int (Int32.ofInt 0)], zk c m)) ⟨[zo], _, rfl, ⟨trivial, trivial⟩⟩ rfl ?_
      exact zW.fin (zfin_i rfl rfl rfl) ⟨0, rfl, rfl, (by omega), (by omega), (by omega), (by omega), (by omega)⟩
    · refine zW.step (st1 := (11, [(some (.int (Int32.ofInt kind))), (some (.int (Int32.ofInt what)))], [], zk c m)) (st2 := (11, [(some (.int (Int32.ofInt kind))), (some (.int (Int32.ofInt what)))], [], zk c m)) ⟨[zo, zo, zo], _, rfl, ⟨trivial, trivial, zbf (fun q => b2 ((zi_le rfl rfl (by unfold zR; omega) (⟨by decide, by decide⟩ : zR 1)).mp q)), trivial⟩⟩ rfl ?_
      by_cases b3 : 5 ≤ what
      · refine zW.step (st1 := (20, [(some (.int (Int32.ofInt kind))), (some (.int (Int32.ofInt what)))], [], zk c m)) (st2 := (20, [(some (.int (Int32.ofInt kind))), (some (.int (Int32.ofInt what)))], [], zk c m)) ⟨[zo, zo, zt], _, rfl, ⟨trivial, trivial, zbt ((zi_le rfl rfl (⟨by decide, by decide⟩ : zR 5) (by unfold zR; omega)).mpr b3), trivial⟩⟩ rfl ?_
        refine zW.step (st1 := (21, [(some (.int (Int32.ofInt kind))), (some (.int (Int32.ofInt what)))], [.int (Int32.ofInt 0)], zk c m)) (st2 := (21, [(some (.int (Int32.ofInt kind))), (some (.int (Int32.ofInt what)))], [.int (Int32.ofInt 0)], zk c m)) ⟨[zo], _, rfl, ⟨trivial, trivial⟩⟩ rfl ?_
        exact zW.fin (zfin_i rfl rfl rfl) ⟨0, rfl, rfl, (by omega), (by omega), (by omega), (by omega), (by omega)⟩
      · refine zW.step (st1 := (16, [(some (.int (Int32.ofInt kind))), (some (.int (Int32.ofInt what)))], [], zk c m)) (st2 := (16, [(some (.int (Int32.ofInt kind))), (some (.int (Int32.ofInt what)))], [], zk c m)) ⟨[zo, zo, zo], _, rfl, ⟨trivial, trivial, zbf (fun q => b3 ((zi_le rfl rfl (⟨by decide, by decide⟩ : zR 5) (by unfold zR; omega)).mp q)), trivial⟩⟩ rfl ?_
        refine zW.step (st1 := (21, [(some (.int (Int32.ofInt kind))), (some (.int (Int32.ofInt what)))], [.int (Int32.ofInt 1)], zk c m)) (st2 := (21, [(some (.int (Int32.ofInt kind))), (some (.int (Int32.ofInt what)))], [.int (Int32.ofInt 1)], zk c m)) ⟨[zo, zo], _, rfl, ⟨trivial, trivial, trivial⟩⟩ rfl ?_
        exact zW.fin (zfin_i rfl rfl rfl) ⟨1, rfl, rfl, (by omega), (by omega), (by omega), (by omega), (by omega)⟩
  · refine zW.step (st1 := (20, [(some (.int (Int32.ofInt kind))), (some (.int (Int32.ofInt what)))], [], zk c m)) (st2 := (20, [(some (.int (Int32.ofInt kind))), (some (.int (Int32.ofInt what)))], [], zk c m)) ⟨[zo, zo, zt], _, rfl, ⟨trivial, trivial, zbt (fun q => b1 ((zi_eq rfl (by decide : (Int8.ofInt 99).toInt32 = Int32.ofInt 99) (by unfold zR; omega) (⟨by decide, by decide⟩ : zR 99)).mp q)), trivial⟩⟩ rfl ?_
    refine zW.step (st1 := (21, [(some (.int (Int32.ofInt kind))), (some (.int (Int32.ofInt what)))], [.int (Int32.ofInt 0)], zk c m)) (st2 := (21, [(some (.int (Int32.ofInt kind))), (some (.int (Int32.ofInt what)))], [.int (Int32.ofInt 0)], zk c m)) ⟨[zo], _, rfl, ⟨trivial, trivial⟩⟩ rfl ?_
    exact zW.fin (zfin_i rfl rfl rfl) ⟨0, rfl, rfl, (by omega), (by omega), (by omega), (by omega), (by omega)⟩

set_option maxRecDepth 100000 in
set_option maxHeartbeats 4000000 in
theorem S_X12_usual_F (zn : Bool) (d : Nat) {c : Nat × Nat} {mC : zM} {t9 : Int} {e9 : Nat} (hN : 107 ≤ c.1) (hC : c.1 < z_RO) (kind : Int) (what : Int) (m : zM) (hIm : zJ mC t9 e9 m) (r_kind : -2147483648 ≤ kind ∧ kind ≤ 2147483647) (r_what : -2147483648 ≤ what ∧ what ≤ 2147483647) : zPi zn (d + 1) 292 [.int (Int32.ofInt kind), .int (Int32.ofInt what)] c m (fun (r : Int) => (0 ≤ r ∧ r ≤ 40) ∧ (kind = 99 → (what = 4 → r = 8) ∧ (what = 5 → r = 0) ∧ (what = 6 → r = 6)) ∧ (kind = 99 → (what = 0 → r = 0) ∧ (what = 1 → r = 1) ∧ (what = 2 → r = 10) ∧ (what = 3 → r = 40) ∧ (what = 4 → r = 8) ∧ (what = 5 → r = 0) ∧ (what = 6 → r = 6)) ∧ (kind = 112 → (what = 0 → r = 2) ∧ (what = 1 → r = 0)) ∧ (kind = 114 → r = 5)) := by
  refine zPi.of zu_X12_usual hC (Nat.le_of_ble_eq_true rfl) ?_
  show zW zn (d + 0) 292 c (0, [(some (.int (Int32.ofInt kind))), (some (.int (Int32.ofInt what)))], [], zk c m) (fun v h1 => ∃ (r : Int), v = some (.int (Int32.ofInt r)) ∧ h1 = zk c m ∧ (0 ≤ r ∧ r ≤ 40) ∧ (kind = 99 → (what = 4 → r = 8) ∧ (what = 5 → r = 0) ∧ (what = 6 → r = 6)) ∧ (kind = 99 → (what = 0 → r = 0) ∧ (what = 1 → r = 1) ∧ (what = 2 → r = 10) ∧ (what = 3 → r = 40) ∧ (what = 4 → r = 8) ∧ (what = 5 → r = 0) ∧ (what = 6 → r = 6)) ∧ (kind = 112 → (what = 0 → r = 2) ∧ (what = 1 → r = 0)) ∧ (kind = 114 → r = 5))
  by_cases b1 : kind = 114
  · refine zW.step (st1 := (6, [(some (.int (Int32.ofInt kind))), (some (.int (Int32.ofInt what)))], [], zk c m)) (st2 := (6, [(some (.int (Int32.ofInt kind))), (some (.int (Int32.ofInt what)))], [], zk c m)) ⟨[zo, zo, zo], _, rfl, ⟨trivial, trivial, zbf (fun q => q ((zi_eq rfl (by decide : (Int8.ofInt 114).toInt32 = Int32.ofInt 114) (by unfold zR; omega) (⟨by decide, by decide⟩ : zR 114)).mpr b1)), trivial⟩⟩ rfl ?_
    refine zW.step (st1 := (7, [(some (.int (Int32.ofInt kind))), (some (.int (Int32.ofInt what)))], [.int (Int32.ofInt 5)], zk c m)) (st2 := (7, [(some (.int (Int32.ofInt kind))), (some (.int (Int32.ofInt what)))], [.int (Int32.ofInt 5)], zk c m)) ⟨[zo], _, rfl, ⟨trivial, trivial⟩⟩ rfl ?_
    exact zW.fin (zfin_i rfl rfl rfl) ⟨5, rfl, rfl, (by omega), (by omega), (by omega), (by omega), (by omega)⟩
  · refine zW.step (st1 := (8, [(some (.int (Int32.ofInt kind))), (some (.int (Int32.ofInt what)))], [], zk c m)) (st2 := (8, [(some (.int (Int32.ofInt kind))), (some (.int (Int32.ofInt what)))], [], zk c m)) ⟨[zo, zo, zt], _, rfl, ⟨trivial, trivial, zbt (fun q => b1 ((zi_eq rfl (by decide : (Int8.ofInt 114).toInt32 = Int32.ofInt 114) (by unfold zR; omega) (⟨by decide, by decide⟩ : zR 114)).mp q)), trivial⟩⟩ rfl ?_
    by_cases b2 : kind = 112
    · refine zW.step (st1 := (14, [(some (.int (Int32.ofInt kind))), (some (.int (Int32.ofInt what)))], [], zk c m)) (st2 := (14, [(some (.int (Int32.ofInt kind))), (some (.int (Int32.ofInt what)))], [], zk c m)) ⟨[zo, zo, zo], _, rfl, ⟨trivial, trivial, zbf (fun q => q ((zi_eq rfl (by decide : (Int8.ofInt 112).toInt32 = Int32.ofInt 112) (by unfold zR; omega) (⟨by decide, by decide⟩ : zR 112)).mpr b2)), trivial⟩⟩ rfl ?_
      by_cases b3 : what = 0
      · refine zW.step (st1 := (18, [(some (.int (Int32.ofInt kind))), (some (.int (Int32.ofInt what)))], [], zk c m)) (st2 := (18, [(some (.int (Int32.ofInt kind))), (some (.int (Int32.ofInt what)))], [], zk c m)) ⟨[zo, zo], _, rfl, ⟨trivial, zbf (fun q => q ((zi_eq rfl (rfl : (0 : Int32) = Int32.ofInt 0) (by unfold zR; omega) (⟨by decide, by decide⟩ : zR 0)).mpr b3)), trivial⟩⟩ rfl ?_
        refine zW.step (st1 := (23, [(some (.int (Int32.ofInt kind))), (some (.int (Int32.ofInt what)))], [.int (Int32.ofInt 2)], zk c m)) (st2 := (23, [(some (.int (Int32.ofInt kind))), (some (.int (Int32.ofInt what)))], [.int (Int32.ofInt 2)], zk c m)) ⟨[zo, zo], _, rfl, ⟨trivial, trivial, trivial⟩⟩ rfl ?_
        exact zW.fin (zfin_i rfl rfl rfl) ⟨2, rfl, rfl, (by omega), (by omega), (by omega), (by omega), (by omega)⟩
      · refine zW.step (st1 := (22, [(some (.int (Int32.ofInt kind))), (some (.int (Int32.ofInt what)))], [], zk c m)) (st2 := (22, [(some (.int (Int32.ofInt kind))), (some (.int (Int32.ofInt what)))], [], zk c m)) ⟨[zo, zt], _, rfl, ⟨trivial, zbt (fun q => b3 ((zi_eq rfl (rfl : (0 : Int32) = Int32.ofInt 0) (by unfold zR; omega) (⟨by decide, by decide⟩ : zR 0)).mp q)), trivial⟩⟩ rfl ?_
        refine zW.step (st1 := (23, [(some (.int (Int32.ofInt kind))), (some (.int (Int32.ofInt what)))], [.int (Int32.ofInt 0)], zk c m)) (st2 := (23, [(some (.int (Int32.ofInt kind))), (some (.int (Int32.ofInt what)))], [.int (Int32.ofInt 0)], zk c m)) ⟨[zo], _, rfl, ⟨trivial, trivial⟩⟩ rfl ?_
        exact zW.fin (zfin_i rfl rfl rfl) ⟨0, rfl, rfl, (by omega), (by omega), (by omega), (by omega), (by omega)⟩
    · refine zW.step (st1 := (24, [(some (.int (Int32.ofInt kind))), (some (.int (Int32.ofInt what)))], [], zk c m)) (st2 := (24, [(some (.int (Int32.ofInt kind))), (some (.int (Int32.ofInt what)))], [], zk c m)) ⟨[zo, zo, zt], _, rfl, ⟨trivial, trivial, zbt (fun q => b2 ((zi_eq rfl (by decide : (Int8.ofInt 112).toInt32 = Int32.ofInt 112) (by unfold zR; omega) (⟨by decide, by decide⟩ : zR 112)).mp q)), trivial⟩⟩ rfl ?_
      by_cases b4 : what = 1
      · refine zW.step (st1 := (64, [(some (.int (Int32.ofInt kind))), (some (.int (Int32.ofInt what)))], [], zk c m)) (st2 := (64, [(some (.int (Int32.ofInt kind))), (some (.int (Int32.ofInt what)))], [], zk c m)) ⟨[zo, (true, 0, none, zh0, none)], _, rfl, ⟨trivial, zts (j := 0) rfl (by unfold zR; omega) (by omega), trivial⟩⟩ rfl ?_
        refine zW.step (st1 := (65, [(some (.int (Int32.ofInt kind))), (some (.int (Int32.ofInt what)))], [.int (Int32.ofInt 1)], zk c m)) (st2 := (65, [(some (.int (Int32.ofInt kind))), (some (.int (Int32.ofInt what)))], [.int (Int32.ofInt 1)], zk c m)) ⟨[zo], _, rfl, ⟨trivial, trivial⟩⟩ rfl ?_
        exact zW.fin (zfin_i rfl rfl rfl) ⟨1, rfl, rfl, (by omega), (by omega), (by omega), (by omega), (by omega)⟩
      by_cases b5 : what = 2
      · refine zW.step (st1 := (66, [(some (.int (Int32.ofInt kind))), (some (.int (Int32.ofInt what)))], [], zk c m)) (st2 := (66, [(some (.int (Int32.ofInt kind))), (some (.int (Int32.ofInt what)))], [], zk c m)) ⟨[zo, (true, 1, none, zh0, none)], _, rfl, ⟨trivial, zts (j := 1) rfl (by unfold zR; omega) (by omega), trivial⟩⟩ rfl ?_
        refine zW.step (st1 := (68, [(some (.int (Int32.ofInt kind))), (some (.int (Int32.ofInt what)))], [.int ((Int8.ofInt 10).toInt32)], zk c m)) (st2 := (68, [(some (.int (Int32.ofInt kind))), (some (.int (Int32.ofInt what)))], [.int (Int32.ofInt 10)], zk c m)) ⟨[zo], _, rfl, ⟨trivial, trivial⟩⟩ (z_steq rfl (z_c1 (z_vi (by decide : (Int8.ofInt 10).toInt32 = Int32.ofInt 10)) rfl) rfl) ?_
        exact zW.fin (zfin_i rfl rfl rfl) ⟨10, rfl, rfl, (by omega), (by omega), (by omega), (by omega), (by omega)⟩
      by_cases b6 : what = 3
      · refine zW.step (st1 := (69, [(some (.int (Int32.ofInt kind))), (some (.int (Int32.ofInt what)))], [], zk c m)) (st2 := (69, [(some (.int (Int32.ofInt kind))), (some (.int (Int32.ofInt what)))], [], zk c m)) ⟨[zo, (true, 2, none, zh0, none)], _, rfl, ⟨trivial, zts (j := 2) rfl (by unfold zR; omega) (by omega), trivial⟩⟩ rfl ?_
        refine zW.step (st1 := (71, [(some (.int (Int32.ofInt kind))), (some (.int (Int32.ofInt what)))], [.int ((Int8.ofInt 40).toInt32)], zk c m)) (st2 := (71, [(some (.int (Int32.ofInt kind))), (some (.int (Int32.ofInt what)))], [.int (Int32.ofInt 40)], zk c m)) ⟨[zo], _, rfl, ⟨trivial, trivial⟩⟩ (z_steq rfl (z_c1 (z_vi (by decide : (Int8.ofInt 40).toInt32 = Int32.ofInt 40)) rfl) rfl) ?_
        exact zW.fin (zfin_i rfl rfl rfl) ⟨40, rfl, rfl, (by omega), (by omega), (by omega), (by omega), (by omega)⟩
      by_cases b7 : what = 4
      · refine zW.step (st1 := (72, [(some (.int (Int32.ofInt kind))), (some (.int (Int32.ofInt what)))], [], zk c m)) (st2 := (72, [(some (.int (Int32.ofInt kind))), (some (.int (Int32.ofInt what)))], [], zk c m)) ⟨[zo, (true, 3, none, zh0, none)], _, rfl, ⟨trivial, zts (j := 3) rfl (by unfold zR; omega) (by omega), trivial⟩⟩ rfl ?_
        refine zW.step (st1 := (74, [(some (.int (Int32.ofInt kind))), (some (.int (Int32.ofInt what)))], [.int ((Int8.ofInt 8).toInt32)], zk c m)) (st2 := (74, [(some (.int (Int32.ofInt kind))), (some (.int (Int32.ofInt what)))], [.int (Int32.ofInt 8)], zk c m)) ⟨[zo], _, rfl, ⟨trivial, trivial⟩⟩ (z_steq rfl (z_c1 (z_vi (by decide : (Int8.ofInt 8).toInt32 = Int32.ofInt 8)) rfl) rfl) ?_
        exact zW.fin (zfin_i rfl rfl rfl) ⟨8, rfl, rfl, (by omega), (by omega), (by omega), (by omega), (by omega)⟩
      by_cases b8 : what = 5
      · refine zW.step (st1 := (78, [(some (.int (Int32.ofInt kind))), (some (.int (Int32.ofInt what)))], [], zk c m)) (st2 := (78, [(some (.int (Int32.ofInt kind))), (some (.int (Int32.ofInt what)))], [], zk c m)) ⟨[zo, (true, 4, none, zh0, none)], _, rfl, ⟨trivial, zts (j := 4) rfl (by unfold zR; omega) (by omega), trivial⟩⟩ rfl ?_
        refine zW.step (st1 := (79, [(some (.int (Int32.ofInt kind))), (some (.int (Int32.ofInt what)))], [.int (Int32.ofInt 0)], zk c m)) (st2 := (79, [(some (.int (Int32.ofInt kind))), (some (.int (Int32.ofInt what)))], [.int (Int32.ofInt 0)], zk c m)) ⟨[zo], _, rfl, ⟨trivial, trivial⟩⟩ rfl ?_
        exact zW.fin (zfin_i rfl rfl rfl) ⟨0, rfl, rfl, (by omega), (by omega), (by omega), (by omega), (by omega)⟩
      by_cases b9 : what = 6
      · refine zW.step (st1 := (75, [(some (.int (Int32.ofInt kind))), (some (.int (Int32.ofInt what)))], [], zk c m)) (st2 := (75, [(some (.int (Int32.ofInt kind))), (some (.int (Int32.ofInt what)))], [], zk c m)) ⟨[zo, (true, 5, none, zh0, none)], _, rfl, ⟨trivial, zts (j := 5) rfl (by unfold zR; omega) (by omega), trivial⟩⟩ rfl ?_
        refine zW.step (st1 := (77, [(some (.int (Int32.ofInt kind))), (some (.int (Int32.ofInt what)))], [.int ((Int8.ofInt 6).toInt32)], zk c m)) (st2 := (77, [(some (.int (Int32.ofInt kind))), (some (.int (Int32.ofInt what)))], [.int (Int32.ofInt 6)], zk c m)) ⟨[zo], _, rfl, ⟨trivial, trivial⟩⟩ (z_steq rfl (z_c1 (z_vi (by decide : (Int8.ofInt 6).toInt32 = Int32.ofInt 6)) rfl) rfl) ?_
        exact zW.fin (zfin_i rfl rfl rfl) ⟨6, rfl, rfl, (by omega), (by omega), (by omega), (by omega), (by omega)⟩
      refine zW.step (st1 := (78, [(some (.int (Int32.ofInt kind))), (some (.int (Int32.ofInt what)))], [], zk c m)) (st2 := (78, [(some (.int (Int32.ofInt kind))), (some (.int (Int32.ofInt what)))], [], zk c m)) ⟨[zo, zo], _, rfl, ⟨trivial, ztdf rfl (by unfold zR; omega) (by omega), trivial⟩⟩ rfl ?_
      refine zW.step (st1 := (79, [(some (.int (Int32.ofInt kind))), (some (.int (Int32.ofInt what)))], [.int (Int32.ofInt 0)], zk c m)) (st2 := (79, [(some (.int (Int32.ofInt kind))), (some (.int (Int32.ofInt what)))], [.int (Int32.ofInt 0)], zk c m)) ⟨[zo], _, rfl, ⟨trivial, trivial⟩⟩ rfl ?_
      exact zW.fin (zfin_i rfl rfl rfl) ⟨0, rfl, rfl, (by omega), (by omega), (by omega), (by omega), (by omega)⟩

