/-! texts, by program (wip/tools/gw5): X12_isAmong_5F, X12_isSign_F, X12_look_F, X12_fails_F, X12_isDigit_F, X12_takes_F -/
set_option maxRecDepth 100000 in
set_option maxHeartbeats 4000000 in
theorem L_X12_isAmong_5F_2 (zn : Bool) (d : Nat) {c : Nat × Nat} {mC : zM} {t9 : Int} {e9 : Nat} (hN : 107 ≤ c.1) (hC : c.1 < z_RO) (b : Int) (r_b : -2147483648 ≤ b ∧ b ≤ 2147483647) (m : zM) (hIm : zJ mC t9 e9 m) (Q : Option Value → z_H → Prop) (KR : ∀ v h1, (fun v h1 => ∃ (r : Int), v = some (.int (Int32.ofInt r)) ∧ h1 = zk c m ∧ (0 ≤ r ∧ r ≤ 1) ∧ (r = 1 → 0 ≤ b ∧ b ≤ 122) ∧ (r = 1 ↔ zix zLs5 0 b ≠ -1)) v h1 → Q v h1) (K : ∀ (x2 : Int), 0 ≤ x2 ∧ x2 ≤ 1 → zix zLs5 0 b = zix (zLs5.drop x2.toNat) x2 b → zix zLs5 0 b = -1 → zW zn (d + 4) 231 c (27, [(some (.ref (z_RO + 5))), (some (.int (Int32.ofInt b))), (some (.int (Int32.ofInt x2)))], [], zk c m) Q) :
    ∀ (w : Nat) (x2 : Int), 0 ≤ x2 ∧ x2 ≤ 1 → zix zLs5 0 b = zix (zLs5.drop x2.toNat) x2 b → w = (1 - x2).toNat → zW zn (d + 4) 231 c (2, [(some (.ref (z_RO + 5))), (some (.int (Int32.ofInt b))), (some (.int (Int32.ofInt x2)))], [], zk c m) Q := by
  intro w
  induction w using Nat.strongRecOn with | _ w ih => ?_
  intro x2 i1 J hw
  refine zW.step (st1 := (4, [(some (.ref (z_RO + 5))), (some (.int (Int32.ofInt b))), (some (.int (Int32.ofInt x2)))], [.ref (z_RO + 5), .int (Int32.ofInt x2)], zk c m)) (st2 := (4, [(some (.ref (z_RO + 5))), (some (.int (Int32.ofInt b))), (some (.int (Int32.ofInt x2)))], [.ref (z_RO + 5), .int (Int32.ofInt x2)], zk c m)) ⟨[zo, zo], _, rfl, ⟨trivial, trivial, trivial⟩⟩ rfl ?_
  obtain ⟨r1, hs1, q_1⟩ := S_K0_length_5 zn (d + 2) hN hC m hIm
  subst q_1
  refine zW.step (st1 := (7, [(some (.ref (z_RO + 5))), (some (.int (Int32.ofInt b))), (some (.int (Int32.ofInt x2)))], [.int (Int32.ofInt 1), .int (Int32.ofInt x2)], zk c m)) ⟨[zc (some (.int (Int32.ofInt 1))) (zk c m)], _, rfl, ⟨⟨(Nat.le_of_ble_eq_true rfl), hs1, (Nat.le_of_ble_eq_true rfl), Nat.le_refl _, Nat.le_refl _, Nat.le_refl _, Nat.le_refl _⟩, trivial⟩⟩ rfl ?_
  by_cases b2 : 1 ≤ x2
  · refine zW.step (st1 := (27, [(some (.ref (z_RO + 5))), (some (.int (Int32.ofInt b))), (some (.int (Int32.ofInt x2)))], [], zk c m)) (st2 := (27, [(some (.ref (z_RO + 5))), (some (.int (Int32.ofInt b))), (some (.int (Int32.ofInt x2)))], [], zk c m)) ⟨[zt], _, rfl, ⟨zbt ((zi_le (by decide : Int32.ofInt 1 = Int32.ofInt 1) rfl (⟨by decide, by decide⟩ : zR 1) (by unfold zR; omega)).mpr b2), trivial⟩⟩ rfl ?_
    exact K x2 (by omega) (by omega) (by have e9 : x2 = 1 := (by omega); rw [J, e9]; exact zix_5_e _)
  · refine zW.step (st1 := (10, [(some (.ref (z_RO + 5))), (some (.int (Int32.ofInt b))), (some (.int (Int32.ofInt x2)))], [], zk c m)) (st2 := (10, [(some (.ref (z_RO + 5))), (some (.int (Int32.ofInt b))), (some (.int (Int32.ofInt x2)))], [], zk c m)) ⟨[zo], _, rfl, ⟨zbf (fun q => b2 ((zi_le (by decide : Int32.ofInt 1 = Int32.ofInt 1) rfl (⟨by decide, by decide⟩ : zR 1) (by unfold zR; omega)).mp q)), trivial⟩⟩ rfl ?_
    have q3 := zix_5 x2 b (by omega)
    refine zW.step (st1 := (12, [(some (.ref (z_RO + 5))), (some (.int (Int32.ofInt b))), (some (.int (Int32.ofInt x2)))], [.int (Int32.ofInt x2), .ref (z_RO + 5)], zk c m)) (st2 := (12, [(some (.ref (z_RO + 5))), (some (.int (Int32.ofInt b))), (some (.int (Int32.ofInt x2)))], [.int (Int32.ofInt x2), .ref (z_RO + 5)], zk c m)) ⟨[zo, zo], _, rfl, ⟨trivial, trivial, trivial⟩⟩ rfl ?_
    obtain ⟨r4, hs4, q_4, f_4⟩ := S_K0_charAt_5F zn (d + 0) hN hC x2 m hIm (by omega) (by omega)
    refine zW.step (st1 := (15, [(some (.ref (z_RO + 5))), (some (.int (Int32.ofInt b))), (some (.int (Int32.ofInt x2)))], [.int (Int32.ofInt r4)], zk c m)) ⟨[zc (some (.int (Int32.ofInt r4))) (zk c m)], _, rfl, ⟨⟨(Nat.le_of_ble_eq_true rfl), hs4, (Nat.le_of_ble_eq_true rfl), Nat.le_refl _, Nat.le_refl _, Nat.le_refl _, Nat.le_refl _⟩, trivial⟩⟩ rfl ?_
    by_cases b5 : r4 = b
    · refine zW.step (st1 := (19, [(some (.ref (z_RO + 5))), (some (.int (Int32.ofInt b))), (some (.int (Int32.ofInt x2)))], [], zk c m)) (st2 := (19, [(some (.ref (z_RO + 5))), (some (.int (Int32.ofInt b))), (some (.int (Int32.ofInt x2)))], [], zk c m)) ⟨[zo, zo], _, rfl, ⟨trivial, zbf (fun q => q ((zi_eq rfl rfl (by unfold zR; omega) (by unfold zR; omega)).mpr b5)), trivial⟩⟩ rfl ?_
      refine zW.step (st1 := (20, [(some (.ref (z_RO + 5))), (some (.int (Int32.ofInt b))), (some (.int (Int32.ofInt x2)))], [.int (Int32.ofInt 1)], zk c m)) (st2 := (20, [(some (.ref (z_RO + 5))), (some (.int (Int32.ofInt b))), (some (.int (Int32.ofInt x2)))], [.int (Int32.ofInt 1)], zk c m)) ⟨[zo], _, rfl, ⟨trivial, trivial⟩⟩ rfl ?_
      exact zW.fin (zfin_i rfl rfl rfl) (KR _ _ ⟨1, rfl, rfl, (by omega), (by omega), (by omega)⟩)
    · refine zW.step (st1 := (21, [(some (.ref (z_RO + 5))), (some (.int (Int32.ofInt b))), (some (.int (Int32.ofInt x2)))], [], zk c m)) (st2 := (21, [(some (.ref (z_RO + 5))), (some (.int (Int32.ofInt b))), (some (.int (Int32.ofInt x2)))], [], zk c m)) ⟨[zo, zt], _, rfl, ⟨trivial, zbt (fun q => b5 ((zi_eq rfl rfl (by unfold zR; omega) (by unfold zR; omega)).mp q)), trivial⟩⟩ rfl ?_
      refine zW.step (st1 := (2, [(some (.ref (z_RO + 5))), (some (.int (Int32.ofInt b))), (some (.int ((Int32.ofInt x2) + Int32.ofInt 1)))], [], zk c m)) (st2 := (2, [(some (.ref (z_RO + 5))), (some (.int (Int32.ofInt b))), (some (.int (Int32.ofInt (x2 + 1))))], [], zk c m)) ⟨[zo, zo], _, rfl, ⟨trivial, trivial, trivial⟩⟩ (z_steq (z_c1 rfl (z_c1 rfl (z_c1 (z_si (zi_add rfl rfl)) rfl))) rfl rfl) ?_
      exact ih _ (by omega) (x2 + 1) (by omega) (by omega) rfl

set_option maxRecDepth 100000 in
set_option maxHeartbeats 4000000 in
theorem S_X12_isAmong_5F (zn : Bool) (d : Nat) {c : Nat × Nat} {mC : zM} {t9 : Int} {e9 : Nat} (hN : 107 ≤ c.1) (hC : c.1 < z_RO) (b : Int) (m : zM) (hIm : zJ mC t9 e9 m) (r_b : -2147483648 ≤ b ∧ b ≤ 2147483647) : zPi zn (d + 5) 231 [.ref (z_RO + 5), .int (Int32.ofInt b)] c m (fun (r : Int) => (0 ≤ r ∧ r ≤ 1) ∧ (r = 1 → 0 ≤ b ∧ b ≤ 122) ∧ (r = 1 ↔ zix zLs5 0 b ≠ -1)) := by
  refine zPi.of zu_X12_isAmong hC (Nat.le_of_ble_eq_true rfl) ?_
  show zW zn (d + 4) 231 c (0, [(some (.ref (z_RO + 5))), (some (.int (Int32.ofInt b))), none], [], zk c m) (fun v h1 => ∃ (r : Int), v = some (.int (Int32.ofInt r)) ∧ h1 = zk c m ∧ (0 ≤ r ∧ r ≤ 1) ∧ (r = 1 → 0 ≤ b ∧ b ≤ 122) ∧ (r = 1 ↔ zix zLs5 0 b ≠ -1))
  refine zW.step (st1 := (2, [(some (.ref (z_RO + 5))), (some (.int (Int32.ofInt b))), (some (.int (Int32.ofInt 0)))], [], zk c m)) (st2 := (2, [(some (.ref (z_RO + 5))), (some (.int (Int32.ofInt b))), (some (.int (Int32.ofInt 0)))], [], zk c m)) ⟨[zo, zo], _, rfl, ⟨trivial, trivial, trivial⟩⟩ rfl ?_
  refine L_X12_isAmong_5F_2 zn _ hN hC b r_b m hIm _ (fun v9 h9 hq9 => hq9) (fun x2_6 i1_6 J_6 e_6 => ?_) _ 0 (by omega) (by rfl) rfl
  refine zW.step (st1 := (28, [(some (.ref (z_RO + 5))), (some (.int (Int32.ofInt b))), (some (.int (Int32.ofInt x2_6)))], [.int (Int32.ofInt 0)], zk c m)) (st2 := (28, [(some (.ref (z_RO + 5))), (some (.int (Int32.ofInt b))), (some (.int (Int32.ofInt x2_6)))], [.int (Int32.ofInt 0)], zk c m)) ⟨[zo], _, rfl, ⟨trivial, trivial⟩⟩ rfl ?_
  exact zW.fin (zfin_i rfl rfl rfl) ⟨0, rfl, rfl, (by omega), (by omega), (by omega)⟩

set_option maxRecDepth 100000 in
set_option maxHeartbeats 4000000 in
theorem S_X12_isSign_F (zn : Bool) (d : Nat) {c : Nat × Nat} {mC : zM} {t9 : Int} {e9 : Nat} (hN : 107 ≤ c.1) (hC : c.1 < z_RO) (a : Int) (m : zM) (hIm : zJ mC t9 e9 m) (r_a : -2147483648 ≤ a ∧ a ≤ 2147483647) : zPi zn (d + 1) 242 [.int (Int32.ofInt a)] c m (fun (r : Int) => (0 ≤ r ∧ r ≤ 1) ∧ (r = 1 → 60 ≤ a ∧ a ≤ 62) ∧ (r = 1 ↔ (a = 61 ∨ a = 60 ∨ a = 62))) := by
  refine zPi.of zu_X12_isSign hC (Nat.le_of_ble_eq_true rfl) ?_
  show zW zn (d + 0) 242 c (0, [(some (.int (Int32.ofInt a)))], [], zk c m) (fun v h1 => ∃ (r : Int), v = some (.int (Int32.ofInt r)) ∧ h1 = zk c m ∧ (0 ≤ r ∧ r ≤ 1) ∧ (r = 1 → 60 ≤ a ∧ a ≤ 62) ∧ (r = 1 ↔ (a = 61 ∨ a = 60 ∨ a = 62)))
  by_cases b1 : a = 61
  · refine zW.step (st1 := (18, [(some (.int (Int32.ofInt a)))], [], zk c m)) (st2 := (18, [(some (.int (Int32.ofInt a)))], [], zk c m)) ⟨[zo, zo, zt], _, rfl, ⟨trivial, trivial, zbt ((zi_eq rfl (by decide : (Int8.ofInt 61).toInt32 = Int32.ofInt 61) (by unfold zR; omega) (⟨by decide, by decide⟩ : zR 61)).mpr b1), trivial⟩⟩ rfl ?_
    refine zW.step (st1 := (23, [(some (.int (Int32.ofInt a)))], [.int (Int32.ofInt 1)], zk c m)) (st2 := (23, [(some (.int (Int32.ofInt a)))], [.int (Int32.ofInt 1)], zk c m)) ⟨[zo, zo], _, rfl, ⟨trivial, trivial, trivial⟩⟩ rfl ?_
    exact zW.fin (zfin_i rfl rfl rfl) ⟨1, rfl, rfl, (by omega), (by omega), (by omega)⟩
  · refine zW.step (st1 := (6, [(some (.int (Int32.ofInt a)))], [], zk c m)) (st2 := (6, [(some (.int (Int32.ofInt a)))], [], zk c m)) ⟨[zo, zo, zo], _, rfl, ⟨trivial, trivial, zbf (fun q => b1 ((zi_eq rfl (by decide : (Int8.ofInt 61).toInt32 = Int32.ofInt 61) (by unfold zR; omega) (⟨by decide, by decide⟩ : zR 61)).mp q)), trivial⟩⟩ rfl ?_
    by_cases b2 : a = 60
    · refine zW.step (st1 := (18, [(some (.int (Int32.ofInt a)))], [], zk c m)) (st2 := (18, [(some (.int (Int32.ofInt a)))], [], zk c m)) ⟨[zo, zo, zt], _, rfl, ⟨trivial, trivial, zbt ((zi_eq rfl (by decide : (Int8.ofInt 60).toInt32 = Int32.ofInt 60) (by unfold zR; omega) (⟨by decide, by decide⟩ : zR 60)).mpr b2), trivial⟩⟩ rfl ?_
      refine zW.step (st1 := (23, [(some (.int (Int32.ofInt a)))], [.int (Int32.ofInt 1)], zk c m)) (st2 := (23, [(some (.int (Int32.ofInt a)))], [.int (Int32.ofInt 1)], zk c m)) ⟨[zo, zo], _, rfl, ⟨trivial, trivial, trivial⟩⟩ rfl ?_
      exact zW.fin (zfin_i rfl rfl rfl) ⟨1, rfl, rfl, (by omega), (by omega), (by omega)⟩
    · refine zW.step (st1 := (12, [(some (.int (Int32.ofInt a)))], [], zk c m)) (st2 := (12, [(some (.int (Int32.ofInt a)))], [], zk c m)) ⟨[zo, zo, zo], _, rfl, ⟨trivial, trivial, zbf (fun q => b2 ((zi_eq rfl (by decide : (Int8.ofInt 60).toInt32 = Int32.ofInt 60) (by unfold zR; omega) (⟨by decide, by decide⟩ : zR 60)).mp q)), trivial⟩⟩ rfl ?_
      by_cases b3 : a = 62
      · refine zW.step (st1 := (18, [(some (.int (Int32.ofInt a)))], [], zk c m)) (st2 := (18, [(some (.int (Int32.ofInt a)))], [], zk c m)) ⟨[zo, zo, zo], _, rfl, ⟨trivial, trivial, zbf (fun q => q ((zi_eq rfl (by decide : (Int8.ofInt 62).toInt32 = Int32.ofInt 62) (by unfold zR; omega) (⟨by decide, by decide⟩ : zR 62)).mpr b3)), trivial⟩⟩ rfl ?_
        refine zW.step (st1 := (23, [(some (.int (Int32.ofInt a)))], [.int (Int32.ofInt 1)], zk c m)) (st2 := (23, [(some (.int (Int32.ofInt a)))], [.int (Int32.ofInt 1)], zk c m)) ⟨[zo, zo], _, rfl, ⟨trivial, trivial, trivial⟩⟩ rfl ?_
        exact zW.fin (zfin_i rfl rfl rfl) ⟨1, rfl, rfl, (by omega), (by omega), (by omega)⟩
      · refine zW.step (st1 := (22, [(some (.int (Int32.ofInt a)))], [], zk c m)) (st2 := (22, [(some (.int (Int32.ofInt a)))], [], zk c m)) ⟨[zo, zo, zt], _, rfl, ⟨trivial, trivial, zbt (fun q => b3 ((zi_eq rfl (by decide : (Int8.ofInt 62).toInt32 = Int32.ofInt 62) (by unfold zR; omega) (⟨by decide, by decide⟩ : zR 62)).mp q)), trivial⟩⟩ rfl ?_
        refine zW.step (st1 := (23, [(some (.int (Int32.ofInt a)))], [.int (Int32.ofInt 0)], zk c m)) (st2 := (23, [(some (.int (Int32.ofInt a)))], [.int (Int32.ofInt 0)], zk c m)) ⟨[zo], _, rfl, ⟨trivial, trivial⟩⟩ rfl ?_
        exact zW.fin (zfin_i rfl rfl rfl) ⟨0, rfl, rfl, (by omega), (by omega), (by omega)⟩

set_option maxRecDepth 100000 in
set_option maxHeartbeats 4000000 in
theorem L_X12_look_F_0 (zn : Bool) (d : Nat) {c : Nat × Nat} {mC : zM} {t9 : Int} {e9 : Nat} (hN : 107 ≤ c.1) (hC : c.1 < z_RO) (a9 : Int) (hb9 : 0 ≤ a9 ∧ a9 ≤ mC 79 6) (m0 : zM) (Q : Option Value → z_H → Prop) (K : ∀  (m : zM), zJ mC t9 e9 m → m 79 5 = 80 ∧ m 79 8 = 0 ∧ m 79 9 = mC 79 6 → znx (zbT mC) (mC 79 6) (m 79 10) = znx (zbT mC) (mC 79 6) a9 → m 79 11 = m0 79 11 → m 79 12 = m0 79 12 → zY m0 m → znx (zbT mC) (mC 79 6) (m 79 10) = m 79 10 → zW zn (d + 0) 253 c (43, [(some (.ref 79))], [], zk c m) Q) :
    ∀ (w : Nat)  (m : zM), zJ mC t9 e9 m → m 79 5 = 80 ∧ m 79 8 = 0 ∧ m 79 9 = mC 79 6 → znx (zbT mC) (mC 79 6) (m 79 10) = znx (zbT mC) (mC 79 6) a9 → m 79 11 = m0 79 11 → m 79 12 = m0 79 12 → zY m0 m → w = (241 - m 79 10).toNat → zW zn (d + 0) 253 c (0, [(some (.ref 79))], [], zk c m) Q := by
  intro w
  induction w using Nat.strongRecOn with | _ w ih => ?_
  intro m hIm t5 J j4 j5 tY hw
  have f1 : (80 : Int) ≤ m 79 5 ∧ m 79 5 ≤ 81 := hIm.1 79 5
  have f2 : (0 : Int) ≤ m 79 8 ∧ m 79 8 ≤ 720 := hIm.1 79 8
  have f3 : (0 : Int) ≤ m 79 9 ∧ m 79 9 ≤ 240 := hIm.1 79 9
  have f4 : (0 : Int) ≤ m 79 10 ∧ m 79 10 ≤ 241 := hIm.1 79 10
  have f5 : (-2147483648 : Int) ≤ m 79 11 ∧ m 79 11 ≤ 2147483647 := hIm.1 79 11
  have f6 : (0 : Int) ≤ m 79 12 ∧ m 79 12 ≤ 6 := hIm.1 79 12
  have q7 := znx_m hIm t5
  have q8 := zn_m hIm
  have q9 := zub_f (zch m)
  by_cases b10 : (m 79 9) ≤ (m 79 10)
  · refine zW.step (st1 := (43, [(some (.ref 79))], [], zk c m)) (st2 := (43, [(some (.ref 79))], [], zk c m)) ⟨[zo, zo, zo, zo, zt], _, rfl, ⟨trivial, (Nat.lt_of_lt_of_le (Nat.le_of_ble_eq_true rfl) hN), trivial, (Nat.lt_of_lt_of_le (Nat.le_of_ble_eq_true rfl) hN), zbt ((zi_le rfl rfl (by unfold zR; omega) (by unfold zR; omega)).mpr b10), trivial⟩⟩ rfl ?_
    exact K m hIm (by omega) (by omega) (by omega) (by omega) tY (by omega)
  · refine zW.step (st1 := (11, [(some (.ref 79))], [], zk c m)) (st2 := (11, [(some (.ref 79))], [], zk c m)) ⟨[zo, zo, zo, zo, zo], _, rfl, ⟨trivial, (Nat.lt_of_lt_of_le (Nat.le_of_ble_eq_true rfl) hN), trivial, (Nat.lt_of_lt_of_le (Nat.le_of_ble_eq_true rfl) hN), zbf (fun q => b10 ((zi_le rfl rfl (by unfold zR; omega) (by unfold zR; omega)).mp q)), trivial⟩⟩ rfl ?_
    obtain ⟨X11, nX11, hX11, kX11, hAX11⟩ := zx_tx hIm.1
    have f12 := zJ_tb hIm
    have zX11 := zch_eq hX11
    refine zW.step (st1 := (15, [(some (.ref 79))], [(zm_rf (m 79 5))], zk c m)) (st2 := (15, [(some (.ref 79))], [.ref X11], zk c m)) ⟨[zo, zo], _, rfl, ⟨trivial, (Nat.lt_of_lt_of_le (Nat.le_of_ble_eq_true rfl) hN), trivial⟩⟩ (z_steq rfl (z_c1 (zm_rf_1 hX11 (by omega)) rfl) rfl) ?_
    have f13 : (-128 : Int) ≤ m X11 (((m 79 8) + (m 79 10)).toNat) ∧ m X11 (((m 79 8) + (m 79 10)).toNat) ≤ 127 := zx_b hIm.1 (X := X11) (by omega) (((m 79 8) + (m 79 10)).toNat)
    by_cases b14 : (m X11 (((m 79 8) + (m 79 10)).toNat)) = 32
    · refine zW.step (st1 := (30, [(some (.ref 79))], [], zk c m)) (st2 := (30, [(some (.ref 79))], [], zk c m)) ⟨[zo, zo, zo, zo, zo, (false, 0, none, zh0, some (.inl (2, nX11, .inl (fun j => Int32.ofInt (m X11 j))))), zo, zo], _, rfl, ⟨trivial, (Nat.lt_of_lt_of_le (Nat.le_of_ble_eq_true rfl) hN), trivial, (Nat.lt_of_lt_of_le (Nat.le_of_ble_eq_true rfl) hN), trivial, ⟨zk_ra c m hAX11 (by omega), zi_in (zi_add rfl rfl) (by omega) (by omega) (by omega)⟩, trivial, zbf (fun q => q ((zi_eq ((zk_rd (f := m X11) (zi_add rfl rfl) (by unfold zR; omega)).trans rfl : Int32.ofInt (m X11 ((Int32.ofInt (m 79 8)) + (Int32.ofInt (m 79 10))).toNatClampNeg) = Int32.ofInt (m X11 (((m 79 8) + (m 79 10)).toNat))) (by decide : (Int8.ofInt 32).toInt32 = Int32.ofInt 32) (by unfold zR; omega) (⟨by decide, by decide⟩ : zR 32)).mpr b14)), trivial⟩⟩ rfl ?_
      obtain ⟨m15, hm15⟩ : ∃ q, q = zm_up m 79 10 ((m 79 10) + 1) := ⟨_, rfl⟩
      have hIm15 := zJ_upE hIm hm15 (zOj_79 (by decide)) (show (0 : Int) ≤ ((m 79 10) + 1) ∧ ((m 79 10) + 1) ≤ 241 by omega)
      have em15 : m15 79 10 = ((m 79 10) + 1) := by rw [hm15]; exact zm_eq
      have f16 : m15 79 9 = m 79 9 := by rw [hm15]; exact zm_ne (Or.inr (by decide))
      have f17 : m15 79 8 = m 79 8 := by rw [hm15]; exact zm_ne (Or.inr (by decide))
      have f18 : m15 79 5 = m 79 5 := by rw [hm15]; exact zm_ne (Or.inr (by decide))
      have f19 : m15 79 11 = m 79 11 := by rw [hm15]; exact zm_ne (Or.inr (by decide))
      have f20 : m15 79 12 = m 79 12 := by rw [hm15]; exact zm_ne (Or.inr (by decide))
      have tk21 : zY m0 m15 := by rw [hm15]; exact zY_up tY (zYs_79 (by decide))
      refine zW.step (st1 := (40, [(some (.ref 79))], [], z_hup (zk c m) 79 (.inr (12, (.int (Int32.ofInt (m 79 0)) :: .ref 80 :: .ref 81 :: .ref 82 :: .ref 83 :: zm_rf (m 79 5) :: .int (Int32.ofInt (m 79 6)) :: .int (Int32.ofInt (m 79 7)) :: .int (Int32.ofInt (m 79 8)) :: .int (Int32.ofInt (m 79 9)) :: .int ((Int32.ofInt (m 79 10)) + (Int32.ofInt 1)) :: .int (Int32.ofInt (m 79 11)) :: .int (Int32.ofInt (m 79 12)) :: .int (Int32.ofInt (m 79 13)) :: .int (Int32.ofInt (m 79 14)) :: .ref (z_RO + 5) :: .ref (z_RO + 3) :: .int (Int32.ofInt (m 79 17)) :: .ref 84 :: .ref 85 :: .ref 86 :: .ref 87 :: .ref 88 :: .ref 89 :: .ref 90 :: .ref 91 :: .int (Int32.ofInt (m 79 26)) :: .int (Int32.ofInt (m 79 27)) :: .int (Int32.ofInt (m 79 28)) :: .int (Int32.ofInt (m 79 29)) :: .int (Int32.ofInt (m 79 30)) :: .ref 92 :: .ref 93 :: .int (Int32.ofInt (m 79 33)) :: .int (Int32.ofInt (m 79 34)) :: .ref 94 :: .ref 95 :: .int (Int32.ofInt (m 79 37)) :: .int (Int32.ofInt (m 79 38)) :: .int (Int32.ofInt (m 79 39)) :: .int (Int32.ofInt (m 79 40)) :: .int (Int32.ofInt (m 79 41)) :: .int (Int32.ofInt (m 79 42)) :: .ref 96 :: .ref 97 :: .ref 98 :: .ref 99 :: .ref 100 :: .int (Int32.ofInt (m 79 48)) :: .int (Int32.ofInt (m 79 49)) :: .long (Int64.ofInt (m 79 50)) :: .ref 101 :: .ref 102 :: .int (Int32.ofInt (m 79 53)) :: .ref 103 :: .ref 104 :: .ref 105 :: .int (Int32.ofInt (m 79 57)) :: []))))) (st2 := (40, [(some (.ref 79))], [], zk c m15)) ⟨[zo, zo, zo, zo, zo, zo], _, rfl, ⟨trivial, trivial, (Nat.lt_of_lt_of_le (Nat.le_of_ble_eq_true rfl) hN), trivial, trivial, ⟨(Nat.lt_of_lt_of_le (Nat.le_of_ble_eq_true rfl) hN), rfl, rfl⟩, trivial⟩⟩ (z_steq rfl rfl ((zk_up c m 79 10 ((m 79 10) + 1) _ ((congrArg (fun q => (.inr (12, (.int (Int32.ofInt (m 79 0)) :: .ref 80 :: .ref 81 :: .ref 82 :: .ref 83 :: zm_rf (m 79 5) :: .int (Int32.ofInt (m 79 6)) :: .int (Int32.ofInt (m 79 7)) :: .int (Int32.ofInt (m 79 8)) :: .int (Int32.ofInt (m 79 9)) :: .int q :: .int (Int32.ofInt (m 79 11)) :: .int (Int32.ofInt (m 79 12)) :: .int (Int32.ofInt (m 79 13)) :: .int (Int32.ofInt (m 79 14)) :: .ref (z_RO + 5) :: .ref (z_RO + 3) :: .int (Int32.ofInt (m 79 17)) :: .ref 84 :: .ref 85 :: .ref 86 :: .ref 87 :: .ref 88 :: .ref 89 :: .ref 90 :: .ref 91 :: .int (Int32.ofInt (m 79 26)) :: .int (Int32.ofInt (m 79 27)) :: .int (Int32.ofInt (m 79 28)) :: .int (Int32.ofInt (m 79 29)) :: .int (Int32.ofInt (m 79 30)) :: .ref 92 :: .ref 93 :: .int (Int32.ofInt (m 79 33)) :: .int (Int32.ofInt (m 79 34)) :: .ref 94 :: .ref 95 :: .int (Int32.ofInt (m 79 37)) :: .int (Int32.ofInt (m 79 38)) :: .int (Int32.ofInt (m 79 39)) :: .int (Int32.ofInt (m 79 40)) :: .int (Int32.ofInt (m 79 41)) :: .int (Int32.ofInt (m 79 42)) :: .ref 96 :: .ref 97 :: .ref 98 :: .ref 99 :: .ref 100 :: .int (Int32.ofInt (m 79 48)) :: .int (Int32.ofInt (m 79 49)) :: .long (Int64.ofInt (m 79 50)) :: .ref 101 :: .ref 102 :: .int (Int32.ofInt (m 79 53)) :: .ref 103 :: .ref 104 :: .ref 105 :: .int (Int32.ofInt (m 79 57)) :: [])) : z_E)) (zi_add rfl rfl)).trans rfl)).trans (by rw [hm15]))) ?_
      refine zW.step (st1 := (0, [(some (.ref 79))], [], zk c m15)) (st2 := (0, [(some (.ref 79))], [], zk c m15)) ⟨[zo], _, rfl, ⟨trivial, trivial⟩⟩ rfl ?_
      exact ih _ (by omega) m15 hIm15 (by omega) (by have e9 : m15 79 10 = m 79 10 + 1 := (by omega); rw [e9]; omega) (by omega) (by omega) tk21 rfl
    · refine zW.step (st1 := (43, [(some (.ref 79))], [], zk c m)) (st2 := (43, [(some (.ref 79))], [], zk c m)) ⟨[zo, zo, zo, zo, zo, (false, 0, none, zh0, some (.inl (2, nX11, .inl (fun j => Int32.ofInt (m X11 j))))), zo, zt], _, rfl, ⟨trivial, (Nat.lt_of_lt_of_le (Nat.le_of_ble_eq_true rfl) hN), trivial, (Nat.lt_of_lt_of_le (Nat.le_of_ble_eq_true rfl) hN), trivial, ⟨zk_ra c m hAX11 (by omega), zi_in (zi_add rfl rfl) (by omega) (by omega) (by omega)⟩, trivial, zbt (fun q => b14 ((zi_eq ((zk_rd (f := m X11) (zi_add rfl rfl) (by unfold zR; omega)).trans rfl : Int32.ofInt (m X11 ((Int32.ofInt (m 79 8)) + (Int32.ofInt (m 79 10))).toNatClampNeg) = Int32.ofInt (m X11 (((m 79 8) + (m 79 10)).toNat))) (by decide : (Int8.ofInt 32).toInt32 = Int32.ofInt 32) (by unfold zR; omega) (⟨by decide, by decide⟩ : zR 32)).mp q)), trivial⟩⟩ rfl ?_
      exact K m hIm (by omega) (by omega) (by omega) (by omega) tY (by omega)

set_option maxRecDepth 100000 in
set_option maxHeartbeats 4000000 in
theorem S_X12_look_F (zn : Bool) (d : Nat) {c : Nat × Nat} {mC : zM} {t9 : Int} {e9 : Nat} (hN : 107 ≤ c.1) (hC : c.1 < z_RO) (a9 : Int) (m : zM) (hIm : zJ mC t9 e9 m) (ha9 : m 79 10 = a9) (hb9 : 0 ≤ a9 ∧ a9 ≤ mC 79 6) (ht5 : m 79 5 = 80 ∧ m 79 8 = 0 ∧ m 79 9 = mC 79 6) : zCi zn (d + 1) 253 [.ref 79] c m (fun (r : Int) (m1 : zM) => zJ mC t9 e9 m1 ∧ (-1 ≤ r ∧ r ≤ 255) ∧ (r = zpk (zbT mC) (mC 79 6) (znx (zbT mC) (mC 79 6) a9)) ∧ (m1 79 10 = znx (zbT mC) (mC 79 6) a9) ∧ (a9 ≤ m1 79 10 ∧ m1 79 10 ≤ mC 79 6) ∧ (r = -1 ∨ m1 79 10 < mC 79 6) ∧ (m1 79 5 = 80 ∧ m1 79 8 = 0 ∧ m1 79 9 = mC 79 6) ∧ (m1 79 11 = m 79 11) ∧ (m1 79 12 = m 79 12) ∧ zY m m1) := by
  refine zCi.of zu_X12_look hC (Nat.le_of_ble_eq_true rfl) ?_
  show zW zn (d + 0) 253 c (0, [(some (.ref 79))], [], zk c m) (fun v h1 => ∃ (r : Int) (m1 : zM), v = some (.int (Int32.ofInt r)) ∧ h1 = zk c m1 ∧ zJ mC t9 e9 m1 ∧ (-1 ≤ r ∧ r ≤ 255) ∧ (r = zpk (zbT mC) (mC 79 6) (znx (zbT mC) (mC 79 6) a9)) ∧ (m1 79 10 = znx (zbT mC) (mC 79 6) a9) ∧ (a9 ≤ m1 79 10 ∧ m1 79 10 ≤ mC 79 6) ∧ (r = -1 ∨ m1 79 10 < mC 79 6) ∧ (m1 79 5 = 80 ∧ m1 79 8 = 0 ∧ m1 79 9 = mC 79 6) ∧ (m1 79 11 = m 79 11) ∧ (m1 79 12 = m 79 12) ∧ zY m m1)
  have f22 : (80 : Int) ≤ m 79 5 ∧ m 79 5 ≤ 81 := hIm.1 79 5
  have f23 : (0 : Int) ≤ m 79 8 ∧ m 79 8 ≤ 720 := hIm.1 79 8
  have f24 : (0 : Int) ≤ m 79 9 ∧ m 79 9 ≤ 240 := hIm.1 79 9
  have f25 : (0 : Int) ≤ m 79 10 ∧ m 79 10 ≤ 241 := hIm.1 79 10
  have f26 : (-2147483648 : Int) ≤ m 79 11 ∧ m 79 11 ≤ 2147483647 := hIm.1 79 11
  have f27 : (0 : Int) ≤ m 79 12 ∧ m 79 12 ≤ 6 := hIm.1 79 12
  have q28 := zn_m hIm
  have q29 := znx_le (b := zbT mC) (n := mC 79 6) hb9.2
  have q30 := zpk_or (zbT mC) (mC 79 6) (znx (zbT mC) (mC 79 6) a9)
  refine L_X12_look_F_0 zn _ hN hC a9 hb9 m _ (fun m_31 hIm_31 t5_31 J_31 j4_31 j5_31 tY_31 x_31 => ?_) _ m hIm (by omega) (by rw [ha9]) (by omega) (by omega) zY_rf rfl
  have f32 : (80 : Int) ≤ m_31 79 5 ∧ m_31 79 5 ≤ 81 := hIm_31.1 79 5
  have f33 : (0 : Int) ≤ m_31 79 8 ∧ m_31 79 8 ≤ 720 := hIm_31.1 79 8
  have f34 : (0 : Int) ≤ m_31 79 9 ∧ m_31 79 9 ≤ 240 := hIm_31.1 79 9
  have f35 : (0 : Int) ≤ m_31 79 10 ∧ m_31 79 10 ≤ 241 := hIm_31.1 79 10
  have f36 : (-2147483648 : Int) ≤ m_31 79 11 ∧ m_31 79 11 ≤ 2147483647 := hIm_31.1 79 11
  have f37 : (0 : Int) ≤ m_31 79 12 ∧ m_31 79 12 ≤ 6 := hIm_31.1 79 12
  have q38 := zpk_m hIm_31 (by omega) (rfl : m_31 79 10 = m_31 79 10)
  have q39 := congrArg (zpk (zbT mC) (mC 79 6)) (show m_31 79 10 = znx (zbT mC) (mC 79 6) a9 by omega)
  have q40 := zub_f (zch m_31)
  by_cases b41 : (m_31 79 9) ≤ (m_31 79 10)
  · refine zW.step (st1 := (75, [(some (.ref 79))], [], zk c m_31)) (st2 := (75, [(some (.ref 79))], [], zk c m_31)) ⟨[zo, zo, zo, zo, zt], _, rfl, ⟨trivial, (Nat.lt_of_lt_of_le (Nat.le_of_ble_eq_true rfl) hN), trivial, (Nat.lt_of_lt_of_le (Nat.le_of_ble_eq_true rfl) hN), zbt ((zi_le rfl rfl (by unfold zR; omega) (by unfold zR; omega)).mpr b41), trivial⟩⟩ rfl ?_
    refine zW.step (st1 := (76, [(some (.ref 79))], [.int (Int32.ofInt (-1))], zk c m_31)) (st2 := (76, [(some (.ref 79))], [.int (Int32.ofInt (-1))], zk c m_31)) ⟨[zo], _, rfl, ⟨trivial, trivial⟩⟩ rfl ?_
    exact zW.fin (zfin_i rfl rfl rfl) ⟨(-1), m_31, rfl, rfl, hIm_31, (by omega), (by omega), (by omega), (by omega), (by omega), (by omega), (by omega), (by omega), tY_31⟩
  · refine zW.step (st1 := (54, [(some (.ref 79))], [], zk c m_31)) (st2 := (54, [(some (.ref 79))], [], zk c m_31)) ⟨[zo, zo, zo, zo, zo], _, rfl, ⟨trivial, (Nat.lt_of_lt_of_le (Nat.le_of_ble_eq_true rfl) hN), trivial, (Nat.lt_of_lt_of_le (Nat.le_of_ble_eq_true rfl) hN), zbf (fun q => b41 ((zi_le rfl rfl (by unfold zR; omega) (by unfold zR; omega)).mp q)), trivial⟩⟩ rfl ?_
    obtain ⟨X42, nX42, hX42, kX42, hAX42⟩ := zx_tx hIm_31.1
    have f43 := zJ_tb hIm_31
    have zX42 := zch_eq hX42
    refine zW.step (st1 := (58, [(some (.ref 79))], [(zm_rf (m_31 79 5))], zk c m_31)) (st2 := (58, [(some (.ref 79))], [.ref X42], zk c m_31)) ⟨[zo, zo], _, rfl, ⟨trivial, (Nat.lt_of_lt_of_le (Nat.le_of_ble_eq_true rfl) hN), trivial⟩⟩ (z_steq rfl (z_c1 (zm_rf_1 hX42 (by omega)) rfl) rfl) ?_
    have f44 : (-128 : Int) ≤ m_31 X42 (((m_31 79 8) + (m_31 79 10)).toNat) ∧ m_31 X42 (((m_31 79 8) + (m_31 79 10)).toNat) ≤ 127 := zx_b hIm_31.1 (X := X42) (by omega) (((m_31 79 8) + (m_31 79 10)).toNat)
    have f45 : (-2147483648 : Int) ≤ zb_and (m_31 X42 (((m_31 79 8) + (m_31 79 10)).toNat)) 255 ∧ zb_and (m_31 X42 (((m_31 79 8) + (m_31 79 10)).toNat)) 255 ≤ 2147483647 := zb_andR (m_31 X42 (((m_31 79 8) + (m_31 79 10)).toNat)) 255
    have f46 := zb_and255 (m_31 X42 (((m_31 79 8) + (m_31 79 10)).toNat))
    have f47 := zb_and_le (a := m_31 X42 (((m_31 79 8) + (m_31 79 10)).toNat)) (b := 255) (by decide) (by decide)
    have q48 := zb_255 (v := (m_31 X42 (((m_31 79 8) + (m_31 79 10)).toNat))) (w := zch m_31) (by omega) (by omega)
    refine zW.step (st1 := (76, [(some (.ref 79))], [.int ((Int32.ofInt (m_31 X42 ((Int32.ofInt (m_31 79 8)) + (Int32.ofInt (m_31 79 10))).toNatClampNeg)) &&& ((Int16.ofInt 255).toInt32))], zk c m_31)) (st2 := (76, [(some (.ref 79))], [.int (Int32.ofInt (zb_and (m_31 X42 (((m_31 79 8) + (m_31 79 10)).toNat)) 255))], zk c m_31)) ⟨[zo, zo, zo, zo, zo, (false, 0, none, zh0, some (.inl (2, nX42, .inl (fun j => Int32.ofInt (m_31 X42 j))))), zo, zo, zo], _, rfl, ⟨trivial, (Nat.lt_of_lt_of_le (Nat.le_of_ble_eq_true rfl) hN), trivial, (Nat.lt_of_lt_of_le (Nat.le_of_ble_eq_true rfl) hN), trivial, ⟨zk_ra c m_31 hAX42 (by omega), zi_in (zi_add rfl rfl) (by omega) (by omega) (by omega)⟩, trivial, trivial, trivial, trivial⟩⟩ (z_steq rfl (z_c1 (z_vi (zi_and ((zk_rd (f := m_31 X42) (zi_add rfl rfl) (by unfold zR; omega)).trans rfl : Int32.ofInt (m_31 X42 ((Int32.ofInt (m_31 79 8)) + (Int32.ofInt (m_31 79 10))).toNatClampNeg) = Int32.ofInt (m_31 X42 (((m_31 79 8) + (m_31 79 10)).toNat))) (by decide : (Int16.ofInt 255).toInt32 = Int32.ofInt 255))) rfl) rfl) ?_
    exact zW.fin (zfin_i rfl rfl rfl) ⟨zb_and (m_31 X42 (((m_31 79 8) + (m_31 79 10)).toNat)) 255, m_31, rfl, rfl, hIm_31, (by omega), (by omega), (by omega), (by omega), (by omega), (by omega), (by omega), (by omega), tY_31⟩

set_option maxRecDepth 100000 in
set_option maxHeartbeats 4000000 in
theorem S_X12_fails_F (zn : Bool) (d : Nat) {c : Nat × Nat} {mC : zM} {t9 : Int} {e9 : Nat} (hN : 107 ≤ c.1) (hC : c.1 < z_RO) (a9 : Int) (m : zM) (hIm : zJ mC t9 e9 m) (ha9 : m 79 11 = -1 → m 79 10 = a9) (ht5 : m 79 5 = 80 ∧ m 79 8 = 0 ∧ m 79 9 = mC 79 6) : zCi zn (d + 1) 210 [.ref 79] c m (fun (r : Int) (m1 : zM) => zJ mC t9 e9 m1 ∧ (r = 0) ∧ ((m 79 11 = -1 → m1 79 11 = a9) ∧ (m 79 11 ≠ -1 → m1 79 11 = m 79 11)) ∧ (m1 79 10 = m 79 10) ∧ (m1 79 5 = 80 ∧ m1 79 8 = 0 ∧ m1 79 9 = mC 79 6) ∧ (m1 79 12 = m 79 12) ∧ zY m m1) := by
  refine zCi.of zu_X12_fails hC (Nat.le_of_ble_eq_true rfl) ?_
  show zW zn (d + 0) 210 c (0, [(some (.ref 79))], [], zk c m) (fun v h1 => ∃ (r : Int) (m1 : zM), v = some (.int (Int32.ofInt r)) ∧ h1 = zk c m1 ∧ zJ mC t9 e9 m1 ∧ (r = 0) ∧ ((m 79 11 = -1 → m1 79 11 = a9) ∧ (m 79 11 ≠ -1 → m1 79 11 = m 79 11)) ∧ (m1 79 10 = m 79 10) ∧ (m1 79 5 = 80 ∧ m1 79 8 = 0 ∧ m1 79 9 = mC 79 6) ∧ (m1 79 12 = m 79 12) ∧ zY m m1)
  have f1 : (80 : Int) ≤ m 79 5 ∧ m 79 5 ≤ 81 := hIm.1 79 5
  have f2 : (0 : Int) ≤ m 79 8 ∧ m 79 8 ≤ 720 := hIm.1 79 8
  have f3 : (0 : Int) ≤ m 79 9 ∧ m 79 9 ≤ 240 := hIm.1 79 9
  have f4 : (0 : Int) ≤ m 79 10 ∧ m 79 10 ≤ 241 := hIm.1 79 10
  have f5 : (-2147483648 : Int) ≤ m 79 11 ∧ m 79 11 ≤ 2147483647 := hIm.1 79 11
  have f6 : (0 : Int) ≤ m 79 12 ∧ m 79 12 ≤ 6 := hIm.1 79 12
  by_cases b7 : (m 79 11) = (-1)
  · refine zW.step (st1 := (8, [(some (.ref 79))], [], zk c m)) (st2 := (8, [(some (.ref 79))], [], zk c m)) ⟨[zo, zo, zo, zo], _, rfl, ⟨trivial, (Nat.lt_of_lt_of_le (Nat.le_of_ble_eq_true rfl) hN), trivial, zbf (fun q => q ((zi_eq rfl rfl (by unfold zR; omega) (⟨by decide, by decide⟩ : zR (-1))).mpr b7)), trivial⟩⟩ rfl ?_
    obtain ⟨m8, hm8⟩ : ∃ q, q = zm_up m 79 11 (m 79 10) := ⟨_, rfl⟩
    have hIm8 := zJ_upE hIm hm8 (zOj_79 (by decide)) (show (-2147483648 : Int) ≤ (m 79 10) ∧ (m 79 10) ≤ 2147483647 by omega)
    have em8 : m8 79 11 = (m 79 10) := by rw [hm8]; exact zm_eq
    have f9 : m8 79 5 = m 79 5 := by rw [hm8]; exact zm_ne (Or.inr (by decide))
    have f10 : m8 79 8 = m 79 8 := by rw [hm8]; exact zm_ne (Or.inr (by decide))
    have f11 : m8 79 9 = m 79 9 := by rw [hm8]; exact zm_ne (Or.inr (by decide))
    have f12 : m8 79 10 = m 79 10 := by rw [hm8]; exact zm_ne (Or.inr (by decide))
    have f13 : m8 79 12 = m 79 12 := by rw [hm8]; exact zm_ne (Or.inr (by decide))
    have tk14 : zY m m8 := by rw [hm8]; exact zY_up zY_rf (zYs_79 (by decide))
    refine zW.step (st1 := (16, [(some (.ref 79))], [], z_hup (zk c m) 79 (.inr (12, (.int (Int32.ofInt (m 79 0)) :: .ref 80 :: .ref 81 :: .ref 82 :: .ref 83 :: zm_rf (m 79 5) :: .int (Int32.ofInt (m 79 6)) :: .int (Int32.ofInt (m 79 7)) :: .int (Int32.ofInt (m 79 8)) :: .int (Int32.ofInt (m 79 9)) :: .int (Int32.ofInt (m 79 10)) :: .int (Int32.ofInt (m 79 10)) :: .int (Int32.ofInt (m 79 12)) :: .int (Int32.ofInt (m 79 13)) :: .int (Int32.ofInt (m 79 14)) :: .ref (z_RO + 5) :: .ref (z_RO + 3) :: .int (Int32.ofInt (m 79 17)) :: .ref 84 :: .ref 85 :: .ref 86 :: .ref 87 :: .ref 88 :: .ref 89 :: .ref 90 :: .ref 91 :: .int (Int32.ofInt (m 79 26)) :: .int (Int32.ofInt (m 79 27)) :: .int (Int32.ofInt (m 79 28)) :: .int (Int32.ofInt (m 79 29)) :: .int (Int32.ofInt (m 79 30)) :: .ref 92 :: .ref 93 :: .int (Int32.ofInt (m 79 33)) :: .int (Int32.ofInt (m 79 34)) :: .ref 94 :: .ref 95 :: .int (Int32.ofInt (m 79 37)) :: .int (Int32.ofInt (m 79 38)) :: .int (Int32.ofInt (m 79 39)) :: .int (Int32.ofInt (m 79 40)) :: .int (Int32.ofInt (m 79 41)) :: .int (Int32.ofInt (m 79 42)) :: .ref 96 :: .ref 97 :: .ref 98 :: .ref 99 :: .ref 100 :: .int (Int32.ofInt (m 79 48)) :: .int (Int32.ofInt (m 79 49)) :: .long (Int64.ofInt (m 79 50)) :: .ref 101 :: .ref 102 :: .int (Int32.ofInt (m 79 53)) :: .ref 103 :: .ref 104 :: .ref 105 :: .int (Int32.ofInt (m 79 57)) :: []))))) (st2 := (16, [(some (.ref 79))], [], zk c m8)) ⟨[zo, zo, zo, zo], _, rfl, ⟨trivial, trivial, (Nat.lt_of_lt_of_le (Nat.le_of_ble_eq_true rfl) hN), ⟨(Nat.lt_of_lt_of_le (Nat.le_of_ble_eq_true rfl) hN), rfl, rfl⟩, trivial⟩⟩ (z_steq rfl rfl ((zk_up c m 79 11 (m 79 10) _ rfl).trans (by rw [hm8]))) ?_
    refine zW.step (st1 := (17, [(some (.ref 79))], [.int (Int32.ofInt 0)], zk c m8)) (st2 := (17, [(some (.ref 79))], [.int (Int32.ofInt 0)], zk c m8)) ⟨[zo], _, rfl, ⟨trivial, trivial⟩⟩ rfl ?_
    exact zW.fin (zfin_i rfl rfl rfl) ⟨0, m8, rfl, rfl, hIm8, (by omega), (by omega), (by omega), (by omega), (by omega), tk14⟩
  · refine zW.step (st1 := (16, [(some (.ref 79))], [], zk c m)) (st2 := (16, [(some (.ref 79))], [], zk c m)) ⟨[zo, zo, zo, zt], _, rfl, ⟨trivial, (Nat.lt_of_lt_of_le (Nat.le_of_ble_eq_true rfl) hN), trivial, zbt (fun q => b7 ((zi_eq rfl rfl (by unfold zR; omega) (⟨by decide, by decide⟩ : zR (-1))).mp q)), trivial⟩⟩ rfl ?_
    refine zW.step (st1 := (17, [(some (.ref 79))], [.int (Int32.ofInt 0)], zk c m)) (st2 := (17, [(some (.ref 79))], [.int (Int32.ofInt 0)], zk c m)) ⟨[zo], _, rfl, ⟨trivial, trivial⟩⟩ rfl ?_
    exact zW.fin (zfin_i rfl rfl rfl) ⟨0, m, rfl, rfl, hIm, (by omega), (by omega), (by omega), (by omega), (by omega), zY_rf⟩

set_option maxRecDepth 100000 in
set_option maxHeartbeats 4000000 in
theorem S_X12_isDigit_F (zn : Bool) (d : Nat) {c : Nat × Nat} {mC : zM} {t9 : Int} {e9 : Nat} (hN : 107 ≤ c.1) (hC : c.1 < z_RO) (a9 : Int) (m : zM) (hIm : zJ mC t9 e9 m) (ha9 : m 79 10 = a9) (ht5 : m 79 5 = 80 ∧ m 79 8 = 0 ∧ m 79 9 = mC 79 6) : zPi zn (d + 1) 234 [.ref 79] c m (fun (r : Int) => (0 ≤ r ∧ r ≤ 1) ∧ (r = 1 ↔ 48 ≤ zpk (zbT mC) (mC 79 6) a9 ∧ zpk (zbT mC) (mC 79 6) a9 ≤ 57)) := by
  refine zPi.of zu_X12_isDigit hC (Nat.le_of_ble_eq_true rfl) ?_
  show zW zn (d + 0) 234 c (0, [(some (.ref 79))], [], zk c m) (fun v h1 => ∃ (r : Int), v = some (.int (Int32.ofInt r)) ∧ h1 = zk c m ∧ (0 ≤ r ∧ r ≤ 1) ∧ (r = 1 ↔ 48 ≤ zpk (zbT mC) (mC 79 6) a9 ∧ zpk (zbT mC) (mC 79 6) a9 ≤ 57))
  have f1 : (80 : Int) ≤ m 79 5 ∧ m 79 5 ≤ 81 := hIm.1 79 5
  have f2 : (0 : Int) ≤ m 79 8 ∧ m 79 8 ≤ 720 := hIm.1 79 8
  have f3 : (0 : Int) ≤ m 79 9 ∧ m 79 9 ≤ 240 := hIm.1 79 9
  have f4 : (0 : Int) ≤ m 79 10 ∧ m 79 10 ≤ 241 := hIm.1 79 10
  have f5 : (-2147483648 : Int) ≤ m 79 11 ∧ m 79 11 ≤ 2147483647 := hIm.1 79 11
  have f6 : (0 : Int) ≤ m 79 12 ∧ m 79 12 ≤ 6 := hIm.1 79 12
  have q7 := zpk_m hIm ht5 ha9
  have q8 := zn_m hIm
  have q9 := zub_f (zch m)
  by_cases b10 : (m 79 9) ≤ (m 79 10)
  · refine zW.step (st1 := (53, [(some (.ref 79))], [], zk c m)) (st2 := (53, [(some (.ref 79))], [], zk c m)) ⟨[zo, zo, zo, zo, zt], _, rfl, ⟨trivial, (Nat.lt_of_lt_of_le (Nat.le_of_ble_eq_true rfl) hN), trivial, (Nat.lt_of_lt_of_le (Nat.le_of_ble_eq_true rfl) hN), zbt ((zi_le rfl rfl (by unfold zR; omega) (by unfold zR; omega)).mpr b10), trivial⟩⟩ rfl ?_
    refine zW.step (st1 := (54, [(some (.ref 79))], [.int (Int32.ofInt 0)], zk c m)) (st2 := (54, [(some (.ref 79))], [.int (Int32.ofInt 0)], zk c m)) ⟨[zo], _, rfl, ⟨trivial, trivial⟩⟩ rfl ?_
    exact zW.fin (zfin_i rfl rfl rfl) ⟨0, rfl, rfl, (by omega), (by omega)⟩
  · refine zW.step (st1 := (11, [(some (.ref 79))], [], zk c m)) (st2 := (11, [(some (.ref 79))], [], zk c m)) ⟨[zo, zo, zo, zo, zo], _, rfl, ⟨trivial, (Nat.lt_of_lt_of_le (Nat.le_of_ble_eq_true rfl) hN), trivial, (Nat.lt_of_lt_of_le (Nat.le_of_ble_eq_true rfl) hN), zbf (fun q => b10 ((zi_le rfl rfl (by unfold zR; omega) (by unfold zR; omega)).mp q)), trivial⟩⟩ rfl ?_
    obtain ⟨X11, nX11, hX11, kX11, hAX11⟩ := zx_tx hIm.1
    have f12 := zJ_tb hIm
    have zX11 := zch_eq hX11
    refine zW.step (st1 := (15, [(some (.ref 79))], [(zm_rf (m 79 5))], zk c m)) (st2 := (15, [(some (.ref 79))], [.ref X11], zk c m)) ⟨[zo, zo], _, rfl, ⟨trivial, (Nat.lt_of_lt_of_le (Nat.le_of_ble_eq_true rfl) hN), trivial⟩⟩ (z_steq rfl (z_c1 (zm_rf_1 hX11 (by omega)) rfl) rfl) ?_
    have f13 : (-128 : Int) ≤ m X11 (((m 79 8) + (m 79 10)).toNat) ∧ m X11 (((m 79 8) + (m 79 10)).toNat) ≤ 127 := zx_b hIm.1 (X := X11) (by omega) (((m 79 8) + (m 79 10)).toNat)
    by_cases b14 : (m X11 (((m 79 8) + (m 79 10)).toNat)) < 48
    · refine zW.step (st1 := (53, [(some (.ref 79))], [], zk c m)) (st2 := (53, [(some (.ref 79))], [], zk c m)) ⟨[zo, zo, zo, zo, zo, (false, 0, none, zh0, some (.inl (2, nX11, .inl (fun j => Int32.ofInt (m X11 j))))), zo, zt], _, rfl, ⟨trivial, (Nat.lt_of_lt_of_le (Nat.le_of_ble_eq_true rfl) hN), trivial, (Nat.lt_of_lt_of_le (Nat.le_of_ble_eq_true rfl) hN), trivial, ⟨zk_ra c m hAX11 (by omega), zi_in (zi_add rfl rfl) (by omega) (by omega) (by omega)⟩, trivial, zbt ((zi_lt ((zk_rd (f := m X11) (zi_add rfl rfl) (by unfold zR; omega)).trans rfl : Int32.ofInt (m X11 ((Int32.ofInt (m 79 8)) + (Int32.ofInt (m 79 10))).toNatClampNeg) = Int32.ofInt (m X11 (((m 79 8) + (m 79 10)).toNat))) (by decide : (Int8.ofInt 48).toInt32 = Int32.ofInt 48) (by unfold zR; omega) (⟨by decide, by decide⟩ : zR 48)).mpr b14), trivial⟩⟩ rfl ?_
      refine zW.step (st1 := (54, [(some (.ref 79))], [.int (Int32.ofInt 0)], zk c m)) (st2 := (54, [(some (.ref 79))], [.int (Int32.ofInt 0)], zk c m)) ⟨[zo], _, rfl, ⟨trivial, trivial⟩⟩ rfl ?_
      exact zW.fin (zfin_i rfl rfl rfl) ⟨0, rfl, rfl, (by omega), (by omega)⟩
    · refine zW.step (st1 := (30, [(some (.ref 79))], [], zk c m)) (st2 := (30, [(some (.ref 79))], [], zk c m)) ⟨[zo, zo, zo, zo, zo, (false, 0, none, zh0, some (.inl (2, nX11, .inl (fun j => Int32.ofInt (m X11 j))))), zo, zo], _, rfl, ⟨trivial, (Nat.lt_of_lt_of_le (Nat.le_of_ble_eq_true rfl) hN), trivial, (Nat.lt_of_lt_of_le (Nat.le_of_ble_eq_true rfl) hN), trivial, ⟨zk_ra c m hAX11 (by omega), zi_in (zi_add rfl rfl) (by omega) (by omega) (by omega)⟩, trivial, zbf (fun q => b14 ((zi_lt ((zk_rd (f := m X11) (zi_add rfl rfl) (by unfold zR; omega)).trans rfl : Int32.ofInt (m X11 ((Int32.ofInt (m 79 8)) + (Int32.ofInt (m 79 10))).toNatClampNeg) = Int32.ofInt (m X11 (((m 79 8) + (m 79 10)).toNat))) (by decide : (Int8.ofInt 48).toInt32 = Int32.ofInt 48) (by unfold zR; omega) (⟨by decide, by decide⟩ : zR 48)).mp q)), trivial⟩⟩ rfl ?_
      refine zW.step (st1 := (34, [(some (.ref 79))], [(zm_rf (m 79 5))], zk c m)) (st2 := (34, [(some (.ref 79))], [.ref X11], zk c m)) ⟨[zo, zo], _, rfl, ⟨trivial, (Nat.lt_of_lt_of_le (Nat.le_of_ble_eq_true rfl) hN), trivial⟩⟩ (z_steq rfl (z_c1 (zm_rf_1 hX11 (by omega)) rfl) rfl) ?_
      by_cases b16 : 57 < (m X11 (((m 79 8) + (m 79 10)).toNat))
      · refine zW.step (st1 := (53, [(some (.ref 79))], [], zk c m)) (st2 := (53, [(some (.ref 79))], [], zk c m)) ⟨[zo, zo, zo, zo, zo, (false, 0, none, zh0, some (.inl (2, nX11, .inl (fun j => Int32.ofInt (m X11 j))))), zo, zt], _, rfl, ⟨trivial, (Nat.lt_of_lt_of_le (Nat.le_of_ble_eq_true rfl) hN), trivial, (Nat.lt_of_lt_of_le (Nat.le_of_ble_eq_true rfl) hN), trivial, ⟨zk_ra c m hAX11 (by omega), zi_in (zi_add rfl rfl) (by omega) (by omega) (by omega)⟩, trivial, zbt ((zi_lt (by decide : (Int8.ofInt 57).toInt32 = Int32.ofInt 57) ((zk_rd (f := m X11) (zi_add rfl rfl) (by unfold zR; omega)).trans rfl : Int32.ofInt (m X11 ((Int32.ofInt (m 79 8)) + (Int32.ofInt (m 79 10))).toNatClampNeg) = Int32.ofInt (m X11 (((m 79 8) + (m 79 10)).toNat))) (⟨by decide, by decide⟩ : zR 57) (by unfold zR; omega)).mpr b16), trivial⟩⟩ rfl ?_
        refine zW.step (st1 := (54, [(some (.ref 79))], [.int (Int32.ofInt 0)], zk c m)) (st2 := (54, [(some (.ref 79))], [.int (Int32.ofInt 0)], zk c m)) ⟨[zo], _, rfl, ⟨trivial, trivial⟩⟩ rfl ?_
        exact zW.fin (zfin_i rfl rfl rfl) ⟨0, rfl, rfl, (by omega), (by omega)⟩
      · refine zW.step (st1 := (49, [(some (.ref 79))], [], zk c m)) (st2 := (49, [(some (.ref 79))], [], zk c m)) ⟨[zo, zo, zo, zo, zo, (false, 0, none, zh0, some (.inl (2, nX11, .inl (fun j => Int32.ofInt (m X11 j))))), zo, zo], _, rfl, ⟨trivial, (Nat.lt_of_lt_of_le (Nat.le_of_ble_eq_true rfl) hN), trivial, (Nat.lt_of_lt_of_le (Nat.le_of_ble_eq_true rfl) hN), trivial, ⟨zk_ra c m hAX11 (by omega), zi_in (zi_add rfl rfl) (by omega) (by omega) (by omega)⟩, trivial, zbf (fun q => b16 ((zi_lt (by decide : (Int8.ofInt 57).toInt32 = Int32.ofInt 57) ((zk_rd (f := m X11) (zi_add rfl rfl) (by unfold zR; omega)).trans rfl : Int32.ofInt (m X11 ((Int32.ofInt (m 79 8)) + (Int32.ofInt (m 79 10))).toNatClampNeg) = Int32.ofInt (m X11 (((m 79 8) + (m 79 10)).toNat))) (⟨by decide, by decide⟩ : zR 57) (by unfold zR; omega)).mp q)), trivial⟩⟩ rfl ?_
        refine zW.step (st1 := (54, [(some (.ref 79))], [.int (Int32.ofInt 1)], zk c m)) (st2 := (54, [(some (.ref 79))], [.int (Int32.ofInt 1)], zk c m)) ⟨[zo, zo], _, rfl, ⟨trivial, trivial, trivial⟩⟩ rfl ?_
        exact zW.fin (zfin_i rfl rfl rfl) ⟨1, rfl, rfl, (by omega), (by omega)⟩

set_option maxRecDepth 100000 in
set_option maxHeartbeats 4000000 in
theorem S_X12_takes_F (zn : Bool) (d : Nat) {c : Nat × Nat} {mC : zM} {t9 : Int} {e9 : Nat} (hN : 107 ≤ c.1) (hC : c.1 < z_RO) (there : Int) (a9 : Int) (m : zM) (hIm : zJ mC t9 e9 m) (r_there : -2147483648 ≤ there ∧ there ≤ 2147483647) (hth : 0 ≤ there) (ha9 : m 79 11 = -1 → m 79 10 = a9) (hb9 : 0 ≤ a9 ∧ a9 ≤ mC 79 6) (ht5 : m 79 5 = 80 ∧ m 79 8 = 0 ∧ m 79 9 = mC 79 6) (hbp : m 79 10 ≤ mC 79 6) : zCi zn (d + 2) 284 [.ref 79, .int (Int32.ofInt there)] c m (fun (r : Int) (m1 : zM) => zJ mC t9 e9 m1 ∧ (0 ≤ r ∧ r ≤ 1) ∧ ((m 79 11 = -1 ∧ (ztk (zbT mC) (mC 79 6) there a9).1 = 1 ∧ r = 1 ∧ m1 79 11 = -1 ∧ m1 79 10 = (ztk (zbT mC) (mC 79 6) there a9).2) ∨ (m 79 11 = -1 ∧ (ztk (zbT mC) (mC 79 6) there a9).1 = 0 ∧ r = 0 ∧ m1 79 11 = (ztk (zbT mC) (mC 79 6) there a9).2) ∨ (m 79 11 ≠ -1 ∧ r = 0 ∧ m1 79 11 = m 79 11)) ∧ (m 79 10 ≤ m1 79 10 ∧ m1 79 10 ≤ mC 79 6) ∧ (a9 ≤ (ztk (zbT mC) (mC 79 6) there a9).2 ∧ (ztk (zbT mC) (mC 79 6) there a9).2 ≤ mC 79 6) ∧ (m1 79 5 = 80 ∧ m1 79 8 = 0 ∧ m1 79 9 = mC 79 6) ∧ (m1 79 12 = m 79 12) ∧ zY m m1) := by
  refine zCi.of zu_X12_takes hC (Nat.le_of_ble_eq_true rfl) ?_
  show zW zn (d + 1) 284 c (0, [(some (.ref 79)), (some (.int (Int32.ofInt there)))], [], zk c m) (fun v h1 => ∃ (r : Int) (m1 : zM), v = some (.int (Int32.ofInt r)) ∧ h1 = zk c m1 ∧ zJ mC t9 e9 m1 ∧ (0 ≤ r ∧ r ≤ 1) ∧ ((m 79 11 = -1 ∧ (ztk (zbT mC) (mC 79 6) there a9).1 = 1 ∧ r = 1 ∧ m1 79 11 = -1 ∧ m1 79 10 = (ztk (zbT mC) (mC 79 6) there a9).2) ∨ (m 79 11 = -1 ∧ (ztk (zbT mC) (mC 79 6) there a9).1 = 0 ∧ r = 0 ∧ m1 79 11 = (ztk (zbT mC) (mC 79 6) there a9).2) ∨ (m 79 11 ≠ -1 ∧ r = 0 ∧ m1 79 11 = m 79 11)) ∧ (m 79 10 ≤ m1 79 10 ∧ m1 79 10 ≤ mC 79 6) ∧ (a9 ≤ (ztk (zbT mC) (mC 79 6) there a9).2 ∧ (ztk (zbT mC) (mC 79 6) there a9).2 ≤ mC 79 6) ∧ (m1 79 5 = 80 ∧ m1 79 8 = 0 ∧ m1 79 9 = mC 79 6) ∧ (m1 79 12 = m 79 12) ∧ zY m m1)
  have f1 : (80 : Int) ≤ m 79 5 ∧ m 79 5 ≤ 81 := hIm.1 79 5
  have f2 : (0 : Int) ≤ m 79 8 ∧ m 79 8 ≤ 720 := hIm.1 79 8
  have f3 : (0 : Int) ≤ m 79 9 ∧ m 79 9 ≤ 240 := hIm.1 79 9
  have f4 : (0 : Int) ≤ m 79 10 ∧ m 79 10 ≤ 241 := hIm.1 79 10
  have f5 : (-2147483648 : Int) ≤ m 79 11 ∧ m 79 11 ≤ 2147483647 := hIm.1 79 11
  have f6 : (0 : Int) ≤ m 79 12 ∧ m 79 12 ≤ 6 := hIm.1 79 12
  have q7 := zn_m hIm
  have q8 := znx_le (b := zbT mC) (n := mC 79 6) hb9.2
  have q9 := ztk_f (zbT mC) (mC 79 6) there a9
  have q10 := ztk_g (b := zbT mC) (n := mC 79 6) (s := there) (by omega) a9 hb9.1 hb9.2
  by_cases b11 : (m 79 11) = (-1)
  · refine zW.step (st1 := (8, [(some (.ref 79)), (some (.int (Int32.ofInt there)))], [], zk c m)) (st2 := (8, [(some (.ref 79)), (some (.int (Int32.ofInt there)))], [], zk c m)) ⟨[zo, zo, zo, zo], _, rfl, ⟨trivial, (Nat.lt_of_lt_of_le (Nat.le_of_ble_eq_true rfl) hN), trivial, zbf (fun q => q ((zi_eq rfl rfl (by unfold zR; omega) (⟨by decide, by decide⟩ : zR (-1))).mpr b11)), trivial⟩⟩ rfl ?_
    refine zW.step (st1 := (9, [(some (.ref 79)), (some (.int (Int32.ofInt there)))], [.ref 79], zk c m)) (st2 := (9, [(some (.ref 79)), (some (.int (Int32.ofInt there)))], [.ref 79], zk c m)) ⟨[zo], _, rfl, ⟨trivial, trivial⟩⟩ rfl ?_
    obtain ⟨r12, m12, hs12, hIm12, z_12, f_12, p_12, b_12, l_12, t5_12, f9_12, d9_12, kY_12⟩ := S_X12_look_F zn (d + 0) hN hC a9 m hIm (by omega) (by omega) (by omega)
    refine zW.step (st1 := (12, [(some (.ref 79)), (some (.int (Int32.ofInt there)))], [.int (Int32.ofInt r12)], zk c m12)) ⟨[zc (some (.int (Int32.ofInt r12))) (zk c m12)], _, rfl, ⟨⟨⟨(Nat.lt_of_lt_of_le (Nat.le_of_ble_eq_true rfl) hN), (Nat.le_of_ble_eq_true rfl)⟩, hs12, (Nat.le_of_ble_eq_true rfl), Nat.le_refl _, Nat.le_refl _, Nat.le_refl _, Nat.le_refl _⟩, trivial⟩⟩ rfl ?_
    have f13 : (80 : Int) ≤ m12 79 5 ∧ m12 79 5 ≤ 81 := hIm12.1 79 5
    have f14 : (0 : Int) ≤ m12 79 8 ∧ m12 79 8 ≤ 720 := hIm12.1 79 8
    have f15 : (0 : Int) ≤ m12 79 9 ∧ m12 79 9 ≤ 240 := hIm12.1 79 9
    have f16 : (0 : Int) ≤ m12 79 10 ∧ m12 79 10 ≤ 241 := hIm12.1 79 10
    have f17 : (-2147483648 : Int) ≤ m12 79 11 ∧ m12 79 11 ≤ 2147483647 := hIm12.1 79 11
    have f18 : (0 : Int) ≤ m12 79 12 ∧ m12 79 12 ≤ 6 := hIm12.1 79 12
    have tk19 : zY m m12 := zY_tr zY_rf kY_12
    by_cases b20 : r12 = there
    · refine zW.step (st1 := (21, [(some (.ref 79)), (some (.int (Int32.ofInt there)))], [], zk c m12)) (st2 := (21, [(some (.ref 79)), (some (.int (Int32.ofInt there)))], [], zk c m12)) ⟨[zo, zt], _, rfl, ⟨trivial, zbt ((zi_eq rfl rfl (by unfold zR; omega) (by unfold zR; omega)).mpr b20), trivial⟩⟩ rfl ?_
      obtain ⟨m21, hm21⟩ : ∃ q, q = zm_up m12 79 10 ((m12 79 10) + 1) := ⟨_, rfl⟩
      have hIm21 := zJ_upE hIm12 hm21 (zOj_79 (by decide)) (show (0 : Int) ≤ ((m12 79 10) + 1) ∧ ((m12 79 10) + 1) ≤ 241 by omega)
      have em21 : m21 79 10 = ((m12 79 10) + 1) := by rw [hm21]; exact zm_eq
      have f22 : m21 79 5 = m12 79 5 := by rw [hm21]; exact zm_ne (Or.inr (by decide))
      have f23 : m21 79 8 = m12 79 8 := by rw [hm21]; exact zm_ne (Or.inr (by decide))
      have f24 : m21 79 9 = m12 79 9 := by rw [hm21]; exact zm_ne (Or.inr (by decide))
      have f25 : m21 79 11 = m12 79 11 := by rw [hm21]; exact zm_ne (Or.inr (by decide))
      have f26 : m21 79 12 = m12 79 12 := by rw [hm21]; exact zm_ne (Or.inr (by decide))
      have tk27 : zY m m21 := by rw [hm21]; exact zY_up tk19 (zYs_79 (by decide))
      clear tk19
      refine zW.step (st1 := (31, [(some (.ref 79)), (some (.int (Int32.ofInt there)))], [], z_hup (zk c m12) 79 (.inr (12, (.int (Int32.ofInt (m12 79 0)) :: .ref 80 :: .ref 81 :: .ref 82 :: .ref 83 :: zm_rf (m12 79 5) :: .int (Int32.ofInt (m12 79 6)) :: .int (Int32.ofInt (m12 79 7)) :: .int (Int32.ofInt (m12 79 8)) :: .int (Int32.ofInt (m12 79 9)) :: .int ((Int32.ofInt (m12 79 10)) + (Int32.ofInt 1)) :: .int (Int32.ofInt (m12 79 11)) :: .int (Int32.ofInt (m12 79 12)) :: .int (Int32.ofInt (m12 79 13)) :: .int (Int32.ofInt (m12 79 14)) :: .ref (z_RO + 5) :: .ref (z_RO + 3) :: .int (Int32.ofInt (m12 79 17)) :: .ref 84 :: .ref 85 :: .ref 86 :: .ref 87 :: .ref 88 :: .ref 89 :: .ref 90 :: .ref 91 :: .int (Int32.ofInt (m12 79 26)) :: .int (Int32.ofInt (m12 79 27)) :: .int (Int32.ofInt (m12 79 28)) :: .int (Int32.ofInt (m12 79 29)) :: .int (Int32.ofInt (m12 79 30)) :: .ref 92 :: .ref 93 :: .int (Int32.ofInt (m12 79 33)) :: .int (Int32.ofInt (m12 79 34)) :: .ref 94 :: .ref 95 :: .int (Int32.ofInt (m12 79 37)) :: .int (Int32.ofInt (m12 79 38)) :: .int (Int32.ofInt (m12 79 39)) :: .int (Int32.ofInt (m12 79 40)) :: .int (Int32.ofInt (m12 79 41)) :: .int (Int32.ofInt (m12 79 42)) :: .ref 96 :: .ref 97 :: .ref 98 :: .ref 99 :: .ref 100 :: .int (Int32.ofInt (m12 79 48)) :: .int (Int32.ofInt (m12 79 49)) :: .long (Int64.ofInt (m12 79 50)) :: .ref 101 :: .ref 102 :: .int (Int32.ofInt (m12 79 53)) :: .ref 103 :: .ref 104 :: .ref 105 :: .int (Int32.ofInt (m12 79 57)) :: []))))) (st2 := (31, [(some (.ref 79)), (some (.int (Int32.ofInt there)))], [], zk c m21)) ⟨[zo, zo, zo, zo, zo, zo], _, rfl, ⟨trivial, trivial, (Nat.lt_of_lt_of_le (Nat.le_of_ble_eq_true rfl) hN), trivial, trivial, ⟨(Nat.lt_of_lt_of_le (Nat.le_of_ble_eq_true rfl) hN), rfl, rfl⟩, trivial⟩⟩ (z_steq rfl rfl ((zk_up c m12 79 10 ((m12 79 10) + 1) _ ((congrArg (fun q => (.inr (12, (.int (Int32.ofInt (m12 79 0)) :: .ref 80 :: .ref 81 :: .ref 82 :: .ref 83 :: zm_rf (m12 79 5) :: .int (Int32.ofInt (m12 79 6)) :: .int (Int32.ofInt (m12 79 7)) :: .int (Int32.ofInt (m12 79 8)) :: .int (Int32.ofInt (m12 79 9)) :: .int q :: .int (Int32.ofInt (m12 79 11)) :: .int (Int32.ofInt (m12 79 12)) :: .int (Int32.ofInt (m12 79 13)) :: .int (Int32.ofInt (m12 79 14)) :: .ref (z_RO + 5) :: .ref (z_RO + 3) :: .int (Int32.ofInt (m12 79 17)) :: .ref 84 :: .ref 85 :: .ref 86 :: .ref 87 :: .ref 88 :: .ref 89 :: .ref 90 :: .ref 91 :: .int (Int32.ofInt (m12 79 26)) :: .int (Int32.ofInt (m12 79 27)) :: .int (Int32.ofInt (m12 79 28)) :: .int (Int32.ofInt (m12 79 29)) :: .int (Int32.ofInt (m12 79 30)) :: .ref 92 :: .ref 93 :: .int (Int32.ofInt (m12 79 33)) :: .int (Int32.ofInt (m12 79 34)) :: .ref 94 :: .ref 95 :: .int (Int32.ofInt (m12 79 37)) :: .int (Int32.ofInt (m12 79 38)) :: .int (Int32.ofInt (m12 79 39)) :: .int (Int32.ofInt (m12 79 40)) :: .int (Int32.ofInt (m12 79 41)) :: .int (Int32.ofInt (m12 79 42)) :: .ref 96 :: .ref 97 :: .ref 98 :: .ref 99 :: .ref 100 :: .int (Int32.ofInt (m12 79 48)) :: .int (Int32.ofInt (m12 79 49)) :: .long (Int64.ofInt (m12 79 50)) :: .ref 101 :: .ref 102 :: .int (Int32.ofInt (m12 79 53)) :: .ref 103 :: .ref 104 :: .ref 105 :: .int (Int32.ofInt (m12 79 57)) :: [])) : z_E)) (zi_add rfl rfl)).trans rfl)).trans (by rw [hm21]))) ?_
      refine zW.step (st1 := (32, [(some (.ref 79)), (some (.int (Int32.ofInt there)))], [.int (Int32.ofInt 1)], zk c m21)) (st2 := (32, [(some (.ref 79)), (some (.int (Int32.ofInt there)))], [.int (Int32.ofInt 1)], zk c m21)) ⟨[zo], _, rfl, ⟨trivial, trivial⟩⟩ rfl ?_
      exact zW.fin (zfin_i rfl rfl rfl) ⟨1, m21, rfl, rfl, hIm21, (by omega), (by omega), (by omega), (by omega), (by omega), (by omega), tk27⟩
    · refine zW.step (st1 := (16, [(some (.ref 79)), (some (.int (Int32.ofInt there)))], [], zk c m12)) (st2 := (16, [(some (.ref 79)), (some (.int (Int32.ofInt there)))], [], zk c m12)) ⟨[zo, zo], _, rfl, ⟨trivial, zbf (fun q => b20 ((zi_eq rfl rfl (by unfold zR; omega) (by unfold zR; omega)).mp q)), trivial⟩⟩ rfl ?_
      refine zW.step (st1 := (17, [(some (.ref 79)), (some (.int (Int32.ofInt there)))], [.ref 79], zk c m12)) (st2 := (17, [(some (.ref 79)), (some (.int (Int32.ofInt there)))], [.ref 79], zk c m12)) ⟨[zo], _, rfl, ⟨trivial, trivial⟩⟩ rfl ?_
      obtain ⟨r28, m28, hs28, hIm28, q_28, f_28, p_28, t5_28, d9_28, kY_28⟩ := S_X12_fails_F zn (d + 0) hN hC (znx (zbT mC) (mC 79 6) a9) m12 hIm12 (by omega) (by omega)
      subst q_28
      refine zW.step (st1 := (20, [(some (.ref 79)), (some (.int (Int32.ofInt there)))], [.int (Int32.ofInt 0)], zk c m28)) ⟨[zc (some (.int (Int32.ofInt 0))) (zk c m28)], _, rfl, ⟨⟨⟨(Nat.lt_of_lt_of_le (Nat.le_of_ble_eq_true rfl) hN), (Nat.le_of_ble_eq_true rfl)⟩, hs28, (Nat.le_of_ble_eq_true rfl), Nat.le_refl _, Nat.le_refl _, Nat.le_refl _, Nat.le_refl _⟩, trivial⟩⟩ rfl ?_
      have f29 : (80 : Int) ≤ m28 79 5 ∧ m28 79 5 ≤ 81 := hIm28.1 79 5
      have f30 : (0 : Int) ≤ m28 79 8 ∧ m28 79 8 ≤ 720 := hIm28.1 79 8
      have f31 : (0 : Int) ≤ m28 79 9 ∧ m28 79 9 ≤ 240 := hIm28.1 79 9
      have f32 : (0 : Int) ≤ m28 79 10 ∧ m28 79 10 ≤ 241 := hIm28.1 79 10
      have f33 : (-2147483648 : Int) ≤ m28 79 11 ∧ m28 79 11 ≤ 2147483647 := hIm28.1 79 11
      have f34 : (0 : Int) ≤ m28 79 12 ∧ m28 79 12 ≤ 6 := hIm28.1 79 12
      have tk35 : zY m m28 := zY_tr tk19 kY_28
      exact zW.fin (zfin_i rfl rfl rfl) ⟨0, m28, rfl, rfl, hIm28, (by omega), (by omega), (by omega), (by omega), (by omega), (by omega), tk35⟩
  · refine zW.step (st1 := (16, [(some (.ref 79)), (some (.int (Int32.ofInt there)))], [], zk c m)) (st2 := (16, [(some (.ref 79)), (some (.int (Int32.ofInt there)))], [], zk c m)) ⟨[zo, zo, zo, zt], _, rfl, ⟨trivial, (Nat.lt_of_lt_of_le (Nat.le_of_ble_eq_true rfl) hN), trivial, zbt (fun q => b11 ((zi_eq rfl rfl (by unfold zR; omega) (⟨by decide, by decide⟩ : zR (-1))).mp q)), trivial⟩⟩ rfl ?_
    refine zW.step (st1 := (17, [(some (.ref 79)), (some (.int (Int32.ofInt there)))], [.ref 79], zk c m)) (st2 := (17, [(some (.ref 79)), (some (.int (Int32.ofInt there)))], [.ref 79], zk c m)) ⟨[zo], _, rfl, ⟨trivial, trivial⟩⟩ rfl ?_
    obtain ⟨r36, m36, hs36, hIm36, q_36, f_36, p_36, t5_36, d9_36, kY_36⟩ := S_X12_fails_F zn (d + 0) hN hC a9 m hIm (by omega) (by omega)
    subst q_36
    refine zW.step (st1 := (20, [(some (.ref 79)), (some (.int (Int32.ofInt there)))], [.int (Int32.ofInt 0)], zk c m36)) ⟨[zc (some (.int (Int32.ofInt 0))) (zk c m36)], _, rfl, ⟨⟨⟨(Nat.lt_of_lt_of_le (Nat.le_of_ble_eq_true rfl) hN), (Nat.le_of_ble_eq_true rfl)⟩, hs36, (Nat.le_of_ble_eq_true rfl), Nat.le_refl _, Nat.le_refl _, Nat.le_refl _, Nat.le_refl _⟩, trivial⟩⟩ rfl ?_
    have f37 : (80 : Int) ≤ m36 79 5 ∧ m36 79 5 ≤ 81 := hIm36.1 79 5
    have f38 : (0 : Int) ≤ m36 79 8 ∧ m36 79 8 ≤ 720 := hIm36.1 79 8
    have f39 : (0 : Int) ≤ m36 79 9 ∧ m36 79 9 ≤ 240 := hIm36.1 79 9
    have f40 : (0 : Int) ≤ m36 79 10 ∧ m36 79 10 ≤ 241 := hIm36.1 79 10
    have f41 : (-2147483648 : Int) ≤ m36 79 11 ∧ m36 79 11 ≤ 2147483647 := hIm36.1 79 11
    have f42 : (0 : Int) ≤ m36 79 12 ∧ m36 79 12 ≤ 6 := hIm36.1 79 12
    have tk43 : zY m m36 := zY_tr zY_rf kY_36
    exact zW.fin (zfin_i rfl rfl rfl) ⟨0, m36, rfl, rfl, hIm36, (by omega), (by omega), (by omega), (by omega), (by omega), (by omega), tk43⟩

