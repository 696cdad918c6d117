/-! texts, by program (wip/tools/gw5): K1_charAt_100F, K0_charAt_0F, X12_placeOf_0F, K1_charAt_101F, K0_charAt_1F, X12_placeOf_1F, K1_charAt_102F, K0_charAt_2F, X12_placeOf_2F, K1_charAt_103F, K0_charAt_3F, X12_isAmong_3F, K1_charAt_105F, K0_charAt_5F -/
set_option maxRecDepth 100000 in
set_option maxHeartbeats 4000000 in
theorem S_K1_charAt_100F (zn : Bool) (d : Nat) {c : Nat × Nat} {mC : zM} {t9 : Int} {e9 : Nat} (hN : 107 ≤ c.1) (hC : c.1 < z_RO) (a : Int) (m : zM) (hIm : zJ mC t9 e9 m) (r_a : -2147483648 ≤ a ∧ a ≤ 2147483647) (ha : 0 ≤ a ∧ a < 1) : zPi zn (d + 3) 11 [.ref (z_RO + 100), .int (Int32.ofInt a)] c m (fun (r : Int) => (0 ≤ r ∧ r ≤ 122) ∧ (r = zbt9 0 (a).toNat)) := by
  refine zPi.of zu_J1_charAt_3b067 hC (Nat.le_of_ble_eq_true rfl) ?_
  show zW zn (d + 2) 11 c (0, [(some (.ref (z_RO + 100))), (some (.int (Int32.ofInt a)))], [], zk c m) (fun v h1 => ∃ (r : Int), v = some (.int (Int32.ofInt r)) ∧ h1 = zk c m ∧ (0 ≤ r ∧ r ≤ 122) ∧ (r = zbt9 0 (a).toNat))
  refine zW.step (st1 := (3, [(some (.ref (z_RO + 100))), (some (.int (Int32.ofInt a)))], [.int (Int32.ofNat 1), .int (Int32.ofInt a)], zk c m)) (st2 := (3, [(some (.ref (z_RO + 100))), (some (.int (Int32.ofInt a)))], [.int (Int32.ofInt 1), .int (Int32.ofInt a)], zk c m)) ⟨[zo, zo, zo], _, rfl, ⟨trivial, trivial, trivial, trivial⟩⟩ (z_steq rfl (z_c1 (z_vi (by decide : Int32.ofNat 1 = Int32.ofInt 1)) rfl) rfl) ?_
  obtain ⟨hs1, _⟩ := S_K0_checkIndex zn (d + 0) hN hC a 1 m hIm (by omega) (by omega) (by omega)
  refine zW.step (st1 := (6, [(some (.ref (z_RO + 100))), (some (.int (Int32.ofInt a)))], [], zk c m)) ⟨[zc (none) (zk c m)], _, rfl, ⟨⟨(Nat.le_of_ble_eq_true rfl), hs1, (Nat.le_of_ble_eq_true rfl), Nat.le_refl _, Nat.le_refl _, Nat.le_refl _, Nat.le_refl _⟩, trivial⟩⟩ rfl ?_
  have f2 := zbt9_b 0 a.toNat
  have f3 := zbt9_c 0 a.toNat (by decide) (by omega)
  have q4 := zb_255p (v := zbt9 0 a.toNat) (by omega)
  have f5 : (-2147483648 : Int) ≤ zb_and (zbt9 0 a.toNat) 255 ∧ zb_and (zbt9 0 a.toNat) 255 ≤ 2147483647 := zb_andR (zbt9 0 a.toNat) 255
  have f6 := zb_and255 (zbt9 0 a.toNat)
  have f7 := zb_and_le (a := zbt9 0 a.toNat) (b := 255) (by decide) (by decide)
  refine zW.step (st1 := (14, [(some (.ref (z_RO + 100))), (some (.int (Int32.ofInt a)))], [.int (((((z_byt.getD 0 []).getD (Int32.ofInt a).toNatClampNeg 0) &&& ((Int16.ofInt 255).toInt32)).toUInt32 % 65536).toInt32)], zk c m)) (st2 := (14, [(some (.ref (z_RO + 100))), (some (.int (Int32.ofInt a)))], [.int (Int32.ofInt ((zb_and (zbt9 0 a.toNat) 255) % 65536))], zk c m)) ⟨[zo, zo, zo, zo, zo, zo], _, rfl, ⟨trivial, trivial, (zi_in rfl (by omega) (by omega) (by decide) : vp_in (Int32.ofInt a) 1), trivial, trivial, trivial, trivial⟩⟩ (z_steq rfl (z_c1 (z_vi (zi_i2c (zi_and (zbt9_rd 0 rfl (by unfold zR; omega)) (by decide : (Int16.ofInt 255).toInt32 = Int32.ofInt 255)))) rfl) rfl) ?_
  exact zW.fin (zfin_i rfl rfl (z_narC rfl (by omega))) ⟨(zb_and (zbt9 0 a.toNat) 255) % 65536, rfl, rfl, (by omega), (by omega)⟩

set_option maxRecDepth 100000 in
set_option maxHeartbeats 4000000 in
theorem S_K0_charAt_0F (zn : Bool) (d : Nat) {c : Nat × Nat} {mC : zM} {t9 : Int} {e9 : Nat} (hN : 107 ≤ c.1) (hC : c.1 < z_RO) (a : Int) (m : zM) (hIm : zJ mC t9 e9 m) (r_a : -2147483648 ≤ a ∧ a ≤ 2147483647) (ha : 0 ≤ a ∧ a < 1) : zPi zn (d + 4) 2 [.ref (z_RO + 0), .int (Int32.ofInt a)] c m (fun (r : Int) => (0 ≤ r ∧ r ≤ 122) ∧ (r = zbt9 0 (a).toNat)) := by
  refine zPi.of zu_J0_charAt_5068e hC (Nat.le_of_ble_eq_true rfl) ?_
  show zW zn (d + 3) 2 c (0, [(some (.ref (z_RO + 0))), (some (.int (Int32.ofInt a)))], [], zk c m) (fun v h1 => ∃ (r : Int), v = some (.int (Int32.ofInt r)) ∧ h1 = zk c m ∧ (0 ≤ r ∧ r ≤ 122) ∧ (r = zbt9 0 (a).toNat))
  refine zW.step (st1 := (1, [(some (.ref (z_RO + 0))), (some (.int (Int32.ofInt a)))], [.ref (z_RO + 0)], zk c m)) (st2 := (1, [(some (.ref (z_RO + 0))), (some (.int (Int32.ofInt a)))], [.ref (z_RO + 0)], zk c m)) ⟨[zo], _, rfl, ⟨trivial, trivial⟩⟩ rfl ?_
  obtain ⟨r1, hs1, q_1⟩ := S_K0_isLatin1_0 zn (d + 2) hN hC m hIm
  subst q_1
  refine zW.step (st1 := (4, [(some (.ref (z_RO + 0))), (some (.int (Int32.ofInt a)))], [.int (Int32.ofInt 1)], zk c m)) ⟨[zc (some (.int (Int32.ofInt 1))) (zk c m)], _, rfl, ⟨⟨(Nat.le_of_ble_eq_true rfl), hs1, (Nat.le_of_ble_eq_true rfl), Nat.le_refl _, Nat.le_refl _, Nat.le_refl _, Nat.le_refl _⟩, trivial⟩⟩ rfl ?_
  have b2 : ¬ ((1 : Int) = 0) := by omega
  refine zW.step (st1 := (7, [(some (.ref (z_RO + 0))), (some (.int (Int32.ofInt a)))], [], zk c m)) (st2 := (7, [(some (.ref (z_RO + 0))), (some (.int (Int32.ofInt a)))], [], zk c m)) ⟨[zo], _, rfl, ⟨zbf (fun q => b2 ((zi_eq (by decide : Int32.ofInt 1 = Int32.ofInt 1) (rfl : (0 : Int32) = Int32.ofInt 0) (⟨by decide, by decide⟩ : zR 1) (⟨by decide, by decide⟩ : zR 0)).mp q)), trivial⟩⟩ rfl ?_
  refine zW.step (st1 := (12, [(some (.ref (z_RO + 0))), (some (.int (Int32.ofInt a)))], [.int (Int32.ofInt a), .ref (z_RO + 100)], zk c m)) (st2 := (12, [(some (.ref (z_RO + 0))), (some (.int (Int32.ofInt a)))], [.int (Int32.ofInt a), .ref (z_RO + 100)], zk c m)) ⟨[zo, zo, zo], _, rfl, ⟨trivial, trivial, trivial, trivial⟩⟩ rfl ?_
  obtain ⟨r3, hs3, q_3, f_3⟩ := S_K1_charAt_100F zn (d + 0) hN hC a m hIm (by omega) (by omega)
  refine zW.step (st1 := (15, [(some (.ref (z_RO + 0))), (some (.int (Int32.ofInt a)))], [.int (Int32.ofInt r3)], zk c m)) ⟨[zc (some (.int (Int32.ofInt r3))) (zk c m)], _, rfl, ⟨⟨(Nat.le_of_ble_eq_true rfl), hs3, (Nat.le_of_ble_eq_true rfl), Nat.le_refl _, Nat.le_refl _, Nat.le_refl _, Nat.le_refl _⟩, trivial⟩⟩ rfl ?_
  exact zW.fin (zfin_i rfl rfl (z_narC rfl (by omega))) ⟨r3, rfl, rfl, (by omega), (by omega)⟩

set_option maxRecDepth 100000 in
set_option maxHeartbeats 4000000 in
theorem L_X12_placeOf_0F_2 (zn : Bool) (d : Nat) {c : Nat × Nat} {mC : zM} {t9 : Int} {e9 : Nat} (hN : 107 ≤ c.1) (hC : c.1 < z_RO) (b : Int) (r_b : -2147483648 ≤ b ∧ b ≤ 2147483647) (m : zM) (hIm : zJ mC t9 e9 m) (Q : Option Value → z_H → Prop) (KR : ∀ v h1, (fun v h1 => ∃ (r : Int), v = some (.int (Int32.ofInt r)) ∧ h1 = zk c m ∧ (-1 ≤ r ∧ r < 1) ∧ (r = zix zLs0 0 b)) v h1 → Q v h1) (K : ∀ (x2 : Int), 0 ≤ x2 ∧ x2 ≤ 1 → zix zLs0 0 b = zix (zLs0.drop x2.toNat) x2 b → zix zLs0 0 b = -1 → zW zn (d + 4) 263 c (27, [(some (.ref (z_RO + 0))), (some (.int (Int32.ofInt b))), (some (.int (Int32.ofInt x2)))], [], zk c m) Q) :
    ∀ (w : Nat) (x2 : Int), 0 ≤ x2 ∧ x2 ≤ 1 → zix zLs0 0 b = zix (zLs0.drop x2.toNat) x2 b → w = (1 - x2).toNat → zW zn (d + 4) 263 c (2, [(some (.ref (z_RO + 0))), (some (.int (Int32.ofInt b))), (some (.int (Int32.ofInt x2)))], [], zk c m) Q := by
  intro w
  induction w using Nat.strongRecOn with | _ w ih => ?_
  intro x2 i1 J hw
  refine zW.step (st1 := (4, [(some (.ref (z_RO + 0))), (some (.int (Int32.ofInt b))), (some (.int (Int32.ofInt x2)))], [.ref (z_RO + 0), .int (Int32.ofInt x2)], zk c m)) (st2 := (4, [(some (.ref (z_RO + 0))), (some (.int (Int32.ofInt b))), (some (.int (Int32.ofInt x2)))], [.ref (z_RO + 0), .int (Int32.ofInt x2)], zk c m)) ⟨[zo, zo], _, rfl, ⟨trivial, trivial, trivial⟩⟩ rfl ?_
  obtain ⟨r1, hs1, q_1⟩ := S_K0_length_0 zn (d + 2) hN hC m hIm
  subst q_1
  refine zW.step (st1 := (7, [(some (.ref (z_RO + 0))), (some (.int (Int32.ofInt b))), (some (.int (Int32.ofInt x2)))], [.int (Int32.ofInt 1), .int (Int32.ofInt x2)], zk c m)) ⟨[zc (some (.int (Int32.ofInt 1))) (zk c m)], _, rfl, ⟨⟨(Nat.le_of_ble_eq_true rfl), hs1, (Nat.le_of_ble_eq_true rfl), Nat.le_refl _, Nat.le_refl _, Nat.le_refl _, Nat.le_refl _⟩, trivial⟩⟩ rfl ?_
  by_cases b2 : 1 ≤ x2
  · refine zW.step (st1 := (27, [(some (.ref (z_RO + 0))), (some (.int (Int32.ofInt b))), (some (.int (Int32.ofInt x2)))], [], zk c m)) (st2 := (27, [(some (.ref (z_RO + 0))), (some (.int (Int32.ofInt b))), (some (.int (Int32.ofInt x2)))], [], zk c m)) ⟨[zt], _, rfl, ⟨zbt ((zi_le (by decide : Int32.ofInt 1 = Int32.ofInt 1) rfl (⟨by decide, by decide⟩ : zR 1) (by unfold zR; omega)).mpr b2), trivial⟩⟩ rfl ?_
    exact K x2 (by omega) (by omega) (by have e9 : x2 = 1 := (by omega); rw [J, e9]; exact zix_0_e _)
  · refine zW.step (st1 := (10, [(some (.ref (z_RO + 0))), (some (.int (Int32.ofInt b))), (some (.int (Int32.ofInt x2)))], [], zk c m)) (st2 := (10, [(some (.ref (z_RO + 0))), (some (.int (Int32.ofInt b))), (some (.int (Int32.ofInt x2)))], [], zk c m)) ⟨[zo], _, rfl, ⟨zbf (fun q => b2 ((zi_le (by decide : Int32.ofInt 1 = Int32.ofInt 1) rfl (⟨by decide, by decide⟩ : zR 1) (by unfold zR; omega)).mp q)), trivial⟩⟩ rfl ?_
    have q3 := zix_0 x2 b (by omega)
    refine zW.step (st1 := (12, [(some (.ref (z_RO + 0))), (some (.int (Int32.ofInt b))), (some (.int (Int32.ofInt x2)))], [.int (Int32.ofInt x2), .ref (z_RO + 0)], zk c m)) (st2 := (12, [(some (.ref (z_RO + 0))), (some (.int (Int32.ofInt b))), (some (.int (Int32.ofInt x2)))], [.int (Int32.ofInt x2), .ref (z_RO + 0)], zk c m)) ⟨[zo, zo], _, rfl, ⟨trivial, trivial, trivial⟩⟩ rfl ?_
    obtain ⟨r4, hs4, q_4, f_4⟩ := S_K0_charAt_0F zn (d + 0) hN hC x2 m hIm (by omega) (by omega)
    refine zW.step (st1 := (15, [(some (.ref (z_RO + 0))), (some (.int (Int32.ofInt b))), (some (.int (Int32.ofInt x2)))], [.int (Int32.ofInt r4)], zk c m)) ⟨[zc (some (.int (Int32.ofInt r4))) (zk c m)], _, rfl, ⟨⟨(Nat.le_of_ble_eq_true rfl), hs4, (Nat.le_of_ble_eq_true rfl), Nat.le_refl _, Nat.le_refl _, Nat.le_refl _, Nat.le_refl _⟩, trivial⟩⟩ rfl ?_
    by_cases b5 : r4 = b
    · refine zW.step (st1 := (19, [(some (.ref (z_RO + 0))), (some (.int (Int32.ofInt b))), (some (.int (Int32.ofInt x2)))], [], zk c m)) (st2 := (19, [(some (.ref (z_RO + 0))), (some (.int (Int32.ofInt b))), (some (.int (Int32.ofInt x2)))], [], zk c m)) ⟨[zo, zo], _, rfl, ⟨trivial, zbf (fun q => q ((zi_eq rfl rfl (by unfold zR; omega) (by unfold zR; omega)).mpr b5)), trivial⟩⟩ rfl ?_
      refine zW.step (st1 := (20, [(some (.ref (z_RO + 0))), (some (.int (Int32.ofInt b))), (some (.int (Int32.ofInt x2)))], [.int (Int32.ofInt x2)], zk c m)) (st2 := (20, [(some (.ref (z_RO + 0))), (some (.int (Int32.ofInt b))), (some (.int (Int32.ofInt x2)))], [.int (Int32.ofInt x2)], zk c m)) ⟨[zo], _, rfl, ⟨trivial, trivial⟩⟩ rfl ?_
      exact zW.fin (zfin_i rfl rfl rfl) (KR _ _ ⟨x2, rfl, rfl, (by omega), (by omega)⟩)
    · refine zW.step (st1 := (21, [(some (.ref (z_RO + 0))), (some (.int (Int32.ofInt b))), (some (.int (Int32.ofInt x2)))], [], zk c m)) (st2 := (21, [(some (.ref (z_RO + 0))), (some (.int (Int32.ofInt b))), (some (.int (Int32.ofInt x2)))], [], zk c m)) ⟨[zo, zt], _, rfl, ⟨trivial, zbt (fun q => b5 ((zi_eq rfl rfl (by unfold zR; omega) (by unfold zR; omega)).mp q)), trivial⟩⟩ rfl ?_
      refine zW.step (st1 := (2, [(some (.ref (z_RO + 0))), (some (.int (Int32.ofInt b))), (some (.int ((Int32.ofInt x2) + Int32.ofInt 1)))], [], zk c m)) (st2 := (2, [(some (.ref (z_RO + 0))), (some (.int (Int32.ofInt b))), (some (.int (Int32.ofInt (x2 + 1))))], [], zk c m)) ⟨[zo, zo], _, rfl, ⟨trivial, trivial, trivial⟩⟩ (z_steq (z_c1 rfl (z_c1 rfl (z_c1 (z_si (zi_add rfl rfl)) rfl))) rfl rfl) ?_
      exact ih _ (by omega) (x2 + 1) (by omega) (by omega) rfl

set_option maxRecDepth 100000 in
set_option maxHeartbeats 4000000 in
theorem S_X12_placeOf_0F (zn : Bool) (d : Nat) {c : Nat × Nat} {mC : zM} {t9 : Int} {e9 : Nat} (hN : 107 ≤ c.1) (hC : c.1 < z_RO) (b : Int) (m : zM) (hIm : zJ mC t9 e9 m) (r_b : -2147483648 ≤ b ∧ b ≤ 2147483647) : zPi zn (d + 5) 263 [.ref (z_RO + 0), .int (Int32.ofInt b)] c m (fun (r : Int) => (-1 ≤ r ∧ r < 1) ∧ (r = zix zLs0 0 b)) := by
  refine zPi.of zu_X12_placeOf hC (Nat.le_of_ble_eq_true rfl) ?_
  show zW zn (d + 4) 263 c (0, [(some (.ref (z_RO + 0))), (some (.int (Int32.ofInt b))), none], [], zk c m) (fun v h1 => ∃ (r : Int), v = some (.int (Int32.ofInt r)) ∧ h1 = zk c m ∧ (-1 ≤ r ∧ r < 1) ∧ (r = zix zLs0 0 b))
  refine zW.step (st1 := (2, [(some (.ref (z_RO + 0))), (some (.int (Int32.ofInt b))), (some (.int (Int32.ofInt 0)))], [], zk c m)) (st2 := (2, [(some (.ref (z_RO + 0))), (some (.int (Int32.ofInt b))), (some (.int (Int32.ofInt 0)))], [], zk c m)) ⟨[zo, zo], _, rfl, ⟨trivial, trivial, trivial⟩⟩ rfl ?_
  refine L_X12_placeOf_0F_2 zn _ hN hC b r_b m hIm _ (fun v9 h9 hq9 => hq9) (fun x2_6 i1_6 J_6 e_6 => ?_) _ 0 (by omega) (by rfl) rfl
  refine zW.step (st1 := (28, [(some (.ref (z_RO + 0))), (some (.int (Int32.ofInt b))), (some (.int (Int32.ofInt x2_6)))], [.int (Int32.ofInt (-1))], zk c m)) (st2 := (28, [(some (.ref (z_RO + 0))), (some (.int (Int32.ofInt b))), (some (.int (Int32.ofInt x2_6)))], [.int (Int32.ofInt (-1))], zk c m)) ⟨[zo], _, rfl, ⟨trivial, trivial⟩⟩ rfl ?_
  exact zW.fin (zfin_i rfl rfl rfl) ⟨(-1), rfl, rfl, (by omega), (by omega)⟩

set_option maxRecDepth 100000 in
set_option maxHeartbeats 4000000 in
theorem S_K1_charAt_101F (zn : Bool) (d : Nat) {c : Nat × Nat} {mC : zM} {t9 : Int} {e9 : Nat} (hN : 107 ≤ c.1) (hC : c.1 < z_RO) (a : Int) (m : zM) (hIm : zJ mC t9 e9 m) (r_a : -2147483648 ≤ a ∧ a ≤ 2147483647) (ha : 0 ≤ a ∧ a < 7) : zPi zn (d + 3) 11 [.ref (z_RO + 101), .int (Int32.ofInt a)] c m (fun (r : Int) => (0 ≤ r ∧ r ≤ 122) ∧ (r = zbt9 1 (a).toNat)) := by
  refine zPi.of zu_J1_charAt_3b067 hC (Nat.le_of_ble_eq_true rfl) ?_
  show zW zn (d + 2) 11 c (0, [(some (.ref (z_RO + 101))), (some (.int (Int32.ofInt a)))], [], zk c m) (fun v h1 => ∃ (r : Int), v = some (.int (Int32.ofInt r)) ∧ h1 = zk c m ∧ (0 ≤ r ∧ r ≤ 122) ∧ (r = zbt9 1 (a).toNat))
  refine zW.step (st1 := (3, [(some (.ref (z_RO + 101))), (some (.int (Int32.ofInt a)))], [.int (Int32.ofNat 7), .int (Int32.ofInt a)], zk c m)) (st2 := (3, [(some (.ref (z_RO + 101))), (some (.int (Int32.ofInt a)))], [.int (Int32.ofInt 7), .int (Int32.ofInt a)], zk c m)) ⟨[zo, zo, zo], _, rfl, ⟨trivial, trivial, trivial, trivial⟩⟩ (z_steq rfl (z_c1 (z_vi (by decide : Int32.ofNat 7 = Int32.ofInt 7)) rfl) rfl) ?_
  obtain ⟨hs1, _⟩ := S_K0_checkIndex zn (d + 0) hN hC a 7 m hIm (by omega) (by omega) (by omega)
  refine zW.step (st1 := (6, [(some (.ref (z_RO + 101))), (some (.int (Int32.ofInt a)))], [], zk c m)) ⟨[zc (none) (zk c m)], _, rfl, ⟨⟨(Nat.le_of_ble_eq_true rfl), hs1, (Nat.le_of_ble_eq_true rfl), Nat.le_refl _, Nat.le_refl _, Nat.le_refl _, Nat.le_refl _⟩, trivial⟩⟩ rfl ?_
  have f2 := zbt9_b 1 a.toNat
  have f3 := zbt9_c 1 a.toNat (by decide) (by omega)
  have q4 := zb_255p (v := zbt9 1 a.toNat) (by omega)
  have f5 : (-2147483648 : Int) ≤ zb_and (zbt9 1 a.toNat) 255 ∧ zb_and (zbt9 1 a.toNat) 255 ≤ 2147483647 := zb_andR (zbt9 1 a.toNat) 255
  have f6 := zb_and255 (zbt9 1 a.toNat)
  have f7 := zb_and_le (a := zbt9 1 a.toNat) (b := 255) (by decide) (by decide)
  refine zW.step (st1 := (14, [(some (.ref (z_RO + 101))), (some (.int (Int32.ofInt a)))], [.int (((((z_byt.getD 1 []).getD (Int32.ofInt a).toNatClampNeg 0) &&& ((Int16.ofInt 255).toInt32)).toUInt32 % 65536).toInt32)], zk c m)) (st2 := (14, [(some (.ref (z_RO + 101))), (some (.int (Int32.ofInt a)))], [.int (Int32.ofInt ((zb_and (zbt9 1 a.toNat) 255) % 65536))], zk c m)) ⟨[zo, zo, zo, zo, zo, zo], _, rfl, ⟨trivial, trivial, (zi_in rfl (by omega) (by omega) (by decide) : vp_in (Int32.ofInt a) 7), trivial, trivial, trivial, trivial⟩⟩ (z_steq rfl (z_c1 (z_vi (zi_i2c (zi_and (zbt9_rd 1 rfl (by unfold zR; omega)) (by decide : (Int16.ofInt 255).toInt32 = Int32.ofInt 255)))) rfl) rfl) ?_
  exact zW.fin (zfin_i rfl rfl (z_narC rfl (by omega))) ⟨(zb_and (zbt9 1 a.toNat) 255) % 65536, rfl, rfl, (by omega), (by omega)⟩

set_option maxRecDepth 100000 in
set_option maxHeartbeats 4000000 in
theorem S_K0_charAt_1F (zn : Bool) (d : Nat) {c : Nat × Nat} {mC : zM} {t9 : Int} {e9 : Nat} (hN : 107 ≤ c.1) (hC : c.1 < z_RO) (a : Int) (m : zM) (hIm : zJ mC t9 e9 m) (r_a : -2147483648 ≤ a ∧ a ≤ 2147483647) (ha : 0 ≤ a ∧ a < 7) : zPi zn (d + 4) 2 [.ref (z_RO + 1), .int (Int32.ofInt a)] c m (fun (r : Int) => (0 ≤ r ∧ r ≤ 122) ∧ (r = zbt9 1 (a).toNat)) := by
  refine zPi.of zu_J0_charAt_5068e hC (Nat.le_of_ble_eq_true rfl) ?_
  show zW zn (d + 3) 2 c (0, [(some (.ref (z_RO + 1))), (some (.int (Int32.ofInt a)))], [], zk c m) (fun v h1 => ∃ (r : Int), v = some (.int (Int32.ofInt r)) ∧ h1 = zk c m ∧ (0 ≤ r ∧ r ≤ 122) ∧ (r = zbt9 1 (a).toNat))
  refine zW.step (st1 := (1, [(some (.ref (z_RO + 1))), (some (.int (Int32.ofInt a)))], [.ref (z_RO + 1)], zk c m)) (st2 := (1, [(some (.ref (z_RO + 1))), (some (.int (Int32.ofInt a)))], [.ref (z_RO + 1)], zk c m)) ⟨[zo], _, rfl, ⟨trivial, trivial⟩⟩ rfl ?_
  obtain ⟨r1, hs1, q_1⟩ := S_K0_isLatin1_1 zn (d + 2) hN hC m hIm
  subst q_1
  refine zW.step (st1 := (4, [(some (.ref (z_RO + 1))), (some (.int (Int32.ofInt a)))], [.int (Int32.ofInt 1)], zk c m)) ⟨[zc (some (.int (Int32.ofInt 1))) (zk c m)], _, rfl, ⟨⟨(Nat.le_of_ble_eq_true rfl), hs1, (Nat.le_of_ble_eq_true rfl), Nat.le_refl _, Nat.le_refl _, Nat.le_refl _, Nat.le_refl _⟩, trivial⟩⟩ rfl ?_
  have b2 : ¬ ((1 : Int) = 0) := by omega
  refine zW.step (st1 := (7, [(some (.ref (z_RO + 1))), (some (.int (Int32.ofInt a)))], [], zk c m)) (st2 := (7, [(some (.ref (z_RO + 1))), (some (.int (Int32.ofInt a)))], [], zk c m)) ⟨[zo], _, rfl, ⟨zbf (fun q => b2 ((zi_eq (by decide : Int32.ofInt 1 = Int32.ofInt 1) (rfl : (0 : Int32) = Int32.ofInt 0) (⟨by decide, by decide⟩ : zR 1) (⟨by decide, by decide⟩ : zR 0)).mp q)), trivial⟩⟩ rfl ?_
  refine zW.step (st1 := (12, [(some (.ref (z_RO + 1))), (some (.int (Int32.ofInt a)))], [.int (Int32.ofInt a), .ref (z_RO + 101)], zk c m)) (st2 := (12, [(some (.ref (z_RO + 1))), (some (.int (Int32.ofInt a)))], [.int (Int32.ofInt a), .ref (z_RO + 101)], zk c m)) ⟨[zo, zo, zo], _, rfl, ⟨trivial, trivial, trivial, trivial⟩⟩ rfl ?_
  obtain ⟨r3, hs3, q_3, f_3⟩ := S_K1_charAt_101F zn (d + 0) hN hC a m hIm (by omega) (by omega)
  refine zW.step (st1 := (15, [(some (.ref (z_RO + 1))), (some (.int (Int32.ofInt a)))], [.int (Int32.ofInt r3)], zk c m)) ⟨[zc (some (.int (Int32.ofInt r3))) (zk c m)], _, rfl, ⟨⟨(Nat.le_of_ble_eq_true rfl), hs3, (Nat.le_of_ble_eq_true rfl), Nat.le_refl _, Nat.le_refl _, Nat.le_refl _, Nat.le_refl _⟩, trivial⟩⟩ rfl ?_
  exact zW.fin (zfin_i rfl rfl (z_narC rfl (by omega))) ⟨r3, rfl, rfl, (by omega), (by omega)⟩

set_option maxRecDepth 100000 in
set_option maxHeartbeats 4000000 in
theorem L_X12_placeOf_1F_2 (zn : Bool) (d : Nat) {c : Nat × Nat} {mC : zM} {t9 : Int} {e9 : Nat} (hN : 107 ≤ c.1) (hC : c.1 < z_RO) (b : Int) (r_b : -2147483648 ≤ b ∧ b ≤ 2147483647) (m : zM) (hIm : zJ mC t9 e9 m) (Q : Option Value → z_H → Prop) (KR : ∀ v h1, (fun v h1 => ∃ (r : Int), v = some (.int (Int32.ofInt r)) ∧ h1 = zk c m ∧ (-1 ≤ r ∧ r < 7) ∧ (r = zix zLs1 0 b)) v h1 → Q v h1) (K : ∀ (x2 : Int), 0 ≤ x2 ∧ x2 ≤ 7 → zix zLs1 0 b = zix (zLs1.drop x2.toNat) x2 b → zix zLs1 0 b = -1 → zW zn (d + 4) 263 c (27, [(some (.ref (z_RO + 1))), (some (.int (Int32.ofInt b))), (some (.int (Int32.ofInt x2)))], [], zk c m) Q) :
    ∀ (w : Nat) (x2 : Int), 0 ≤ x2 ∧ x2 ≤ 7 → zix zLs1 0 b = zix (zLs1.drop x2.toNat) x2 b → w = (7 - x2).toNat → zW zn (d + 4) 263 c (2, [(some (.ref (z_RO + 1))), (some (.int (Int32.ofInt b))), (some (.int (Int32.ofInt x2)))], [], zk c m) Q := by
  intro w
  induction w using Nat.strongRecOn with | _ w ih => ?_
  intro x2 i1 J hw
  refine zW.step (st1 := (4, [(some (.ref (z_RO + 1))), (some (.int (Int32.ofInt b))), (some (.int (Int32.ofInt x2)))], [.ref (z_RO + 1), .int (Int32.ofInt x2)], zk c m)) (st2 := (4, [(some (.ref (z_RO + 1))), (some (.int (Int32.ofInt b))), (some (.int (Int32.ofInt x2)))], [.ref (z_RO + 1), .int (Int32.ofInt x2)], zk c m)) ⟨[zo, zo], _, rfl, ⟨trivial, trivial, trivial⟩⟩ rfl ?_
  obtain ⟨r1, hs1, q_1⟩ := S_K0_length_1 zn (d + 2) hN hC m hIm
  subst q_1
  refine zW.step (st1 := (7, [(some (.ref (z_RO + 1))), (some (.int (Int32.ofInt b))), (some (.int (Int32.ofInt x2)))], [.int (Int32.ofInt 7), .int (Int32.ofInt x2)], zk c m)) ⟨[zc (some (.int (Int32.ofInt 7))) (zk c m)], _, rfl, ⟨⟨(Nat.le_of_ble_eq_true rfl), hs1, (Nat.le_of_ble_eq_true rfl), Nat.le_refl _, Nat.le_refl _, Nat.le_refl _, Nat.le_refl _⟩, trivial⟩⟩ rfl ?_
  by_cases b2 : 7 ≤ x2
  · refine zW.step (st1 := (27, [(some (.ref (z_RO + 1))), (some (.int (Int32.ofInt b))), (some (.int (Int32.ofInt x2)))], [], zk c m)) (st2 := (27, [(some (.ref (z_RO + 1))), (some (.int (Int32.ofInt b))), (some (.int (Int32.ofInt x2)))], [], zk c m)) ⟨[zt], _, rfl, ⟨zbt ((zi_le (by decide : Int32.ofInt 7 = Int32.ofInt 7) rfl (⟨by decide, by decide⟩ : zR 7) (by unfold zR; omega)).mpr b2), trivial⟩⟩ rfl ?_
    exact K x2 (by omega) (by omega) (by have e9 : x2 = 7 := (by omega); rw [J, e9]; exact zix_1_e _)
  · refine zW.step (st1 := (10, [(some (.ref (z_RO + 1))), (some (.int (Int32.ofInt b))), (some (.int (Int32.ofInt x2)))], [], zk c m)) (st2 := (10, [(some (.ref (z_RO + 1))), (some (.int (Int32.ofInt b))), (some (.int (Int32.ofInt x2)))], [], zk c m)) ⟨[zo], _, rfl, ⟨zbf (fun q => b2 ((zi_le (by decide : Int32.ofInt 7 = Int32.ofInt 7) rfl (⟨by decide, by decide⟩ : zR 7) (by unfold zR; omega)).mp q)), trivial⟩⟩ rfl ?_
    have q3 := zix_1 x2 b (by omega)
    refine zW.step (st1 := (12, [(some (.ref (z_RO + 1))), (some (.int (Int32.ofInt b))), (some (.int (Int32.ofInt x2)))], [.int (Int32.ofInt x2), .ref (z_RO + 1)], zk c m)) (st2 := (12, [(some (.ref (z_RO + 1))), (some (.int (Int32.ofInt b))), (some (.int (Int32.ofInt x2)))], [.int (Int32.ofInt x2), .ref (z_RO + 1)], zk c m)) ⟨[zo, zo], _, rfl, ⟨trivial, trivial, trivial⟩⟩ rfl ?_
    obtain ⟨r4, hs4, q_4, f_4⟩ := S_K0_charAt_1F zn (d + 0) hN hC x2 m hIm (by omega) (by omega)
    refine zW.step (st1 := (15, [(some (.ref (z_RO + 1))), (some (.int (Int32.ofInt b))), (some (.int (Int32.ofInt x2)))], [.int (Int32.ofInt r4)], zk c m)) ⟨[zc (some (.int (Int32.ofInt r4))) (zk c m)], _, rfl, ⟨⟨(Nat.le_of_ble_eq_true rfl), hs4, (Nat.le_of_ble_eq_true rfl), Nat.le_refl _, Nat.le_refl _, Nat.le_refl _, Nat.le_refl _⟩, trivial⟩⟩ rfl ?_
    by_cases b5 : r4 = b
    · refine zW.step (st1 := (19, [(some (.ref (z_RO + 1))), (some (.int (Int32.ofInt b))), (some (.int (Int32.ofInt x2)))], [], zk c m)) (st2 := (19, [(some (.ref (z_RO + 1))), (some (.int (Int32.ofInt b))), (some (.int (Int32.ofInt x2)))], [], zk c m)) ⟨[zo, zo], _, rfl, ⟨trivial, zbf (fun q => q ((zi_eq rfl rfl (by unfold zR; omega) (by unfold zR; omega)).mpr b5)), trivial⟩⟩ rfl ?_
      refine zW.step (st1 := (20, [(some (.ref (z_RO + 1))), (some (.int (Int32.ofInt b))), (some (.int (Int32.ofInt x2)))], [.int (Int32.ofInt x2)], zk c m)) (st2 := (20, [(some (.ref (z_RO + 1))), (some (.int (Int32.ofInt b))), (some (.int (Int32.ofInt x2)))], [.int (Int32.ofInt x2)], zk c m)) ⟨[zo], _, rfl, ⟨trivial, trivial⟩⟩ rfl ?_
      exact zW.fin (zfin_i rfl rfl rfl) (KR _ _ ⟨x2, rfl, rfl, (by omega), (by omega)⟩)
    · refine zW.step (st1 := (21, [(some (.ref (z_RO + 1))), (some (.int (Int32.ofInt b))), (some (.int (Int32.ofInt x2)))], [], zk c m)) (st2 := (21, [(some (.ref (z_RO + 1))), (some (.int (Int32.ofInt b))), (some (.int (Int32.ofInt x2)))], [], zk c m)) ⟨[zo, zt], _, rfl, ⟨trivial, zbt (fun q => b5 ((zi_eq rfl rfl (by unfold zR; omega) (by unfold zR; omega)).mp q)), trivial⟩⟩ rfl ?_
      refine zW.step (st1 := (2, [(some (.ref (z_RO + 1))), (some (.int (Int32.ofInt b))), (some (.int ((Int32.ofInt x2) + Int32.ofInt 1)))], [], zk c m)) (st2 := (2, [(some (.ref (z_RO + 1))), (some (.int (Int32.ofInt b))), (some (.int (Int32.ofInt (x2 + 1))))], [], zk c m)) ⟨[zo, zo], _, rfl, ⟨trivial, trivial, trivial⟩⟩ (z_steq (z_c1 rfl (z_c1 rfl (z_c1 (z_si (zi_add rfl rfl)) rfl))) rfl rfl) ?_
      exact ih _ (by omega) (x2 + 1) (by omega) (by omega) rfl

set_option maxRecDepth 100000 in
set_option maxHeartbeats 4000000 in
theorem S_X12_placeOf_1F (zn : Bool) (d : Nat) {c : Nat × Nat} {mC : zM} {t9 : Int} {e9 : Nat} (hN : 107 ≤ c.1) (hC : c.1 < z_RO) (b : Int) (m : zM) (hIm : zJ mC t9 e9 m) (r_b : -2147483648 ≤ b ∧ b ≤ 2147483647) : zPi zn (d + 5) 263 [.ref (z_RO + 1), .int (Int32.ofInt b)] c m (fun (r : Int) => (-1 ≤ r ∧ r < 7) ∧ (r = zix zLs1 0 b)) := by
  refine zPi.of zu_X12_placeOf hC (Nat.le_of_ble_eq_true rfl) ?_
  show zW zn (d + 4) 263 c (0, [(some (.ref (z_RO + 1))), (some (.int (Int32.ofInt b))), none], [], zk c m) (fun v h1 => ∃ (r : Int), v = some (.int (Int32.ofInt r)) ∧ h1 = zk c m ∧ (-1 ≤ r ∧ r < 7) ∧ (r = zix zLs1 0 b))
  refine zW.step (st1 := (2, [(some (.ref (z_RO + 1))), (some (.int (Int32.ofInt b))), (some (.int (Int32.ofInt 0)))], [], zk c m)) (st2 := (2, [(some (.ref (z_RO + 1))), (some (.int (Int32.ofInt b))), (some (.int (Int32.ofInt 0)))], [], zk c m)) ⟨[zo, zo], _, rfl, ⟨trivial, trivial, trivial⟩⟩ rfl ?_
  refine L_X12_placeOf_1F_2 zn _ hN hC b r_b m hIm _ (fun v9 h9 hq9 => hq9) (fun x2_6 i1_6 J_6 e_6 => ?_) _ 0 (by omega) (by rfl) rfl
  refine zW.step (st1 := (28, [(some (.ref (z_RO + 1))), (some (.int (Int32.ofInt b))), (some (.int (Int32.ofInt x2_6)))], [.int (Int32.ofInt (-1))], zk c m)) (st2 := (28, [(some (.ref (z_RO + 1))), (some (.int (Int32.ofInt b))), (some (.int (Int32.ofInt x2_6)))], [.int (Int32.ofInt (-1))], zk c m)) ⟨[zo], _, rfl, ⟨trivial, trivial⟩⟩ rfl ?_
  exact zW.fin (zfin_i rfl rfl rfl) ⟨(-1), rfl, rfl, (by omega), (by omega)⟩

set_option maxRecDepth 100000 in
set_option maxHeartbeats 4000000 in
theorem S_K1_charAt_102F (zn : Bool) (d : Nat) {c : Nat × Nat} {mC : zM} {t9 : Int} {e9 : Nat} (hN : 107 ≤ c.1) (hC : c.1 < z_RO) (a : Int) (m : zM) (hIm : zJ mC t9 e9 m) (r_a : -2147483648 ≤ a ∧ a ≤ 2147483647) (ha : 0 ≤ a ∧ a < 2) : zPi zn (d + 3) 11 [.ref (z_RO + 102), .int (Int32.ofInt a)] c m (fun (r : Int) => (0 ≤ r ∧ r ≤ 122) ∧ (r = zbt9 2 (a).toNat)) := by
  refine zPi.of zu_J1_charAt_3b067 hC (Nat.le_of_ble_eq_true rfl) ?_
  show zW zn (d + 2) 11 c (0, [(some (.ref (z_RO + 102))), (some (.int (Int32.ofInt a)))], [], zk c m) (fun v h1 => ∃ (r : Int), v = some (.int (Int32.ofInt r)) ∧ h1 = zk c m ∧ (0 ≤ r ∧ r ≤ 122) ∧ (r = zbt9 2 (a).toNat))
  refine zW.step (st1 := (3, [(some (.ref (z_RO + 102))), (some (.int (Int32.ofInt a)))], [.int (Int32.ofNat 2), .int (Int32.ofInt a)], zk c m)) (st2 := (3, [(some (.ref (z_RO + 102))), (some (.int (Int32.ofInt a)))], [.int (Int32.ofInt 2), .int (Int32.ofInt a)], zk c m)) ⟨[zo, zo, zo], _, rfl, ⟨trivial, trivial, trivial, trivial⟩⟩ (z_steq rfl (z_c1 (z_vi (by decide : Int32.ofNat 2 = Int32.ofInt 2)) rfl) rfl) ?_
  obtain ⟨hs1, _⟩ := S_K0_checkIndex zn (d + 0) hN hC a 2 m hIm (by omega) (by omega) (by omega)
  refine zW.step (st1 := (6, [(some (.ref (z_RO + 102))), (some (.int (Int32.ofInt a)))], [], zk c m)) ⟨[zc (none) (zk c m)], _, rfl, ⟨⟨(Nat.le_of_ble_eq_true rfl), hs1, (Nat.le_of_ble_eq_true rfl), Nat.le_refl _, Nat.le_refl _, Nat.le_refl _, Nat.le_refl _⟩, trivial⟩⟩ rfl ?_
  have f2 := zbt9_b 2 a.toNat
  have f3 := zbt9_c 2 a.toNat (by decide) (by omega)
  have q4 := zb_255p (v := zbt9 2 a.toNat) (by omega)
  have f5 : (-2147483648 : Int) ≤ zb_and (zbt9 2 a.toNat) 255 ∧ zb_and (zbt9 2 a.toNat) 255 ≤ 2147483647 := zb_andR (zbt9 2 a.toNat) 255
  have f6 := zb_and255 (zbt9 2 a.toNat)
  have f7 := zb_and_le (a := zbt9 2 a.toNat) (b := 255) (by decide) (by decide)
  refine zW.step (st1 := (14, [(some (.ref (z_RO + 102))), (some (.int (Int32.ofInt a)))], [.int (((((z_byt.getD 2 []).getD (Int32.ofInt a).toNatClampNeg 0) &&& ((Int16.ofInt 255).toInt32)).toUInt32 % 65536).toInt32)], zk c m)) (st2 := (14, [(some (.ref (z_RO + 102))), (some (.int (Int32.ofInt a)))], [.int (Int32.ofInt ((zb_and (zbt9 2 a.toNat) 255) % 65536))], zk c m)) ⟨[zo, zo, zo, zo, zo, zo], _, rfl, ⟨trivial, trivial, (zi_in rfl (by omega) (by omega) (by decide) : vp_in (Int32.ofInt a) 2), trivial, trivial, trivial, trivial⟩⟩ (z_steq rfl (z_c1 (z_vi (zi_i2c (zi_and (zbt9_rd 2 rfl (by unfold zR; omega)) (by decide : (Int16.ofInt 255).toInt32 = Int32.ofInt 255)))) rfl) rfl) ?_
  exact zW.fin (zfin_i rfl rfl (z_narC rfl (by omega))) ⟨(zb_and (zbt9 2 a.toNat) 255) % 65536, rfl, rfl, (by omega), (by omega)⟩

set_option maxRecDepth 100000 in
set_option maxHeartbeats 4000000 in
theorem S_K0_charAt_2F (zn : Bool) (d : Nat) {c : Nat × Nat} {mC : zM} {t9 : Int} {e9 : Nat} (hN : 107 ≤ c.1) (hC : c.1 < z_RO) (a : Int) (m : zM) (hIm : zJ mC t9 e9 m) (r_a : -2147483648 ≤ a ∧ a ≤ 2147483647) (ha : 0 ≤ a ∧ a < 2) : zPi zn (d + 4) 2 [.ref (z_RO + 2), .int (Int32.ofInt a)] c m (fun (r : Int) => (0 ≤ r ∧ r ≤ 122) ∧ (r = zbt9 2 (a).toNat)) := by
  refine zPi.of zu_J0_charAt_5068e hC (Nat.le_of_ble_eq_true rfl) ?_
  show zW zn (d + 3) 2 c (0, [(some (.ref (z_RO + 2))), (some (.int (Int32.ofInt a)))], [], zk c m) (fun v h1 => ∃ (r : Int), v = some (.int (Int32.ofInt r)) ∧ h1 = zk c m ∧ (0 ≤ r ∧ r ≤ 122) ∧ (r = zbt9 2 (a).toNat))
  refine zW.step (st1 := (1, [(some (.ref (z_RO + 2))), (some (.int (Int32.ofInt a)))], [.ref (z_RO + 2)], zk c m)) (st2 := (1, [(some (.ref (z_RO + 2))), (some (.int (Int32.ofInt a)))], [.ref (z_RO + 2)], zk c m)) ⟨[zo], _, rfl, ⟨trivial, trivial⟩⟩ rfl ?_
  obtain ⟨r1, hs1, q_1⟩ := S_K0_isLatin1_2 zn (d + 2) hN hC m hIm
  subst q_1
  refine zW.step (st1 := (4, [(some (.ref (z_RO + 2))), (some (.int (Int32.ofInt a)))], [.int (Int32.ofInt 1)], zk c m)) ⟨[zc (some (.int (Int32.ofInt 1))) (zk c m)], _, rfl, ⟨⟨(Nat.le_of_ble_eq_true rfl), hs1, (Nat.le_of_ble_eq_true rfl), Nat.le_refl _, Nat.le_refl _, Nat.le_refl _, Nat.le_refl _⟩, trivial⟩⟩ rfl ?_
  have b2 : ¬ ((1 : Int) = 0) := by omega
  refine zW.step (st1 := (7, [(some (.ref (z_RO + 2))), (some (.int (Int32.ofInt a)))], [], zk c m)) (st2 := (7, [(some (.ref (z_RO + 2))), (some (.int (Int32.ofInt a)))], [], zk c m)) ⟨[zo], _, rfl, ⟨zbf (fun q => b2 ((zi_eq (by decide : Int32.ofInt 1 = Int32.ofInt 1) (rfl : (0 : Int32) = Int32.ofInt 0) (⟨by decide, by decide⟩ : zR 1) (⟨by decide, by decide⟩ : zR 0)).mp q)), trivial⟩⟩ rfl ?_
  refine zW.step (st1 := (12, [(some (.ref (z_RO + 2))), (some (.int (Int32.ofInt a)))], [.int (Int32.ofInt a), .ref (z_RO + 102)], zk c m)) (st2 := (12, [(some (.ref (z_RO + 2))), (some (.int (Int32.ofInt a)))], [.int (Int32.ofInt a), .ref (z_RO + 102)], zk c m)) ⟨[zo, zo, zo], _, rfl, ⟨trivial, trivial, trivial, trivial⟩⟩ rfl ?_
  obtain ⟨r3, hs3, q_3, f_3⟩ := S_K1_charAt_102F zn (d + 0) hN hC a m hIm (by omega) (by omega)
  refine zW.step (st1 := (15, [(some (.ref (z_RO + 2))), (some (.int (Int32.ofInt a)))], [.int (Int32.ofInt r3)], zk c m)) ⟨[zc (some (.int (Int32.ofInt r3))) (zk c m)], _, rfl, ⟨⟨(Nat.le_of_ble_eq_true rfl), hs3, (Nat.le_of_ble_eq_true rfl), Nat.le_refl _, Nat.le_refl _, Nat.le_refl _, Nat.le_refl _⟩, trivial⟩⟩ rfl ?_
  exact zW.fin (zfin_i rfl rfl (z_narC rfl (by omega))) ⟨r3, rfl, rfl, (by omega), (by omega)⟩

set_option maxRecDepth 100000 in
set_option maxHeartbeats 4000000 in
theorem L_X12_placeOf_2F_2 (zn : Bool) (d : Nat) {c : Nat × Nat} {mC : zM} {t9 : Int} {e9 : Nat} (hN : 107 ≤ c.1) (hC : c.1 < z_RO) (b : Int) (r_b : -2147483648 ≤ b ∧ b ≤ 2147483647) (m : zM) (hIm : zJ mC t9 e9 m) (Q : Option Value → z_H → Prop) (KR : ∀ v h1, (fun v h1 => ∃ (r : Int), v = some (.int (Int32.ofInt r)) ∧ h1 = zk c m ∧ (-1 ≤ r ∧ r < 2) ∧ (r = zix zLs2 0 b)) v h1 → Q v h1) (K : ∀ (x2 : Int), 0 ≤ x2 ∧ x2 ≤ 2 → zix zLs2 0 b = zix (zLs2.drop x2.toNat) x2 b → zix zLs2 0 b = -1 → zW zn (d + 4) 263 c (27, [(some (.ref (z_RO + 2))), (some (.int (Int32.ofInt b))), (some (.int (Int32.ofInt x2)))], [], zk c m) Q) :
    ∀ (w : Nat) (x2 : Int), 0 ≤ x2 ∧ x2 ≤ 2 → zix zLs2 0 b = zix (zLs2.drop x2.toNat) x2 b → w = (2 - x2).toNat → zW zn (d + 4) 263 c (2, [(some (.ref (z_RO + 2))), (some (.int (Int32.ofInt b))), (some (.int (Int32.ofInt x2)))], [], zk c m) Q := by
  intro w
  induction w using Nat.strongRecOn with | _ w ih => ?_
  intro x2 i1 J hw
  refine zW.step (st1 := (4, [(some (.ref (z_RO + 2))), (some (.int (Int32.ofInt b))), (some (.int (Int32.ofInt x2)))], [.ref (z_RO + 2), .int (Int32.ofInt x2)], zk c m)) (st2 := (4, [(some (.ref (z_RO + 2))), (some (.int (Int32.ofInt b))), (some (.int (Int32.ofInt x2)))], [.ref (z_RO + 2), .int (Int32.ofInt x2)], zk c m)) ⟨[zo, zo], _, rfl, ⟨trivial, trivial, trivial⟩⟩ rfl ?_
  obtain ⟨r1, hs1, q_1⟩ := S_K0_length_2 zn (d + 2) hN hC m hIm
  subst q_1
  refine zW.step (st1 := (7, [(some (.ref (z_RO + 2))), (some (.int (Int32.ofInt b))), (some (.int (Int32.ofInt x2)))], [.int (Int32.ofInt 2), .int (Int32.ofInt x2)], zk c m)) ⟨[zc (some (.int (Int32.ofInt 2))) (zk c m)], _, rfl, ⟨⟨(Nat.le_of_ble_eq_true rfl), hs1, (Nat.le_of_ble_eq_true rfl), Nat.le_refl _, Nat.le_refl _, Nat.le_refl _, Nat.le_refl _⟩, trivial⟩⟩ rfl ?_
  by_cases b2 : 2 ≤ x2
  · refine zW.step (st1 := (27, [(some (.ref (z_RO + 2))), (some (.int (Int32.ofInt b))), (some (.int (Int32.ofInt x2)))], [], zk c m)) (st2 := (27, [(some (.ref (z_RO + 2))), (some (.int (Int32.ofInt b))), (some (.int (Int32.ofInt x2)))], [], zk c m)) ⟨[zt], _, rfl, ⟨zbt ((zi_le (by decide : Int32.ofInt 2 = Int32.ofInt 2) rfl (⟨by decide, by decide⟩ : zR 2) (by unfold zR; omega)).mpr b2), trivial⟩⟩ rfl ?_
    exact K x2 (by omega) (by omega) (by have e9 : x2 = 2 := (by omega); rw [J, e9]; exact zix_2_e _)
  · refine zW.step (st1 := (10, [(some (.ref (z_RO + 2))), (some (.int (Int32.ofInt b))), (some (.int (Int32.ofInt x2)))], [], zk c m)) (st2 := (10, [(some (.ref (z_RO + 2))), (some (.int (Int32.ofInt b))), (some (.int (Int32.ofInt x2)))], [], zk c m)) ⟨[zo], _, rfl, ⟨zbf (fun q => b2 ((zi_le (by decide : Int32.ofInt 2 = Int32.ofInt 2) rfl (⟨by decide, by decide⟩ : zR 2) (by unfold zR; omega)).mp q)), trivial⟩⟩ rfl ?_
    have q3 := zix_2 x2 b (by omega)
    refine zW.step (st1 := (12, [(some (.ref (z_RO + 2))), (some (.int (Int32.ofInt b))), (some (.int (Int32.ofInt x2)))], [.int (Int32.ofInt x2), .ref (z_RO + 2)], zk c m)) (st2 := (12, [(some (.ref (z_RO + 2))), (some (.int (Int32.ofInt b))), (some (.int (Int32.ofInt x2)))], [.int (Int32.ofInt x2), .ref (z_RO + 2)], zk c m)) ⟨[zo, zo], _, rfl, ⟨trivial, trivial, trivial⟩⟩ rfl ?_
    obtain ⟨r4, hs4, q_4, f_4⟩ := S_K0_charAt_2F zn (d + 0) hN hC x2 m hIm (by omega) (by omega)
    refine zW.step (st1 := (15, [(some (.ref (z_RO + 2))), (some (.int (Int32.ofInt b))), (some (.int (Int32.ofInt x2)))], [.int (Int32.ofInt r4)], zk c m)) ⟨[zc (some (.int (Int32.ofInt r4))) (zk c m)], _, rfl, ⟨⟨(Nat.le_of_ble_eq_true rfl), hs4, (Nat.le_of_ble_eq_true rfl), Nat.le_refl _, Nat.le_refl _, Nat.le_refl _, Nat.le_refl _⟩, trivial⟩⟩ rfl ?_
    by_cases b5 : r4 = b
    · refine zW.step (st1 := (19, [(some (.ref (z_RO + 2))), (some (.int (Int32.ofInt b))), (some (.int (Int32.ofInt x2)))], [], zk c m)) (st2 := (19, [(some (.ref (z_RO + 2))), (some (.int (Int32.ofInt b))), (some (.int (Int32.ofInt x2)))], [], zk c m)) ⟨[zo, zo], _, rfl, ⟨trivial, zbf (fun q => q ((zi_eq rfl rfl (by unfold zR; omega) (by unfold zR; omega)).mpr b5)), trivial⟩⟩ rfl ?_
      refine zW.step (st1 := (20, [(some (.ref (z_RO + 2))), (some (.int (Int32.ofInt b))), (some (.int (Int32.ofInt x2)))], [.int (Int32.ofInt x2)], zk c m)) (st2 := (20, [(some (.ref (z_RO + 2))), (some (.int (Int32.ofInt b))), (some (.int (Int32.ofInt x2)))], [.int (Int32.ofInt x2)], zk c m)) ⟨[zo], _, rfl, ⟨trivial, trivial⟩⟩ rfl ?_
      exact zW.fin (zfin_i rfl rfl rfl) (KR _ _ ⟨x2, rfl, rfl, (by omega), (by omega)⟩)
    · refine zW.step (st1 := (21, [(some (.ref (z_RO + 2))), (some (.int (Int32.ofInt b))), (some (.int (Int32.ofInt x2)))], [], zk c m)) (st2 := (21, [(some (.ref (z_RO + 2))), (some (.int (Int32.ofInt b))), (some (.int (Int32.ofInt x2)))], [], zk c m)) ⟨[zo, zt], _, rfl, ⟨trivial, zbt (fun q => b5 ((zi_eq rfl rfl (by unfold zR; omega) (by unfold zR; omega)).mp q)), trivial⟩⟩ rfl ?_
      refine zW.step (st1 := (2, [(some (.ref (z_RO + 2))), (some (.int (Int32.ofInt b))), (some (.int ((Int32.ofInt x2) + Int32.ofInt 1)))], [], zk c m)) (st2 := (2, [(some (.ref (z_RO + 2))), (some (.int (Int32.ofInt b))), (some (.int (Int32.ofInt (x2 + 1))))], [], zk c m)) ⟨[zo, zo], _, rfl, ⟨trivial, trivial, trivial⟩⟩ (z_steq (z_c1 rfl (z_c1 rfl (z_c1 (z_si (zi_add rfl rfl)) rfl))) rfl rfl) ?_
      exact ih _ (by omega) (x2 + 1) (by omega) (by omega) rfl

set_option maxRecDepth 100000 in
set_option maxHeartbeats 4000000 in
theorem S_X12_placeOf_2F (zn : Bool) (d : Nat) {c : Nat × Nat} {mC : zM} {t9 : Int} {e9 : Nat} (hN : 107 ≤ c.1) (hC : c.1 < z_RO) (b : Int) (m : zM) (hIm : zJ mC t9 e9 m) (r_b : -2147483648 ≤ b ∧ b ≤ 2147483647) : zPi zn (d + 5) 263 [.ref (z_RO + 2), .int (Int32.ofInt b)] c m (fun (r : Int) => (-1 ≤ r ∧ r < 2) ∧ (r = zix zLs2 0 b)) := by
  refine zPi.of zu_X12_placeOf hC (Nat.le_of_ble_eq_true rfl) ?_
  show zW zn (d + 4) 263 c (0, [(some (.ref (z_RO + 2))), (some (.int (Int32.ofInt b))), none], [], zk c m) (fun v h1 => ∃ (r : Int), v = some (.int (Int32.ofInt r)) ∧ h1 = zk c m ∧ (-1 ≤ r ∧ r < 2) ∧ (r = zix zLs2 0 b))
  refine zW.step (st1 := (2, [(some (.ref (z_RO + 2))), (some (.int (Int32.ofInt b))), (some (.int (Int32.ofInt 0)))], [], zk c m)) (st2 := (2, [(some (.ref (z_RO + 2))), (some (.int (Int32.ofInt b))), (some (.int (Int32.ofInt 0)))], [], zk c m)) ⟨[zo, zo], _, rfl, ⟨trivial, trivial, trivial⟩⟩ rfl ?_
  refine L_X12_placeOf_2F_2 zn _ hN hC b r_b m hIm _ (fun v9 h9 hq9 => hq9) (fun x2_6 i1_6 J_6 e_6 => ?_) _ 0 (by omega) (by rfl) rfl
  refine zW.step (st1 := (28, [(some (.ref (z_RO + 2))), (some (.int (Int32.ofInt b))), (some (.int (Int32.ofInt x2_6)))], [.int (Int32.ofInt (-1))], zk c m)) (st2 := (28, [(some (.ref (z_RO + 2))), (some (.int (Int32.ofInt b))), (some (.int (Int32.ofInt x2_6)))], [.int (Int32.ofInt (-1))], zk c m)) ⟨[zo], _, rfl, ⟨trivial, trivial⟩⟩ rfl ?_
  exact zW.fin (zfin_i rfl rfl rfl) ⟨(-1), rfl, rfl, (by omega), (by omega)⟩

set_option maxRecDepth 100000 in
set_option maxHeartbeats 4000000 in
theorem S_K1_charAt_103F (zn : Bool) (d : Nat) {c : Nat × Nat} {mC : zM} {t9 : Int} {e9 : Nat} (hN : 107 ≤ c.1) (hC : c.1 < z_RO) (a : Int) (m : zM) (hIm : zJ mC t9 e9 m) (r_a : -2147483648 ≤ a ∧ a ≤ 2147483647) (ha : 0 ≤ a ∧ a < 6) : zPi zn (d + 3) 11 [.ref (z_RO + 103), .int (Int32.ofInt a)] c m (fun (r : Int) => (0 ≤ r ∧ r ≤ 122) ∧ (r = zbt9 3 (a).toNat)) := by
  refine zPi.of zu_J1_charAt_3b067 hC (Nat.le_of_ble_eq_true rfl) ?_
  show zW zn (d + 2) 11 c (0, [(some (.ref (z_RO + 103))), (some (.int (Int32.ofInt a)))], [], zk c m) (fun v h1 => ∃ (r : Int), v = some (.int (Int32.ofInt r)) ∧ h1 = zk c m ∧ (0 ≤ r ∧ r ≤ 122) ∧ (r = zbt9 3 (a).toNat))
  refine zW.step (st1 := (3, [(some (.ref (z_RO + 103))), (some (.int (Int32.ofInt a)))], [.int (Int32.ofNat 6), .int (Int32.ofInt a)], zk c m)) (st2 := (3, [(some (.ref (z_RO + 103))), (some (.int (Int32.ofInt a)))], [.int (Int32.ofInt 6), .int (Int32.ofInt a)], zk c m)) ⟨[zo, zo, zo], _, rfl, ⟨trivial, trivial, trivial, trivial⟩⟩ (z_steq rfl (z_c1 (z_vi (by decide : Int32.ofNat 6 = Int32.ofInt 6)) rfl) rfl) ?_
  obtain ⟨hs1, _⟩ := S_K0_checkIndex zn (d + 0) hN hC a 6 m hIm (by omega) (by omega) (by omega)
  refine zW.step (st1 := (6, [(some (.ref (z_RO + 103))), (some (.int (Int32.ofInt a)))], [], zk c m)) ⟨[zc (none) (zk c m)], _, rfl, ⟨⟨(Nat.le_of_ble_eq_true rfl), hs1, (Nat.le_of_ble_eq_true rfl), Nat.le_refl _, Nat.le_refl _, Nat.le_refl _, Nat.le_refl _⟩, trivial⟩⟩ rfl ?_
  have f2 := zbt9_b 3 a.toNat
  have f3 := zbt9_c 3 a.toNat (by decide) (by omega)
  have q4 := zb_255p (v := zbt9 3 a.toNat) (by omega)
  have f5 : (-2147483648 : Int) ≤ zb_and (zbt9 3 a.toNat) 255 ∧ zb_and (zbt9 3 a.toNat) 255 ≤ 2147483647 := zb_andR (zbt9 3 a.toNat) 255
  have f6 := zb_and255 (zbt9 3 a.toNat)
  have f7 := zb_and_le (a := zbt9 3 a.toNat) (b := 255) (by decide) (by decide)
  refine zW.step (st1 := (14, [(some (.ref (z_RO + 103))), (some (.int (Int32.ofInt a)))], [.int (((((z_byt.getD 3 []).getD (Int32.ofInt a).toNatClampNeg 0) &&& ((Int16.ofInt 255).toInt32)).toUInt32 % 65536).toInt32)], zk c m)) (st2 := (14, [(some (.ref (z_RO + 103))), (some (.int (Int32.ofInt a)))], [.int (Int32.ofInt ((zb_and (zbt9 3 a.toNat) 255) % 65536))], zk c m)) ⟨[zo, zo, zo, zo, zo, zo], _, rfl, ⟨trivial, trivial, (zi_in rfl (by omega) (by omega) (by decide) : vp_in (Int32.ofInt a) 6), trivial, trivial, trivial, trivial⟩⟩ (z_steq rfl (z_c1 (z_vi (zi_i2c (zi_and (zbt9_rd 3 rfl (by unfold zR; omega)) (by decide : (Int16.ofInt 255).toInt32 = Int32.ofInt 255)))) rfl) rfl) ?_
  exact zW.fin (zfin_i rfl rfl (z_narC rfl (by omega))) ⟨(zb_and (zbt9 3 a.toNat) 255) % 65536, rfl, rfl, (by omega), (by omega)⟩

set_option maxRecDepth 100000 in
set_option maxHeartbeats 4000000 in
theorem S_K0_charAt_3F (zn : Bool) (d : Nat) {c : Nat × Nat} {mC : zM} {t9 : Int} {e9 : Nat} (hN : 107 ≤ c.1) (hC : c.1 < z_RO) (a : Int) (m : zM) (hIm : zJ mC t9 e9 m) (r_a : -2147483648 ≤ a ∧ a ≤ 2147483647) (ha : 0 ≤ a ∧ a < 6) : zPi zn (d + 4) 2 [.ref (z_RO + 3), .int (Int32.ofInt a)] c m (fun (r : Int) => (0 ≤ r ∧ r ≤ 122) ∧ (r = zbt9 3 (a).toNat)) := by
  refine zPi.of zu_J0_charAt_5068e hC (Nat.le_of_ble_eq_true rfl) ?_
  show zW zn (d + 3) 2 c (0, [(some (.ref (z_RO + 3))), (some (.int (Int32.ofInt a)))], [], zk c m) (fun v h1 => ∃ (r : Int), v = some (.int (Int32.ofInt r)) ∧ h1 = zk c m ∧ (0 ≤ r ∧ r ≤ 122) ∧ (r = zbt9 3 (a).toNat))
  refine zW.step (st1 := (1, [(some (.ref (z_RO + 3))), (some (.int (Int32.ofInt a)))], [.ref (z_RO + 3)], zk c m)) (st2 := (1, [(some (.ref (z_RO + 3))), (some (.int (Int32.ofInt a)))], [.ref (z_RO + 3)], zk c m)) ⟨[zo], _, rfl, ⟨trivial, trivial⟩⟩ rfl ?_
  obtain ⟨r1, hs1, q_1⟩ := S_K0_isLatin1_3 zn (d + 2) hN hC m hIm
  subst q_1
  refine zW.step (st1 := (4, [(some (.ref (z_RO + 3))), (some (.int (Int32.ofInt a)))], [.int (Int32.ofInt 1)], zk c m)) ⟨[zc (some (.int (Int32.ofInt 1))) (zk c m)], _, rfl, ⟨⟨(Nat.le_of_ble_eq_true rfl), hs1, (Nat.le_of_ble_eq_true rfl), Nat.le_refl _, Nat.le_refl _, Nat.le_refl _, Nat.le_refl _⟩, trivial⟩⟩ rfl ?_
  have b2 : ¬ ((1 : Int) = 0) := by omega
  refine zW.step (st1 := (7, [(some (.ref (z_RO + 3))), (some (.int (Int32.ofInt a)))], [], zk c m)) (st2 := (7, [(some (.ref (z_RO + 3))), (some (.int (Int32.ofInt a)))], [], zk c m)) ⟨[zo], _, rfl, ⟨zbf (fun q => b2 ((zi_eq (by decide : Int32.ofInt 1 = Int32.ofInt 1) (rfl : (0 : Int32) = Int32.ofInt 0) (⟨by decide, by decide⟩ : zR 1) (⟨by decide, by decide⟩ : zR 0)).mp q)), trivial⟩⟩ rfl ?_
  refine zW.step (st1 := (12, [(some (.ref (z_RO + 3))), (some (.int (Int32.ofInt a)))], [.int (Int32.ofInt a), .ref (z_RO + 103)], zk c m)) (st2 := (12, [(some (.ref (z_RO + 3))), (some (.int (Int32.ofInt a)))], [.int (Int32.ofInt a), .ref (z_RO + 103)], zk c m)) ⟨[zo, zo, zo], _, rfl, ⟨trivial, trivial, trivial, trivial⟩⟩ rfl ?_
  obtain ⟨r3, hs3, q_3, f_3⟩ := S_K1_charAt_103F zn (d + 0) hN hC a m hIm (by omega) (by omega)
  refine zW.step (st1 := (15, [(some (.ref (z_RO + 3))), (some (.int (Int32.ofInt a)))], [.int (Int32.ofInt r3)], zk c m)) ⟨[zc (some (.int (Int32.ofInt r3))) (zk c m)], _, rfl, ⟨⟨(Nat.le_of_ble_eq_true rfl), hs3, (Nat.le_of_ble_eq_true rfl), Nat.le_refl _, Nat.le_refl _, Nat.le_refl _, Nat.le_refl _⟩, trivial⟩⟩ rfl ?_
  exact zW.fin (zfin_i rfl rfl (z_narC rfl (by omega))) ⟨r3, rfl, rfl, (by omega), (by omega)⟩

set_option maxRecDepth 100000 in
set_option maxHeartbeats 4000000 in
theorem L_X12_isAmong_3F_2 (zn : Bool) (d : Nat) {c : Nat × Nat} {mC : zM} {t9 : Int} {e9 : Nat} (hN : 107 ≤ c.1) (hC : c.1 < z_RO) (b : Int) (r_b : -2147483648 ≤ b ∧ b ≤ 2147483647) (m : zM) (hIm : zJ mC t9 e9 m) (Q : Option Value → z_H → Prop) (KR : ∀ v h1, (fun v h1 => ∃ (r : Int), v = some (.int (Int32.ofInt r)) ∧ h1 = zk c m ∧ (0 ≤ r ∧ r ≤ 1) ∧ (r = 1 → 0 ≤ b ∧ b ≤ 122) ∧ (r = 1 ↔ zix zLs3 0 b ≠ -1)) v h1 → Q v h1) (K : ∀ (x2 : Int), 0 ≤ x2 ∧ x2 ≤ 6 → zix zLs3 0 b = zix (zLs3.drop x2.toNat) x2 b → zix zLs3 0 b = -1 → zW zn (d + 4) 231 c (27, [(some (.ref (z_RO + 3))), (some (.int (Int32.ofInt b))), (some (.int (Int32.ofInt x2)))], [], zk c m) Q) :
    ∀ (w : Nat) (x2 : Int), 0 ≤ x2 ∧ x2 ≤ 6 → zix zLs3 0 b = zix (zLs3.drop x2.toNat) x2 b → w = (6 - x2).toNat → zW zn (d + 4) 231 c (2, [(some (.ref (z_RO + 3))), (some (.int (Int32.ofInt b))), (some (.int (Int32.ofInt x2)))], [], zk c m) Q := by
  intro w
  induction w using Nat.strongRecOn with | _ w ih => ?_
  intro x2 i1 J hw
  refine zW.step (st1 := (4, [(some (.ref (z_RO + 3))), (some (.int (Int32.ofInt b))), (some (.int (Int32.ofInt x2)))], [.ref (z_RO + 3), .int (Int32.ofInt x2)], zk c m)) (st2 := (4, [(some (.ref (z_RO + 3))), (some (.int (Int32.ofInt b))), (some (.int (Int32.ofInt x2)))], [.ref (z_RO + 3), .int (Int32.ofInt x2)], zk c m)) ⟨[zo, zo], _, rfl, ⟨trivial, trivial, trivial⟩⟩ rfl ?_
  obtain ⟨r1, hs1, q_1⟩ := S_K0_length_3 zn (d + 2) hN hC m hIm
  subst q_1
  refine zW.step (st1 := (7, [(some (.ref (z_RO + 3))), (some (.int (Int32.ofInt b))), (some (.int (Int32.ofInt x2)))], [.int (Int32.ofInt 6), .int (Int32.ofInt x2)], zk c m)) ⟨[zc (some (.int (Int32.ofInt 6))) (zk c m)], _, rfl, ⟨⟨(Nat.le_of_ble_eq_true rfl), hs1, (Nat.le_of_ble_eq_true rfl), Nat.le_refl _, Nat.le_refl _, Nat.le_refl _, Nat.le_refl _⟩, trivial⟩⟩ rfl ?_
  by_cases b2 : 6 ≤ x2
  · refine zW.step (st1 := (27, [(some (.ref (z_RO + 3))), (some (.int (Int32.ofInt b))), (some (.int (Int32.ofInt x2)))], [], zk c m)) (st2 := (27, [(some (.ref (z_RO + 3))), (some (.int (Int32.ofInt b))), (some (.int (Int32.ofInt x2)))], [], zk c m)) ⟨[zt], _, rfl, ⟨zbt ((zi_le (by decide : Int32.ofInt 6 = Int32.ofInt 6) rfl (⟨by decide, by decide⟩ : zR 6) (by unfold zR; omega)).mpr b2), trivial⟩⟩ rfl ?_
    exact K x2 (by omega) (by omega) (by have e9 : x2 = 6 := (by omega); rw [J, e9]; exact zix_3_e _)
  · refine zW.step (st1 := (10, [(some (.ref (z_RO + 3))), (some (.int (Int32.ofInt b))), (some (.int (Int32.ofInt x2)))], [], zk c m)) (st2 := (10, [(some (.ref (z_RO + 3))), (some (.int (Int32.ofInt b))), (some (.int (Int32.ofInt x2)))], [], zk c m)) ⟨[zo], _, rfl, ⟨zbf (fun q => b2 ((zi_le (by decide : Int32.ofInt 6 = Int32.ofInt 6) rfl (⟨by decide, by decide⟩ : zR 6) (by unfold zR; omega)).mp q)), trivial⟩⟩ rfl ?_
    have q3 := zix_3 x2 b (by omega)
    refine zW.step (st1 := (12, [(some (.ref (z_RO + 3))), (some (.int (Int32.ofInt b))), (some (.int (Int32.ofInt x2)))], [.int (Int32.ofInt x2), .ref (z_RO + 3)], zk c m)) (st2 := (12, [(some (.ref (z_RO + 3))), (some (.int (Int32.ofInt b))), (some (.int (Int32.ofInt x2)))], [.int (Int32.ofInt x2), .ref (z_RO + 3)], zk c m)) ⟨[zo, zo], _, rfl, ⟨trivial, trivial, trivial⟩⟩ rfl ?_
    obtain ⟨r4, hs4, q_4, f_4⟩ := S_K0_charAt_3F zn (d + 0) hN hC x2 m hIm (by omega) (by omega)
    refine zW.step (st1 := (15, [(some (.ref (z_RO + 3))), (some (.int (Int32.ofInt b))), (some (.int (Int32.ofInt x2)))], [.int (Int32.ofInt r4)], zk c m)) ⟨[zc (some (.int (Int32.ofInt r4))) (zk c m)], _, rfl, ⟨⟨(Nat.le_of_ble_eq_true rfl), hs4, (Nat.le_of_ble_eq_true rfl), Nat.le_refl _, Nat.le_refl _, Nat.le_refl _, Nat.le_refl _⟩, trivial⟩⟩ rfl ?_
    by_cases b5 : r4 = b
    · refine zW.step (st1 := (19, [(some (.ref (z_RO + 3))), (some (.int (Int32.ofInt b))), (some (.int (Int32.ofInt x2)))], [], zk c m)) (st2 := (19, [(some (.ref (z_RO + 3))), (some (.int (Int32.ofInt b))), (some (.int (Int32.ofInt x2)))], [], zk c m)) ⟨[zo, zo], _, rfl, ⟨trivial, zbf (fun q => q ((zi_eq rfl rfl (by unfold zR; omega) (by unfold zR; omega)).mpr b5)), trivial⟩⟩ rfl ?_
      refine zW.step (st1 := (20, [(some (.ref (z_RO + 3))), (some (.int (Int32.ofInt b))), (some (.int (Int32.ofInt x2)))], [.int (Int32.ofInt 1)], zk c m)) (st2 := (20, [(some (.ref (z_RO + 3))), (some (.int (Int32.ofInt b))), (some (.int (Int32.ofInt x2)))], [.int (Int32.ofInt 1)], zk c m)) ⟨[zo], _, rfl, ⟨trivial, trivial⟩⟩ rfl ?_
      exact zW.fin (zfin_i rfl rfl rfl) (KR _ _ ⟨1, rfl, rfl, (by omega), (by omega), (by omega)⟩)
    · refine zW.step (st1 := (21, [(some (.ref (z_RO + 3))), (some (.int (Int32.ofInt b))), (some (.int (Int32.ofInt x2)))], [], zk c m)) (st2 := (21, [(some (.ref (z_RO + 3))), (some (.int (Int32.ofInt b))), (some (.int (Int32.ofInt x2)))], [], zk c m)) ⟨[zo, zt], _, rfl, ⟨trivial, zbt (fun q => b5 ((zi_eq rfl rfl (by unfold zR; omega) (by unfold zR; omega)).mp q)), trivial⟩⟩ rfl ?_
      refine zW.step (st1 := (2, [(some (.ref (z_RO + 3))), (some (.int (Int32.ofInt b))), (some (.int ((Int32.ofInt x2) + Int32.ofInt 1)))], [], zk c m)) (st2 := (2, [(some (.ref (z_RO + 3))), (some (.int (Int32.ofInt b))), (some (.int (Int32.ofInt (x2 + 1))))], [], zk c m)) ⟨[zo, zo], _, rfl, ⟨trivial, trivial, trivial⟩⟩ (z_steq (z_c1 rfl (z_c1 rfl (z_c1 (z_si (zi_add rfl rfl)) rfl))) rfl rfl) ?_
      exact ih _ (by omega) (x2 + 1) (by omega) (by omega) rfl

set_option maxRecDepth 100000 in
set_option maxHeartbeats 4000000 in
theorem S_X12_isAmong_3F (zn : Bool) (d : Nat) {c : Nat × Nat} {mC : zM} {t9 : Int} {e9 : Nat} (hN : 107 ≤ c.1) (hC : c.1 < z_RO) (b : Int) (m : zM) (hIm : zJ mC t9 e9 m) (r_b : -2147483648 ≤ b ∧ b ≤ 2147483647) : zPi zn (d + 5) 231 [.ref (z_RO + 3), .int (Int32.ofInt b)] c m (fun (r : Int) => (0 ≤ r ∧ r ≤ 1) ∧ (r = 1 → 0 ≤ b ∧ b ≤ 122) ∧ (r = 1 ↔ zix zLs3 0 b ≠ -1)) := by
  refine zPi.of zu_X12_isAmong hC (Nat.le_of_ble_eq_true rfl) ?_
  show zW zn (d + 4) 231 c (0, [(some (.ref (z_RO + 3))), (some (.int (Int32.ofInt b))), none], [], zk c m) (fun v h1 => ∃ (r : Int), v = some (.int (Int32.ofInt r)) ∧ h1 = zk c m ∧ (0 ≤ r ∧ r ≤ 1) ∧ (r = 1 → 0 ≤ b ∧ b ≤ 122) ∧ (r = 1 ↔ zix zLs3 0 b ≠ -1))
  refine zW.step (st1 := (2, [(some (.ref (z_RO + 3))), (some (.int (Int32.ofInt b))), (some (.int (Int32.ofInt 0)))], [], zk c m)) (st2 := (2, [(some (.ref (z_RO + 3))), (some (.int (Int32.ofInt b))), (some (.int (Int32.ofInt 0)))], [], zk c m)) ⟨[zo, zo], _, rfl, ⟨trivial, trivial, trivial⟩⟩ rfl ?_
  refine L_X12_isAmong_3F_2 zn _ hN hC b r_b m hIm _ (fun v9 h9 hq9 => hq9) (fun x2_6 i1_6 J_6 e_6 => ?_) _ 0 (by omega) (by rfl) rfl
  refine zW.step (st1 := (28, [(some (.ref (z_RO + 3))), (some (.int (Int32.ofInt b))), (some (.int (Int32.ofInt x2_6)))], [.int (Int32.ofInt 0)], zk c m)) (st2 := (28, [(some (.ref (z_RO + 3))), (some (.int (Int32.ofInt b))), (some (.int (Int32.ofInt x2_6)))], [.int (Int32.ofInt 0)], zk c m)) ⟨[zo], _, rfl, ⟨trivial, trivial⟩⟩ rfl ?_
  exact zW.fin (zfin_i rfl rfl rfl) ⟨0, rfl, rfl, (by omega), (by omega), (by omega)⟩

set_option maxRecDepth 100000 in
set_option maxHeartbeats 4000000 in
theorem S_K1_charAt_105F (zn : Bool) (d : Nat) {c : Nat × Nat} {mC : zM} {t9 : Int} {e9 : Nat} (hN : 107 ≤ c.1) (hC : c.1 < z_RO) (a : Int) (m : zM) (hIm : zJ mC t9 e9 m) (r_a : -2147483648 ≤ a ∧ a ≤ 2147483647) (ha : 0 ≤ a ∧ a < 1) : zPi zn (d + 3) 11 [.ref (z_RO + 105), .int (Int32.ofInt a)] c m (fun (r : Int) => (0 ≤ r ∧ r ≤ 122) ∧ (r = zbt9 5 (a).toNat)) := by
  refine zPi.of zu_J1_charAt_3b067 hC (Nat.le_of_ble_eq_true rfl) ?_
  show zW zn (d + 2) 11 c (0, [(some (.ref (z_RO + 105))), (some (.int (Int32.ofInt a)))], [], zk c m) (fun v h1 => ∃ (r : Int), v = some (.int (Int32.ofInt r)) ∧ h1 = zk c m ∧ (0 ≤ r ∧ r ≤ 122) ∧ (r = zbt9 5 (a).toNat))
  refine zW.step (st1 := (3, [(some (.ref (z_RO + 105))), (some (.int (Int32.ofInt a)))], [.int (Int32.ofNat 1), .int (Int32.ofInt a)], zk c m)) (st2 := (3, [(some (.ref (z_RO + 105))), (some (.int (Int32.ofInt a)))], [.int (Int32.ofInt 1), .int (Int32.ofInt a)], zk c m)) ⟨[zo, zo, zo], _, rfl, ⟨trivial, trivial, trivial, trivial⟩⟩ (z_steq rfl (z_c1 (z_vi (by decide : Int32.ofNat 1 = Int32.ofInt 1)) rfl) rfl) ?_
  obtain ⟨hs1, _⟩ := S_K0_checkIndex zn (d + 0) hN hC a 1 m hIm (by omega) (by omega) (by omega)
  refine zW.step (st1 := (6, [(some (.ref (z_RO + 105))), (some (.int (Int32.ofInt a)))], [], zk c m)) ⟨[zc (none) (zk c m)], _, rfl, ⟨⟨(Nat.le_of_ble_eq_true rfl), hs1, (Nat.le_of_ble_eq_true rfl), Nat.le_refl _, Nat.le_refl _, Nat.le_refl _, Nat.le_refl _⟩, trivial⟩⟩ rfl ?_
  have f2 := zbt9_b 5 a.toNat
  have f3 := zbt9_c 5 a.toNat (by decide) (by omega)
  have q4 := zb_255p (v := zbt9 5 a.toNat) (by omega)
  have f5 : (-2147483648 : Int) ≤ zb_and (zbt9 5 a.toNat) 255 ∧ zb_and (zbt9 5 a.toNat) 255 ≤ 2147483647 := zb_andR (zbt9 5 a.toNat) 255
  have f6 := zb_and255 (zbt9 5 a.toNat)
  have f7 := zb_and_le (a := zbt9 5 a.toNat) (b := 255) (by decide) (by decide)
  refine zW.step (st1 := (14, [(some (.ref (z_RO + 105))), (some (.int (Int32.ofInt a)))], [.int (((((z_byt.getD 5 []).getD (Int32.ofInt a).toNatClampNeg 0) &&& ((Int16.ofInt 255).toInt32)).toUInt32 % 65536).toInt32)], zk c m)) (st2 := (14, [(some (.ref (z_RO + 105))), (some (.int (Int32.ofInt a)))], [.int (Int32.ofInt ((zb_and (zbt9 5 a.toNat) 255) % 65536))], zk c m)) ⟨[zo, zo, zo, zo, zo, zo], _, rfl, ⟨trivial, trivial, (zi_in rfl (by omega) (by omega) (by decide) : vp_in (Int32.ofInt a) 1), trivial, trivial, trivial, trivial⟩⟩ (z_steq rfl (z_c1 (z_vi (zi_i2c (zi_and (zbt9_rd 5 rfl (by unfold zR; omega)) (by decide : (Int16.ofInt 255).toInt32 = Int32.ofInt 255)))) rfl) rfl) ?_
  exact zW.fin (zfin_i rfl rfl (z_narC rfl (by omega))) ⟨(zb_and (zbt9 5 a.toNat) 255) % 65536, rfl, rfl, (by omega), (by omega)⟩

set_option maxRecDepth 100000 in
set_option maxHeartbeats 4000000 in
theorem S_K0_charAt_5F (zn : Bool) (d : Nat) {c : Nat × Nat} {mC : zM} {t9 : Int} {e9 : Nat} (hN : 107 ≤ c.1) (hC : c.1 < z_RO) (a : Int) (m : zM) (hIm : zJ mC t9 e9 m) (r_a : -2147483648 ≤ a ∧ a ≤ 2147483647) (ha : 0 ≤ a ∧ a < 1) : zPi zn (d + 4) 2 [.ref (z_RO + 5), .int (Int32.ofInt a)] c m (fun (r : Int) => (0 ≤ r ∧ r ≤ 122) ∧ (r = zbt9 5 (a).toNat)) := by
  refine zPi.of zu_J0_charAt_5068e hC (Nat.le_of_ble_eq_true rfl) ?_
  show zW zn (d + 3) 2 c (0, [(some (.ref (z_RO + 5))), (some (.int (Int32.ofInt a)))], [], zk c m) (fun v h1 => ∃ (r : Int), v = some (.int (Int32.ofInt r)) ∧ h1 = zk c m ∧ (0 ≤ r ∧ r ≤ 122) ∧ (r = zbt9 5 (a).toNat))
  refine zW.step (st1 := (1, [(some (.ref (z_RO + 5))), (some (.int (Int32.ofInt a)))], [.ref (z_RO + 5)], zk c m)) (st2 := (1, [(some (.ref (z_RO + 5))), (some (.int (Int32.ofInt a)))], [.ref (z_RO + 5)], zk c m)) ⟨[zo], _, rfl, ⟨trivial, trivial⟩⟩ rfl ?_
  obtain ⟨r1, hs1, q_1⟩ := S_K0_isLatin1_5 zn (d + 2) hN hC m hIm
  subst q_1
  refine zW.step (st1 := (4, [(some (.ref (z_RO + 5))), (some (.int (Int32.ofInt a)))], [.int (Int32.ofInt 1)], zk c m)) ⟨[zc (some (.int (Int32.ofInt 1))) (zk c m)], _, rfl, ⟨⟨(Nat.le_of_ble_eq_true rfl), hs1, (Nat.le_of_ble_eq_true rfl), Nat.le_refl _, Nat.le_refl _, Nat.le_refl _, Nat.le_refl _⟩, trivial⟩⟩ rfl ?_
  have b2 : ¬ ((1 : Int) = 0) := by omega
  refine zW.step (st1 := (7, [(some (.ref (z_RO + 5))), (some (.int (Int32.ofInt a)))], [], zk c m)) (st2 := (7, [(some (.ref (z_RO + 5))), (some (.int (Int32.ofInt a)))], [], zk c m)) ⟨[zo], _, rfl, ⟨zbf (fun q => b2 ((zi_eq (by decide : Int32.ofInt 1 = Int32.ofInt 1) (rfl : (0 : Int32) = Int32.ofInt 0) (⟨by decide, by decide⟩ : zR 1) (⟨by decide, by decide⟩ : zR 0)).mp q)), trivial⟩⟩ rfl ?_
  refine zW.step (st1 := (12, [(some (.ref (z_RO + 5))), (some (.int (Int32.ofInt a)))], [.int (Int32.ofInt a), .ref (z_RO + 105)], zk c m)) (st2 := (12, [(some (.ref (z_RO + 5))), (some (.int (Int32.ofInt a)))], [.int (Int32.ofInt a), .ref (z_RO + 105)], zk c m)) ⟨[zo, zo, zo], _, rfl, ⟨trivial, trivial, trivial, trivial⟩⟩ rfl ?_
  obtain ⟨r3, hs3, q_3, f_3⟩ := S_K1_charAt_105F zn (d + 0) hN hC a m hIm (by omega) (by omega)
  refine zW.step (st1 := (15, [(some (.ref (z_RO + 5))), (some (.int (Int32.ofInt a)))], [.int (Int32.ofInt r3)], zk c m)) ⟨[zc (some (.int (Int32.ofInt r3))) (zk c m)], _, rfl, ⟨⟨(Nat.le_of_ble_eq_true rfl), hs3, (Nat.le_of_ble_eq_true rfl), Nat.le_refl _, Nat.le_refl _, Nat.le_refl _, Nat.le_refl _⟩, trivial⟩⟩ rfl ?_
  exact zW.fin (zfin_i rfl rfl (z_narC rfl (by omega))) ⟨r3, rfl, rfl, (by omega), (by omega)⟩

