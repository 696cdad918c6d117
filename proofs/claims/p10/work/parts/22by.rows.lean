/-! what methods do over memory, by program (wip/tools/gw): X12_text -/
set_option maxRecDepth 100000 in
set_option maxHeartbeats 4000000 in
theorem L_X12_text_56 (zn : Bool) (d : Nat) {c : Nat × Nat} {mC : zM} {t9 : Int} (hN : 107 ≤ c.1) (hC : c.1 < z_RO) (sort : Int) (r_sort : -2147483648 ≤ sort ∧ sort ≤ 2147483647) (ht : 0 ≤ t9 ∧ t9 ≤ 999990000) (x2 : Int) (m0 : zM) (Q : Option Value → z_H → Prop) (K : ∀ (x3 : Int) (m : zM), zJ mC t9 0 m → 0 ≤ x3 ∧ x3 ≤ 240 ∧ 0 ≤ x2 ∧ x2 ≤ 240 → m 79 7 ≤ 3 → zW zn (d + 33) 288 c (88, [(some (.ref 79)), (some (.int (Int32.ofInt sort))), (some (.int (Int32.ofInt x2))), (some (.int (Int32.ofInt x3))), none], [], zk c m) Q) :
    ∀ (w : Nat) (x3 : Int) (m : zM), zJ mC t9 0 m → 0 ≤ x3 ∧ x3 ≤ 240 ∧ 0 ≤ x2 ∧ x2 ≤ 240 → m 79 7 ≤ 3 → w = (240 - x3).toNat → zW zn (d + 33) 288 c (56, [(some (.ref 79)), (some (.int (Int32.ofInt sort))), (some (.int (Int32.ofInt x2))), (some (.int (Int32.ofInt x3))), none], [], zk c m) Q := by
  intro w
  induction w using Nat.strongRecOn with | _ w ih => ?_
  intro x3 m hIm i1 i7 hw
  have f1 : (0 : Int) ≤ m 79 7 ∧ m 79 7 ≤ 4 := hIm.1 79 7
  have f2 : (0 : Int) ≤ m 79 26 ∧ m 79 26 ≤ 5 := hIm.1 79 26
  have f3 : (0 : Int) ≤ m 79 27 ∧ m 79 27 ≤ 6 := hIm.1 79 27
  have f4 : (0 : Int) ≤ m 79 28 ∧ m 79 28 ≤ 5 := hIm.1 79 28
  have f5 : (0 : Int) ≤ m 79 29 ∧ m 79 29 ≤ 6 := hIm.1 79 29
  have f6 : (0 : Int) ≤ m 79 30 ∧ m 79 30 ≤ 6 := hIm.1 79 30
  by_cases b7 : x2 ≤ x3
  · refine zW.step (st1 := (88, [(some (.ref 79)), (some (.int (Int32.ofInt sort))), (some (.int (Int32.ofInt x2))), (some (.int (Int32.ofInt x3))), none], [], zk c m)) (st2 := (88, [(some (.ref 79)), (some (.int (Int32.ofInt sort))), (some (.int (Int32.ofInt x2))), (some (.int (Int32.ofInt x3))), none], [], zk c m)) ⟨[zo, zo, zt], _, rfl, ⟨trivial, trivial, zbt ((zi_le rfl rfl (by unfold zR; omega) (by unfold zR; omega)).mpr b7), trivial⟩⟩ rfl ?_
    exact K x3 m hIm (by omega) (by omega)
  · refine zW.step (st1 := (61, [(some (.ref 79)), (some (.int (Int32.ofInt sort))), (some (.int (Int32.ofInt x2))), (some (.int (Int32.ofInt x3))), none], [], zk c m)) (st2 := (61, [(some (.ref 79)), (some (.int (Int32.ofInt sort))), (some (.int (Int32.ofInt x2))), (some (.int (Int32.ofInt x3))), none], [], zk c m)) ⟨[zo, zo, zo], _, rfl, ⟨trivial, trivial, zbf (fun q => b7 ((zi_le rfl rfl (by unfold zR; omega) (by unfold zR; omega)).mp q)), trivial⟩⟩ rfl ?_
    have f8 : (-128 : Int) ≤ m 80 x3.toNat ∧ m 80 x3.toNat ≤ 127 := hIm.1 80 x3.toNat
    obtain ⟨m9, hm9⟩ : ∃ q, q = zm_up m 81 (((240 * (m 79 7)) + x3).toNat) (m 80 x3.toNat) := ⟨_, rfl⟩
    have hIm9 := zJ_upE hIm hm9 (zOj_p (by decide)) (show (-128 : Int) ≤ (m 80 x3.toNat) ∧ (m 80 x3.toNat) ≤ 127 by omega)
    have em9 : m9 81 (((240 * (m 79 7)) + x3).toNat) = (m 80 x3.toNat) := by rw [hm9]; exact zm_eq
    have f10 : m9 79 7 = m 79 7 := by rw [hm9]; exact zm_ne (Or.inl (by decide))
    have f11 : m9 79 26 = m 79 26 := by rw [hm9]; exact zm_ne (Or.inl (by decide))
    have f12 : m9 79 27 = m 79 27 := by rw [hm9]; exact zm_ne (Or.inl (by decide))
    have f13 : m9 79 28 = m 79 28 := by rw [hm9]; exact zm_ne (Or.inl (by decide))
    have f14 : m9 79 29 = m 79 29 := by rw [hm9]; exact zm_ne (Or.inl (by decide))
    have f15 : m9 79 30 = m 79 30 := by rw [hm9]; exact zm_ne (Or.inl (by decide))
    have f16 : m9 79 48 = m 79 48 := by rw [hm9]; exact zm_ne (Or.inl (by decide))
    refine zW.step (st1 := (82, [(some (.ref 79)), (some (.int (Int32.ofInt sort))), (some (.int (Int32.ofInt x2))), (some (.int (Int32.ofInt x3))), none], [], z_hup (zk c m) 81 (.inl (2, 960, .inl (upd (fun j => Int32.ofInt (m 81 j)) ((((Int16.ofInt 240).toInt32) * (Int32.ofInt (m 79 7))) + (Int32.ofInt x3)).toNatClampNeg (vp_nar .byte (Int32.ofInt (m 80 (Int32.ofInt x3).toNatClampNeg)))))))) (st2 := (82, [(some (.ref 79)), (some (.int (Int32.ofInt sort))), (some (.int (Int32.ofInt x2))), (some (.int (Int32.ofInt x3))), none], [], zk c m9)) ⟨[zo, zo, zo, zo, zo, zo, zo, zo, zo, zo, zo, (false, 0, none, zh0, some (.inl (2, 240, .inl (fun j => Int32.ofInt (m 80 j))))), (false, 0, none, zh0, some (.inl (2, 960, .inl (fun j => Int32.ofInt (m 81 j)))))], _, rfl, ⟨trivial, (Nat.lt_of_lt_of_le (Nat.le_of_ble_eq_true rfl) hN), trivial, trivial, (Nat.lt_of_lt_of_le (Nat.le_of_ble_eq_true rfl) hN), trivial, trivial, trivial, trivial, (Nat.lt_of_lt_of_le (Nat.le_of_ble_eq_true rfl) hN), trivial, ⟨zk_ra c m zA_80 (Nat.lt_of_lt_of_le (Nat.le_of_ble_eq_true rfl) hN), zi_in rfl (by omega) (by omega) (by omega)⟩, ⟨zk_ra c m zA_81 (Nat.lt_of_lt_of_le (Nat.le_of_ble_eq_true rfl) hN), zi_in (zi_add (zi_mul (by decide : (Int16.ofInt 240).toInt32 = Int32.ofInt 240) rfl) rfl) (by omega) (by omega) (by omega)⟩, trivial⟩⟩ (z_steq rfl rfl ((zk_bas2 c m zA_81 (zi_add (zi_mul (by decide : (Int16.ofInt 240).toInt32 = Int32.ofInt 240) rfl) rfl) (by unfold zR; omega) ((zk_rd (f := m 80) rfl (by unfold zR; omega)).trans rfl : Int32.ofInt (m 80 (Int32.ofInt x3).toNatClampNeg) = Int32.ofInt (m 80 x3.toNat)) (by omega)).trans (by rw [hm9]))) ?_
    clear f8 em9
    refine zW.step (st1 := (56, [(some (.ref 79)), (some (.int (Int32.ofInt sort))), (some (.int (Int32.ofInt x2))), (some (.int ((Int32.ofInt x3) + Int32.ofInt 1))), none], [], zk c m9)) (st2 := (56, [(some (.ref 79)), (some (.int (Int32.ofInt sort))), (some (.int (Int32.ofInt x2))), (some (.int (Int32.ofInt (x3 + 1)))), none], [], zk c m9)) ⟨[zo, zo], _, rfl, ⟨trivial, trivial, trivial⟩⟩ (z_steq (z_c1 rfl (z_c1 rfl (z_c1 rfl (z_c1 (z_si (zi_add rfl rfl)) rfl)))) rfl rfl) ?_
    exact ih _ (by omega) (x3 + 1) m9 hIm9 (by omega) (by omega) rfl

set_option maxRecDepth 100000 in
set_option maxHeartbeats 4000000 in
theorem L_X12_text_133 (zn : Bool) (d : Nat) {c : Nat × Nat} {mC : zM} {t9 : Int} (hN : 107 ≤ c.1) (hC : c.1 < z_RO) (sort : Int) (r_sort : -2147483648 ≤ sort ∧ sort ≤ 2147483647) (ht : 0 ≤ t9 ∧ t9 ≤ 999990000) (x2 : Int) (m0 : zM) (Q : Option Value → z_H → Prop) (K : ∀ (x3 : Int) (m : zM), zJ mC t9 0 m → 0 ≤ x3 ∧ x3 ≤ 5 → 1 ≤ m 79 29 ∧ 0 ≤ sort ∧ sort ≤ 0 → zK m (m 79 29) → zW zn (d + 33) 288 c (156, [(some (.ref 79)), (some (.int (Int32.ofInt sort))), (some (.int (Int32.ofInt x2))), (some (.int (Int32.ofInt x3))), none], [], zk c m) Q) :
    ∀ (w : Nat) (x3 : Int) (m : zM), zJ mC t9 0 m → 0 ≤ x3 ∧ x3 ≤ 5 → 1 ≤ m 79 29 ∧ 0 ≤ sort ∧ sort ≤ 0 → zK m (m 79 29) → w = (5 - x3).toNat → zW zn (d + 33) 288 c (133, [(some (.ref 79)), (some (.int (Int32.ofInt sort))), (some (.int (Int32.ofInt x2))), (some (.int (Int32.ofInt x3))), none], [], zk c m) Q := by
  intro w
  induction w using Nat.strongRecOn with | _ w ih => ?_
  intro x3 m hIm i1 i29 tK hw
  have f17 : (0 : Int) ≤ m 79 7 ∧ m 79 7 ≤ 4 := hIm.1 79 7
  have f18 : (0 : Int) ≤ m 79 26 ∧ m 79 26 ≤ 5 := hIm.1 79 26
  have f19 : (0 : Int) ≤ m 79 27 ∧ m 79 27 ≤ 6 := hIm.1 79 27
  have f20 : (0 : Int) ≤ m 79 28 ∧ m 79 28 ≤ 5 := hIm.1 79 28
  have f21 : (0 : Int) ≤ m 79 29 ∧ m 79 29 ≤ 6 := hIm.1 79 29
  have f22 : (0 : Int) ≤ m 79 30 ∧ m 79 30 ≤ 6 := hIm.1 79 30
  by_cases b23 : 5 ≤ x3
  · refine zW.step (st1 := (156, [(some (.ref 79)), (some (.int (Int32.ofInt sort))), (some (.int (Int32.ofInt x2))), (some (.int (Int32.ofInt x3))), none], [], zk c m)) (st2 := (156, [(some (.ref 79)), (some (.int (Int32.ofInt sort))), (some (.int (Int32.ofInt x2))), (some (.int (Int32.ofInt x3))), none], [], zk c m)) ⟨[zo, zo, zt], _, rfl, ⟨trivial, trivial, zbt ((zi_le rfl rfl (⟨by decide, by decide⟩ : zR 5) (by unfold zR; omega)).mpr b23), trivial⟩⟩ rfl ?_
    exact K x3 m hIm (by omega) (by omega) (zK_cg tK (by omega))
  · refine zW.step (st1 := (138, [(some (.ref 79)), (some (.int (Int32.ofInt sort))), (some (.int (Int32.ofInt x2))), (some (.int (Int32.ofInt x3))), none], [], zk c m)) (st2 := (138, [(some (.ref 79)), (some (.int (Int32.ofInt sort))), (some (.int (Int32.ofInt x2))), (some (.int (Int32.ofInt x3))), none], [], zk c m)) ⟨[zo, zo, zo], _, rfl, ⟨trivial, trivial, zbf (fun q => b23 ((zi_le rfl rfl (⟨by decide, by decide⟩ : zR 5) (by unfold zR; omega)).mp q)), trivial⟩⟩ rfl ?_
    have f24 : (-2147483648 : Int) ≤ m 85 x3.toNat ∧ m 85 x3.toNat ≤ 2147483647 := hIm.1 85 x3.toNat
    obtain ⟨m25, hm25⟩ : ∃ q, q = zm_up m 84 x3.toNat (m 85 x3.toNat) := ⟨_, rfl⟩
    have hIm25 := zJ_upE hIm hm25 (zOj_p (by decide)) (show (-2147483648 : Int) ≤ (m 85 x3.toNat) ∧ (m 85 x3.toNat) ≤ 2147483647 by omega)
    have em25 : m25 84 x3.toNat = (m 85 x3.toNat) := by rw [hm25]; exact zm_eq
    have f26 : m25 79 7 = m 79 7 := by rw [hm25]; exact zm_ne (Or.inl (by decide))
    have f27 : m25 79 26 = m 79 26 := by rw [hm25]; exact zm_ne (Or.inl (by decide))
    have f28 : m25 79 27 = m 79 27 := by rw [hm25]; exact zm_ne (Or.inl (by decide))
    have f29 : m25 79 28 = m 79 28 := by rw [hm25]; exact zm_ne (Or.inl (by decide))
    have f30 : m25 79 29 = m 79 29 := by rw [hm25]; exact zm_ne (Or.inl (by decide))
    have f31 : m25 79 30 = m 79 30 := by rw [hm25]; exact zm_ne (Or.inl (by decide))
    have f32 : m25 79 48 = m 79 48 := by rw [hm25]; exact zm_ne (Or.inl (by decide))
    have tk33 : zK m25 (m 79 29) := by rw [hm25]; exact zK_up tK (by decide)
    refine zW.step (st1 := (150, [(some (.ref 79)), (some (.int (Int32.ofInt sort))), (some (.int (Int32.ofInt x2))), (some (.int (Int32.ofInt x3))), none], [], z_hup (zk c m) 84 (.inl (0, 5, .inl (upd (fun j => Int32.ofInt (m 84 j)) (Int32.ofInt x3).toNatClampNeg (Int32.ofInt (m 85 (Int32.ofInt x3).toNatClampNeg))))))) (st2 := (150, [(some (.ref 79)), (some (.int (Int32.ofInt sort))), (some (.int (Int32.ofInt x2))), (some (.int (Int32.ofInt x3))), none], [], zk c m25)) ⟨[zo, zo, zo, zo, zo, zo, (false, 0, none, zh0, some (.inl (0, 5, .inl (fun j => Int32.ofInt (m 85 j))))), (false, 0, none, zh0, some (.inl (0, 5, .inl (fun j => Int32.ofInt (m 84 j)))))], _, rfl, ⟨trivial, (Nat.lt_of_lt_of_le (Nat.le_of_ble_eq_true rfl) hN), trivial, trivial, (Nat.lt_of_lt_of_le (Nat.le_of_ble_eq_true rfl) hN), trivial, ⟨zk_ra c m zA_85 (Nat.lt_of_lt_of_le (Nat.le_of_ble_eq_true rfl) hN), zi_in rfl (by omega) (by omega) (by omega)⟩, ⟨zk_ra c m zA_84 (Nat.lt_of_lt_of_le (Nat.le_of_ble_eq_true rfl) hN), zi_in rfl (by omega) (by omega) (by omega)⟩, trivial⟩⟩ (z_steq rfl rfl ((zk_ias c m zA_84 rfl (by unfold zR; omega) ((zk_rd (f := m 85) rfl (by unfold zR; omega)).trans rfl : Int32.ofInt (m 85 (Int32.ofInt x3).toNatClampNeg) = Int32.ofInt (m 85 x3.toNat))).trans (by rw [hm25]))) ?_
    clear f24 em25
    refine zW.step (st1 := (133, [(some (.ref 79)), (some (.int (Int32.ofInt sort))), (some (.int (Int32.ofInt x2))), (some (.int ((Int32.ofInt x3) + Int32.ofInt 1))), none], [], zk c m25)) (st2 := (133, [(some (.ref 79)), (some (.int (Int32.ofInt sort))), (some (.int (Int32.ofInt x2))), (some (.int (Int32.ofInt (x3 + 1)))), none], [], zk c m25)) ⟨[zo, zo], _, rfl, ⟨trivial, trivial, trivial⟩⟩ (z_steq (z_c1 rfl (z_c1 rfl (z_c1 rfl (z_c1 (z_si (zi_add rfl rfl)) rfl)))) rfl rfl) ?_
    exact ih _ (by omega) (x3 + 1) m25 hIm25 (by omega) (by omega) (zK_cg tk33 (by omega)) rfl

set_option maxRecDepth 100000 in
set_option maxHeartbeats 4000000 in
theorem L_X12_text_158 (zn : Bool) (d : Nat) {c : Nat × Nat} {mC : zM} {t9 : Int} (hN : 107 ≤ c.1) (hC : c.1 < z_RO) (sort : Int) (r_sort : -2147483648 ≤ sort ∧ sort ≤ 2147483647) (ht : 0 ≤ t9 ∧ t9 ≤ 999990000) (x2 : Int) (m0 : zM) (Q : Option Value → z_H → Prop) (K : ∀ (x3 : Int) (m : zM), zJ mC t9 0 m → 0 ≤ x3 ∧ x3 ≤ 48 → 1 ≤ m 79 29 ∧ 0 ≤ sort ∧ sort ≤ 0 → zK m (m 79 29) → zW zn (d + 33) 288 c (182, [(some (.ref 79)), (some (.int (Int32.ofInt sort))), (some (.int (Int32.ofInt x2))), (some (.int (Int32.ofInt x3))), none], [], zk c m) Q) :
    ∀ (w : Nat) (x3 : Int) (m : zM), zJ mC t9 0 m → 0 ≤ x3 ∧ x3 ≤ 48 → 1 ≤ m 79 29 ∧ 0 ≤ sort ∧ sort ≤ 0 → zK m (m 79 29) → w = (48 - x3).toNat → zW zn (d + 33) 288 c (158, [(some (.ref 79)), (some (.int (Int32.ofInt sort))), (some (.int (Int32.ofInt x2))), (some (.int (Int32.ofInt x3))), none], [], zk c m) Q := by
  intro w
  induction w using Nat.strongRecOn with | _ w ih => ?_
  intro x3 m hIm i1 i29 tK hw
  have f34 : (0 : Int) ≤ m 79 7 ∧ m 79 7 ≤ 4 := hIm.1 79 7
  have f35 : (0 : Int) ≤ m 79 26 ∧ m 79 26 ≤ 5 := hIm.1 79 26
  have f36 : (0 : Int) ≤ m 79 27 ∧ m 79 27 ≤ 6 := hIm.1 79 27
  have f37 : (0 : Int) ≤ m 79 28 ∧ m 79 28 ≤ 5 := hIm.1 79 28
  have f38 : (0 : Int) ≤ m 79 29 ∧ m 79 29 ≤ 6 := hIm.1 79 29
  have f39 : (0 : Int) ≤ m 79 30 ∧ m 79 30 ≤ 6 := hIm.1 79 30
  by_cases b40 : 48 ≤ x3
  · refine zW.step (st1 := (182, [(some (.ref 79)), (some (.int (Int32.ofInt sort))), (some (.int (Int32.ofInt x2))), (some (.int (Int32.ofInt x3))), none], [], zk c m)) (st2 := (182, [(some (.ref 79)), (some (.int (Int32.ofInt sort))), (some (.int (Int32.ofInt x2))), (some (.int (Int32.ofInt x3))), none], [], zk c m)) ⟨[zo, zo, zt], _, rfl, ⟨trivial, trivial, zbt ((zi_le (by decide : (Int8.ofInt 48).toInt32 = Int32.ofInt 48) rfl (⟨by decide, by decide⟩ : zR 48) (by unfold zR; omega)).mpr b40), trivial⟩⟩ rfl ?_
    exact K x3 m hIm (by omega) (by omega) (zK_cg tK (by omega))
  · refine zW.step (st1 := (164, [(some (.ref 79)), (some (.int (Int32.ofInt sort))), (some (.int (Int32.ofInt x2))), (some (.int (Int32.ofInt x3))), none], [], zk c m)) (st2 := (164, [(some (.ref 79)), (some (.int (Int32.ofInt sort))), (some (.int (Int32.ofInt x2))), (some (.int (Int32.ofInt x3))), none], [], zk c m)) ⟨[zo, zo, zo], _, rfl, ⟨trivial, trivial, zbf (fun q => b40 ((zi_le (by decide : (Int8.ofInt 48).toInt32 = Int32.ofInt 48) rfl (⟨by decide, by decide⟩ : zR 48) (by unfold zR; omega)).mp q)), trivial⟩⟩ rfl ?_
    have f41 : (0 : Int) ≤ m 89 x3.toNat ∧ m 89 x3.toNat ≤ 4 := hIm.1 89 x3.toNat
    obtain ⟨m42, hm42⟩ : ∃ q, q = zm_up m 88 x3.toNat (m 89 x3.toNat) := ⟨_, rfl⟩
    have hIm42 := zJ_upE hIm hm42 (zOj_p (by decide)) (show (0 : Int) ≤ (m 89 x3.toNat) ∧ (m 89 x3.toNat) ≤ 4 by omega)
    have em42 : m42 88 x3.toNat = (m 89 x3.toNat) := by rw [hm42]; exact zm_eq
    have f43 : m42 79 7 = m 79 7 := by rw [hm42]; exact zm_ne (Or.inl (by decide))
    have f44 : m42 79 26 = m 79 26 := by rw [hm42]; exact zm_ne (Or.inl (by decide))
    have f45 : m42 79 27 = m 79 27 := by rw [hm42]; exact zm_ne (Or.inl (by decide))
    have f46 : m42 79 28 = m 79 28 := by rw [hm42]; exact zm_ne (Or.inl (by decide))
    have f47 : m42 79 29 = m 79 29 := by rw [hm42]; exact zm_ne (Or.inl (by decide))
    have f48 : m42 79 30 = m 79 30 := by rw [hm42]; exact zm_ne (Or.inl (by decide))
    have f49 : m42 79 48 = m 79 48 := by rw [hm42]; exact zm_ne (Or.inl (by decide))
    have tk50 : zK m42 (m 79 29) := by rw [hm42]; exact zK_up tK (by decide)
    refine zW.step (st1 := (176, [(some (.ref 79)), (some (.int (Int32.ofInt sort))), (some (.int (Int32.ofInt x2))), (some (.int (Int32.ofInt x3))), none], [], z_hup (zk c m) 88 (.inl (0, 48, .inl (upd (fun j => Int32.ofInt (m 88 j)) (Int32.ofInt x3).toNatClampNeg (Int32.ofInt (m 89 (Int32.ofInt x3).toNatClampNeg))))))) (st2 := (176, [(some (.ref 79)), (some (.int (Int32.ofInt sort))), (some (.int (Int32.ofInt x2))), (some (.int (Int32.ofInt x3))), none], [], zk c m42)) ⟨[zo, zo, zo, zo, zo, zo, (false, 0, none, zh0, some (.inl (0, 48, .inl (fun j => Int32.ofInt (m 89 j))))), (false, 0, none, zh0, some (.inl (0, 48, .inl (fun j => Int32.ofInt (m 88 j)))))], _, rfl, ⟨trivial, (Nat.lt_of_lt_of_le (Nat.le_of_ble_eq_true rfl) hN), trivial, trivial, (Nat.lt_of_lt_of_le (Nat.le_of_ble_eq_true rfl) hN), trivial, ⟨zk_ra c m zA_89 (Nat.lt_of_lt_of_le (Nat.le_of_ble_eq_true rfl) hN), zi_in rfl (by omega) (by omega) (by omega)⟩, ⟨zk_ra c m zA_88 (Nat.lt_of_lt_of_le (Nat.le_of_ble_eq_true rfl) hN), zi_in rfl (by omega) (by omega) (by omega)⟩, trivial⟩⟩ (z_steq rfl rfl ((zk_ias c m zA_88 rfl (by unfold zR; omega) ((zk_rd (f := m 89) rfl (by unfold zR; omega)).trans rfl : Int32.ofInt (m 89 (Int32.ofInt x3).toNatClampNeg) = Int32.ofInt (m 89 x3.toNat))).trans (by rw [hm42]))) ?_
    clear f41 em42
    refine zW.step (st1 := (158, [(some (.ref 79)), (some (.int (Int32.ofInt sort))), (some (.int (Int32.ofInt x2))), (some (.int ((Int32.ofInt x3) + Int32.ofInt 1))), none], [], zk c m42)) (st2 := (158, [(some (.ref 79)), (some (.int (Int32.ofInt sort))), (some (.int (Int32.ofInt x2))), (some (.int (Int32.ofInt (x3 + 1)))), none], [], zk c m42)) ⟨[zo, zo], _, rfl, ⟨trivial, trivial, trivial⟩⟩ (z_steq (z_c1 rfl (z_c1 rfl (z_c1 rfl (z_c1 (z_si (zi_add rfl rfl)) rfl)))) rfl rfl) ?_
    exact ih _ (by omega) (x3 + 1) m42 hIm42 (by omega) (by omega) (zK_cg tk50 (by omega)) rfl

set_option maxRecDepth 100000 in
set_option maxHeartbeats 4000000 in
theorem L_X12_text_184 (zn : Bool) (d : Nat) {c : Nat × Nat} {mC : zM} {t9 : Int} (hN : 107 ≤ c.1) (hC : c.1 < z_RO) (sort : Int) (r_sort : -2147483648 ≤ sort ∧ sort ≤ 2147483647) (ht : 0 ≤ t9 ∧ t9 ≤ 999990000) (x2 : Int) (m0 : zM) (Q : Option Value → z_H → Prop) (K : ∀ (x3 : Int) (m : zM), zJ mC t9 0 m → 0 ≤ x3 ∧ x3 ≤ 6 → 1 ≤ m 79 29 ∧ 0 ≤ sort ∧ sort ≤ 0 → zK m (m 79 29) → zW zn (d + 33) 288 c (208, [(some (.ref 79)), (some (.int (Int32.ofInt sort))), (some (.int (Int32.ofInt x2))), (some (.int (Int32.ofInt x3))), none], [], zk c m) Q) :
    ∀ (w : Nat) (x3 : Int) (m : zM), zJ mC t9 0 m → 0 ≤ x3 ∧ x3 ≤ 6 → 1 ≤ m 79 29 ∧ 0 ≤ sort ∧ sort ≤ 0 → zK m (m 79 29) → w = (6 - x3).toNat → zW zn (d + 33) 288 c (184, [(some (.ref 79)), (some (.int (Int32.ofInt sort))), (some (.int (Int32.ofInt x2))), (some (.int (Int32.ofInt x3))), none], [], zk c m) Q := by
  intro w
  induction w using Nat.strongRecOn with | _ w ih => ?_
  intro x3 m hIm i1 i29 tK hw
  have f51 : (0 : Int) ≤ m 79 7 ∧ m 79 7 ≤ 4 := hIm.1 79 7
  have f52 : (0 : Int) ≤ m 79 26 ∧ m 79 26 ≤ 5 := hIm.1 79 26
  have f53 : (0 : Int) ≤ m 79 27 ∧ m 79 27 ≤ 6 := hIm.1 79 27
  have f54 : (0 : Int) ≤ m 79 28 ∧ m 79 28 ≤ 5 := hIm.1 79 28
  have f55 : (0 : Int) ≤ m 79 29 ∧ m 79 29 ≤ 6 := hIm.1 79 29
  have f56 : (0 : Int) ≤ m 79 30 ∧ m 79 30 ≤ 6 := hIm.1 79 30
  by_cases b57 : 6 ≤ x3
  · refine zW.step (st1 := (208, [(some (.ref 79)), (some (.int (Int32.ofInt sort))), (some (.int (Int32.ofInt x2))), (some (.int (Int32.ofInt x3))), none], [], zk c m)) (st2 := (208, [(some (.ref 79)), (some (.int (Int32.ofInt sort))), (some (.int (Int32.ofInt x2))), (some (.int (Int32.ofInt x3))), none], [], zk c m)) ⟨[zo, zo, zt], _, rfl, ⟨trivial, trivial, zbt ((zi_le (by decide : (Int8.ofInt 6).toInt32 = Int32.ofInt 6) rfl (⟨by decide, by decide⟩ : zR 6) (by unfold zR; omega)).mpr b57), trivial⟩⟩ rfl ?_
    exact K x3 m hIm (by omega) (by omega) (zK_cg tK (by omega))
  · refine zW.step (st1 := (190, [(some (.ref 79)), (some (.int (Int32.ofInt sort))), (some (.int (Int32.ofInt x2))), (some (.int (Int32.ofInt x3))), none], [], zk c m)) (st2 := (190, [(some (.ref 79)), (some (.int (Int32.ofInt sort))), (some (.int (Int32.ofInt x2))), (some (.int (Int32.ofInt x3))), none], [], zk c m)) ⟨[zo, zo, zo], _, rfl, ⟨trivial, trivial, zbf (fun q => b57 ((zi_le (by decide : (Int8.ofInt 6).toInt32 = Int32.ofInt 6) rfl (⟨by decide, by decide⟩ : zR 6) (by unfold zR; omega)).mp q)), trivial⟩⟩ rfl ?_
    have f58 : (0 : Int) ≤ m 91 x3.toNat ∧ m 91 x3.toNat ≤ 8 := hIm.1 91 x3.toNat
    obtain ⟨m59, hm59⟩ : ∃ q, q = zm_up m 90 x3.toNat (m 91 x3.toNat) := ⟨_, rfl⟩
    have hIm59 := zJ_upE hIm hm59 (zOj_p (by decide)) (show (0 : Int) ≤ (m 91 x3.toNat) ∧ (m 91 x3.toNat) ≤ 8 by omega)
    have em59 : m59 90 x3.toNat = (m 91 x3.toNat) := by rw [hm59]; exact zm_eq
    have f60 : m59 79 7 = m 79 7 := by rw [hm59]; exact zm_ne (Or.inl (by decide))
    have f61 : m59 79 26 = m 79 26 := by rw [hm59]; exact zm_ne (Or.inl (by decide))
    have f62 : m59 79 27 = m 79 27 := by rw [hm59]; exact zm_ne (Or.inl (by decide))
    have f63 : m59 79 28 = m 79 28 := by rw [hm59]; exact zm_ne (Or.inl (by decide))
    have f64 : m59 79 29 = m 79 29 := by rw [hm59]; exact zm_ne (Or.inl (by decide))
    have f65 : m59 79 30 = m 79 30 := by rw [hm59]; exact zm_ne (Or.inl (by decide))
    have f66 : m59 79 48 = m 79 48 := by rw [hm59]; exact zm_ne (Or.inl (by decide))
    have tk67 : zK m59 (m 79 29) := by rw [hm59]; exact zK_up tK (by decide)
    refine zW.step (st1 := (202, [(some (.ref 79)), (some (.int (Int32.ofInt sort))), (some (.int (Int32.ofInt x2))), (some (.int (Int32.ofInt x3))), none], [], z_hup (zk c m) 90 (.inl (0, 6, .inl (upd (fun j => Int32.ofInt (m 90 j)) (Int32.ofInt x3).toNatClampNeg (Int32.ofInt (m 91 (Int32.ofInt x3).toNatClampNeg))))))) (st2 := (202, [(some (.ref 79)), (some (.int (Int32.ofInt sort))), (some (.int (Int32.ofInt x2))), (some (.int (Int32.ofInt x3))), none], [], zk c m59)) ⟨[zo, zo, zo, zo, zo, zo, (false, 0, none, zh0, some (.inl (0, 6, .inl (fun j => Int32.ofInt (m 91 j))))), (false, 0, none, zh0, some (.inl (0, 6, .inl (fun j => Int32.ofInt (m 90 j)))))], _, rfl, ⟨trivial, (Nat.lt_of_lt_of_le (Nat.le_of_ble_eq_true rfl) hN), trivial, trivial, (Nat.lt_of_lt_of_le (Nat.le_of_ble_eq_true rfl) hN), trivial, ⟨zk_ra c m zA_91 (Nat.lt_of_lt_of_le (Nat.le_of_ble_eq_true rfl) hN), zi_in rfl (by omega) (by omega) (by omega)⟩, ⟨zk_ra c m zA_90 (Nat.lt_of_lt_of_le (Nat.le_of_ble_eq_true rfl) hN), zi_in rfl (by omega) (by omega) (by omega)⟩, trivial⟩⟩ (z_steq rfl rfl ((zk_ias c m zA_90 rfl (by unfold zR; omega) ((zk_rd (f := m 91) rfl (by unfold zR; omega)).trans rfl : Int32.ofInt (m 91 (Int32.ofInt x3).toNatClampNeg) = Int32.ofInt (m 91 x3.toNat))).trans (by rw [hm59]))) ?_
    clear f58 em59
    refine zW.step (st1 := (184, [(some (.ref 79)), (some (.int (Int32.ofInt sort))), (some (.int (Int32.ofInt x2))), (some (.int ((Int32.ofInt x3) + Int32.ofInt 1))), none], [], zk c m59)) (st2 := (184, [(some (.ref 79)), (some (.int (Int32.ofInt sort))), (some (.int (Int32.ofInt x2))), (some (.int (Int32.ofInt (x3 + 1)))), none], [], zk c m59)) ⟨[zo, zo], _, rfl, ⟨trivial, trivial, trivial⟩⟩ (z_steq (z_c1 rfl (z_c1 rfl (z_c1 rfl (z_c1 (z_si (zi_add rfl rfl)) rfl)))) rfl rfl) ?_
    exact ih _ (by omega) (x3 + 1) m59 hIm59 (by omega) (by omega) (zK_cg tk67 (by omega)) rfl

set_option maxRecDepth 100000 in
set_option maxHeartbeats 4000000 in
theorem L_X12_text_210 (zn : Bool) (d : Nat) {c : Nat × Nat} {mC : zM} {t9 : Int} (hN : 107 ≤ c.1) (hC : c.1 < z_RO) (sort : Int) (r_sort : -2147483648 ≤ sort ∧ sort ≤ 2147483647) (ht : 0 ≤ t9 ∧ t9 ≤ 999990000) (x2 : Int) (m0 : zM) (Q : Option Value → z_H → Prop) (K : ∀ (x3 : Int) (m : zM), zJ mC t9 99 m → 0 ≤ x3 ∧ x3 ≤ 178 → (∀ j : Nat, (j : Int) < x3 → m 92 j = 0) → 1 ≤ m 79 29 ∧ 0 ≤ sort ∧ sort ≤ 0 → zK m (m 79 29) → zS9 t9 m → 178 ≤ x3 → zW zn (d + 33) 288 c (230, [(some (.ref 79)), (some (.int (Int32.ofInt sort))), (some (.int (Int32.ofInt x2))), (some (.int (Int32.ofInt x3))), none], [], zk c m) Q) :
    ∀ (w : Nat) (x3 : Int) (m : zM), zJ mC t9 99 m → 0 ≤ x3 ∧ x3 ≤ 178 → (∀ j : Nat, (j : Int) < x3 → m 92 j = 0) → 1 ≤ m 79 29 ∧ 0 ≤ sort ∧ sort ≤ 0 → zK m (m 79 29) → zS9 t9 m → w = (178 - x3).toNat → zW zn (d + 33) 288 c (210, [(some (.ref 79)), (some (.int (Int32.ofInt sort))), (some (.int (Int32.ofInt x2))), (some (.int (Int32.ofInt x3))), none], [], zk c m) Q := by
  intro w
  induction w using Nat.strongRecOn with | _ w ih => ?_
  intro x3 m hIm i1 z i29 tK tI hw
  have f68 : (0 : Int) ≤ m 79 7 ∧ m 79 7 ≤ 4 := hIm.1 79 7
  have f69 : (0 : Int) ≤ m 79 26 ∧ m 79 26 ≤ 5 := hIm.1 79 26
  have f70 : (0 : Int) ≤ m 79 27 ∧ m 79 27 ≤ 6 := hIm.1 79 27
  have f71 : (0 : Int) ≤ m 79 28 ∧ m 79 28 ≤ 5 := hIm.1 79 28
  have f72 : (0 : Int) ≤ m 79 29 ∧ m 79 29 ≤ 6 := hIm.1 79 29
  have f73 : (0 : Int) ≤ m 79 30 ∧ m 79 30 ≤ 6 := hIm.1 79 30
  by_cases b74 : 178 ≤ x3
  · refine zW.step (st1 := (230, [(some (.ref 79)), (some (.int (Int32.ofInt sort))), (some (.int (Int32.ofInt x2))), (some (.int (Int32.ofInt x3))), none], [], zk c m)) (st2 := (230, [(some (.ref 79)), (some (.int (Int32.ofInt sort))), (some (.int (Int32.ofInt x2))), (some (.int (Int32.ofInt x3))), none], [], zk c m)) ⟨[zo, zo, zt], _, rfl, ⟨trivial, trivial, zbt ((zi_le (by decide : (Int16.ofInt 178).toInt32 = Int32.ofInt 178) rfl (⟨by decide, by decide⟩ : zR 178) (by unfold zR; omega)).mpr b74), trivial⟩⟩ rfl ?_
    exact K x3 m hIm (by omega) (by exact z) (by omega) (zK_cg tK (by omega)) tI (by omega)
  · refine zW.step (st1 := (217, [(some (.ref 79)), (some (.int (Int32.ofInt sort))), (some (.int (Int32.ofInt x2))), (some (.int (Int32.ofInt x3))), none], [], zk c m)) (st2 := (217, [(some (.ref 79)), (some (.int (Int32.ofInt sort))), (some (.int (Int32.ofInt x2))), (some (.int (Int32.ofInt x3))), none], [], zk c m)) ⟨[zo, zo, zo], _, rfl, ⟨trivial, trivial, zbf (fun q => b74 ((zi_le (by decide : (Int16.ofInt 178).toInt32 = Int32.ofInt 178) rfl (⟨by decide, by decide⟩ : zR 178) (by unfold zR; omega)).mp q)), trivial⟩⟩ rfl ?_
    obtain ⟨m75, hm75⟩ : ∃ q, q = zm_up m 92 x3.toNat 0 := ⟨_, rfl⟩
    have hIm75 := zJ_upE hIm hm75 (by unfold zOj zsen; omega) (zvw_z zV_92 _)
    have em75 : m75 92 x3.toNat = 0 := by rw [hm75]; exact zm_eq
    have f76 : m75 79 7 = m 79 7 := by rw [hm75]; exact zm_ne (Or.inl (by decide))
    have f77 : m75 79 26 = m 79 26 := by rw [hm75]; exact zm_ne (Or.inl (by decide))
    have f78 : m75 79 27 = m 79 27 := by rw [hm75]; exact zm_ne (Or.inl (by decide))
    have f79 : m75 79 28 = m 79 28 := by rw [hm75]; exact zm_ne (Or.inl (by decide))
    have f80 : m75 79 29 = m 79 29 := by rw [hm75]; exact zm_ne (Or.inl (by decide))
    have f81 : m75 79 30 = m 79 30 := by rw [hm75]; exact zm_ne (Or.inl (by decide))
    have f82 : m75 79 48 = m 79 48 := by rw [hm75]; exact zm_ne (Or.inl (by decide))
    have tk83 : zK m75 (m 79 29) := by rw [hm75]; exact zK_up tK (by decide)
    have tk84 : zS9 t9 m75 := by rw [hm75]; exact zS9_up tI (by decide)
    refine zW.step (st1 := (224, [(some (.ref 79)), (some (.int (Int32.ofInt sort))), (some (.int (Int32.ofInt x2))), (some (.int (Int32.ofInt x3))), none], [], z_hup (zk c m) 92 (.inl (0, 178, .inl (upd (fun j => Int32.ofInt (m 92 j)) (Int32.ofInt x3).toNatClampNeg (Int32.ofInt 0)))))) (st2 := (224, [(some (.ref 79)), (some (.int (Int32.ofInt sort))), (some (.int (Int32.ofInt x2))), (some (.int (Int32.ofInt x3))), none], [], zk c m75)) ⟨[zo, zo, zo, zo, (false, 0, none, zh0, some (.inl (0, 178, .inl (fun j => Int32.ofInt (m 92 j)))))], _, rfl, ⟨trivial, (Nat.lt_of_lt_of_le (Nat.le_of_ble_eq_true rfl) hN), trivial, trivial, ⟨zk_ra c m zA_92 (Nat.lt_of_lt_of_le (Nat.le_of_ble_eq_true rfl) hN), zi_in rfl (by omega) (by omega) (by omega)⟩, trivial⟩⟩ (z_steq rfl rfl ((zk_ias c m zA_92 rfl (by unfold zR; omega) rfl).trans (by rw [hm75]))) ?_
    refine zW.step (st1 := (210, [(some (.ref 79)), (some (.int (Int32.ofInt sort))), (some (.int (Int32.ofInt x2))), (some (.int ((Int32.ofInt x3) + Int32.ofInt 1))), none], [], zk c m75)) (st2 := (210, [(some (.ref 79)), (some (.int (Int32.ofInt sort))), (some (.int (Int32.ofInt x2))), (some (.int (Int32.ofInt (x3 + 1)))), none], [], zk c m75)) ⟨[zo, zo], _, rfl, ⟨trivial, trivial, trivial⟩⟩ (z_steq (z_c1 rfl (z_c1 rfl (z_c1 rfl (z_c1 (z_si (zi_add rfl rfl)) rfl)))) rfl rfl) ?_
    exact ih _ (by omega) (x3 + 1) m75 hIm75 (by omega) (by intro j hj; rw [hm75]; by_cases e9 : j = x3.toNat; (subst e9; rw [zm_eq]); (rw [zm_ne (by omega)]; exact z j (by omega))) (by omega) (zK_cg tk83 (by omega)) tk84 rfl

set_option maxRecDepth 100000 in
set_option maxHeartbeats 4000000 in
theorem L_X12_text_255 (zn : Bool) (d : Nat) {c : Nat × Nat} {mC : zM} {t9 : Int} (hN : 107 ≤ c.1) (hC : c.1 < z_RO) (sort : Int) (r_sort : -2147483648 ≤ sort ∧ sort ≤ 2147483647) (ht : 0 ≤ t9 ∧ t9 ≤ 999990000) (x2 : Int) (x3 : Int) (m0 : zM) (Q : Option Value → z_H → Prop) (K : ∀ (x4 : Int) (m : zM), zJ mC t9 99 m → 0 ≤ x4 ∧ x4 ≤ 7 → zqT (m 92) x3 → x4 ≤ 4 ∨ 1 ≤ m 92 (15 * x3 + 4).toNat → 0 ≤ x3 ∧ x3 < m 79 29 → 1 ≤ m 79 29 ∧ 0 ≤ sort ∧ sort ≤ 0 → zK m (m 79 29) → zS9 t9 m → 7 ≤ x4 → zW zn (d + 33) 288 c (292, [(some (.ref 79)), (some (.int (Int32.ofInt sort))), (some (.int (Int32.ofInt x2))), (some (.int (Int32.ofInt x3))), (some (.int (Int32.ofInt x4)))], [], zk c m) Q) :
    ∀ (w : Nat) (x4 : Int) (m : zM), zJ mC t9 99 m → 0 ≤ x4 ∧ x4 ≤ 7 → zqT (m 92) x3 → x4 ≤ 4 ∨ 1 ≤ m 92 (15 * x3 + 4).toNat → 0 ≤ x3 ∧ x3 < m 79 29 → 1 ≤ m 79 29 ∧ 0 ≤ sort ∧ sort ≤ 0 → zK m (m 79 29) → zS9 t9 m → w = (7 - x4).toNat → zW zn (d + 33) 288 c (255, [(some (.ref 79)), (some (.int (Int32.ofInt sort))), (some (.int (Int32.ofInt x2))), (some (.int (Int32.ofInt x3))), (some (.int (Int32.ofInt x4)))], [], zk c m) Q := by
  intro w
  induction w using Nat.strongRecOn with | _ w ih => ?_
  intro x4 m hIm i1 t2 k4 i3 i29 tK tI hw
  have f85 : (0 : Int) ≤ m 79 7 ∧ m 79 7 ≤ 4 := hIm.1 79 7
  have f86 : (0 : Int) ≤ m 79 26 ∧ m 79 26 ≤ 5 := hIm.1 79 26
  have f87 : (0 : Int) ≤ m 79 27 ∧ m 79 27 ≤ 6 := hIm.1 79 27
  have f88 : (0 : Int) ≤ m 79 28 ∧ m 79 28 ≤ 5 := hIm.1 79 28
  have f89 : (0 : Int) ≤ m 79 29 ∧ m 79 29 ≤ 6 := hIm.1 79 29
  have f90 : (0 : Int) ≤ m 79 30 ∧ m 79 30 ≤ 6 := hIm.1 79 30
  by_cases b91 : 7 ≤ x4
  · refine zW.step (st1 := (292, [(some (.ref 79)), (some (.int (Int32.ofInt sort))), (some (.int (Int32.ofInt x2))), (some (.int (Int32.ofInt x3))), (some (.int (Int32.ofInt x4)))], [], zk c m)) (st2 := (292, [(some (.ref 79)), (some (.int (Int32.ofInt sort))), (some (.int (Int32.ofInt x2))), (some (.int (Int32.ofInt x3))), (some (.int (Int32.ofInt x4)))], [], zk c m)) ⟨[zo, zo, zt], _, rfl, ⟨trivial, trivial, zbt ((zi_le (by decide : (Int8.ofInt 7).toInt32 = Int32.ofInt 7) rfl (⟨by decide, by decide⟩ : zR 7) (by unfold zR; omega)).mpr b91), trivial⟩⟩ rfl ?_
    exact K x4 m hIm (by omega) (by exact t2) (by exact k4) (by omega) (by omega) (zK_cg tK (by omega)) tI (by omega)
  · refine zW.step (st1 := (262, [(some (.ref 79)), (some (.int (Int32.ofInt sort))), (some (.int (Int32.ofInt x2))), (some (.int (Int32.ofInt x3))), (some (.int (Int32.ofInt x4)))], [], zk c m)) (st2 := (262, [(some (.ref 79)), (some (.int (Int32.ofInt sort))), (some (.int (Int32.ofInt x2))), (some (.int (Int32.ofInt x3))), (some (.int (Int32.ofInt x4)))], [], zk c m)) ⟨[zo, zo, zo], _, rfl, ⟨trivial, trivial, zbf (fun q => b91 ((zi_le (by decide : (Int8.ofInt 7).toInt32 = Int32.ofInt 7) rfl (⟨by decide, by decide⟩ : zR 7) (by unfold zR; omega)).mp q)), trivial⟩⟩ rfl ?_
    have f92 := zk86 hIm.1 (((7 * x3) + x4).toNat)
    obtain ⟨m93, hm93⟩ : ∃ q, q = zm_up m 92 (((15 * x3) + x4).toNat) (m 86 (((7 * x3) + x4).toNat)) := ⟨_, rfl⟩
    have hIm93 := zJ_upE hIm hm93 (by unfold zOj zsen; omega) (zv86_w hIm.1 (by omega) (by omega))
    have em93 : m93 92 (((15 * x3) + x4).toNat) = (m 86 (((7 * x3) + x4).toNat)) := by rw [hm93]; exact zm_eq
    have f94 : m93 79 7 = m 79 7 := by rw [hm93]; exact zm_ne (Or.inl (by decide))
    have f95 : m93 79 26 = m 79 26 := by rw [hm93]; exact zm_ne (Or.inl (by decide))
    have f96 : m93 79 27 = m 79 27 := by rw [hm93]; exact zm_ne (Or.inl (by decide))
    have f97 : m93 79 28 = m 79 28 := by rw [hm93]; exact zm_ne (Or.inl (by decide))
    have f98 : m93 79 29 = m 79 29 := by rw [hm93]; exact zm_ne (Or.inl (by decide))
    have f99 : m93 79 30 = m 79 30 := by rw [hm93]; exact zm_ne (Or.inl (by decide))
    have f100 : m93 79 48 = m 79 48 := by rw [hm93]; exact zm_ne (Or.inl (by decide))
    have tk101 : zK m93 (m 79 29) := by rw [hm93]; exact zK_up tK (by decide)
    have tk102 : zS9 t9 m93 := by rw [hm93]; exact zS9_up tI (by decide)
    refine zW.step (st1 := (286, [(some (.ref 79)), (some (.int (Int32.ofInt sort))), (some (.int (Int32.ofInt x2))), (some (.int (Int32.ofInt x3))), (some (.int (Int32.ofInt x4)))], [], z_hup (zk c m) 92 (.inl (0, 178, .inl (upd (fun j => Int32.ofInt (m 92 j)) ((((Int8.ofInt 15).toInt32) * (Int32.ofInt x3)) + (Int32.ofInt x4)).toNatClampNeg (Int32.ofInt (m 86 ((((Int8.ofInt 7).toInt32) * (Int32.ofInt x3)) + (Int32.ofInt x4)).toNatClampNeg))))))) (st2 := (286, [(some (.ref 79)), (some (.int (Int32.ofInt sort))), (some (.int (Int32.ofInt x2))), (some (.int (Int32.ofInt x3))), (some (.int (Int32.ofInt x4)))], [], zk c m93)) ⟨[zo, zo, zo, zo, zo, zo, zo, zo, zo, zo, zo, zo, zo, zo, (false, 0, none, zh0, some (.inl (0, 42, .inl (fun j => Int32.ofInt (m 86 j))))), (false, 0, none, zh0, some (.inl (0, 178, .inl (fun j => Int32.ofInt (m 92 j)))))], _, rfl, ⟨trivial, (Nat.lt_of_lt_of_le (Nat.le_of_ble_eq_true rfl) hN), trivial, trivial, trivial, trivial, trivial, trivial, (Nat.lt_of_lt_of_le (Nat.le_of_ble_eq_true rfl) hN), trivial, trivial, trivial, trivial, trivial, ⟨zk_ra c m zA_86 (Nat.lt_of_lt_of_le (Nat.le_of_ble_eq_true rfl) hN), zi_in (zi_add (zi_mul (by decide : (Int8.ofInt 7).toInt32 = Int32.ofInt 7) rfl) rfl) (by omega) (by omega) (by omega)⟩, ⟨zk_ra c m zA_92 (Nat.lt_of_lt_of_le (Nat.le_of_ble_eq_true rfl) hN), zi_in (zi_add (zi_mul (by decide : (Int8.ofInt 15).toInt32 = Int32.ofInt 15) rfl) rfl) (by omega) (by omega) (by omega)⟩, trivial⟩⟩ (z_steq rfl rfl ((zk_ias c m zA_92 (zi_add (zi_mul (by decide : (Int8.ofInt 15).toInt32 = Int32.ofInt 15) rfl) rfl) (by unfold zR; omega) ((zk_rd (f := m 86) (zi_add (zi_mul (by decide : (Int8.ofInt 7).toInt32 = Int32.ofInt 7) rfl) rfl) (by unfold zR; omega)).trans rfl : Int32.ofInt (m 86 ((((Int8.ofInt 7).toInt32) * (Int32.ofInt x3)) + (Int32.ofInt x4)).toNatClampNeg) = Int32.ofInt (m 86 (((7 * x3) + x4).toNat)))).trans (by rw [hm93]))) ?_
    clear em93
    refine zW.step (st1 := (255, [(some (.ref 79)), (some (.int (Int32.ofInt sort))), (some (.int (Int32.ofInt x2))), (some (.int (Int32.ofInt x3))), (some (.int ((Int32.ofInt x4) + Int32.ofInt 1)))], [], zk c m93)) (st2 := (255, [(some (.ref 79)), (some (.int (Int32.ofInt sort))), (some (.int (Int32.ofInt x2))), (some (.int (Int32.ofInt x3))), (some (.int (Int32.ofInt (x4 + 1))))], [], zk c m93)) ⟨[zo, zo], _, rfl, ⟨trivial, trivial, trivial⟩⟩ (z_steq (z_c1 rfl (z_c1 rfl (z_c1 rfl (z_c1 rfl (z_c1 (z_si (zi_add rfl rfl)) rfl))))) rfl rfl) ?_
    exact ih _ (by omega) (x4 + 1) m93 hIm93 (by omega) (by exact zqT_k t2 hm93 (by omega) (by omega) (by omega)) (by exact zbk4 k4 hm93 (by omega) (fun q9 => by subst q9; exact tK x3 (by omega) (by omega))) (by omega) (by omega) (zK_cg tk101 (by omega)) tk102 rfl

set_option maxRecDepth 100000 in
set_option maxHeartbeats 4000000 in
theorem L_X12_text_244 (zn : Bool) (d : Nat) {c : Nat × Nat} {mC : zM} {t9 : Int} (hN : 107 ≤ c.1) (hC : c.1 < z_RO) (sort : Int) (r_sort : -2147483648 ≤ sort ∧ sort ≤ 2147483647) (ht : 0 ≤ t9 ∧ t9 ≤ 999990000) (x2 : Int) (m0 : zM) (Q : Option Value → z_H → Prop) (K : ∀ (x3 : Int) (o4 : Option Value) (m : zM), zJ mC t9 99 m → 0 ≤ x3 ∧ x3 ≤ m 79 29 → zqT (m 92) x3 → 1 ≤ m 79 29 ∧ 0 ≤ sort ∧ sort ≤ 0 → zK m (m 79 29) → zS9 t9 m → m 79 29 ≤ x3 → zW zn (d + 33) 288 c (354, [(some (.ref 79)), (some (.int (Int32.ofInt sort))), (some (.int (Int32.ofInt x2))), (some (.int (Int32.ofInt x3))), o4], [], zk c m) Q) :
    ∀ (w : Nat) (x3 : Int) (o4 : Option Value) (m : zM), zJ mC t9 99 m → 0 ≤ x3 ∧ x3 ≤ m 79 29 → zqT (m 92) x3 → 1 ≤ m 79 29 ∧ 0 ≤ sort ∧ sort ≤ 0 → zK m (m 79 29) → zS9 t9 m → w = (10 - x3).toNat → zW zn (d + 33) 288 c (244, [(some (.ref 79)), (some (.int (Int32.ofInt sort))), (some (.int (Int32.ofInt x2))), (some (.int (Int32.ofInt x3))), o4], [], zk c m) Q := by
  intro w
  induction w using Nat.strongRecOn with | _ w ih => ?_
  intro x3 o4 m hIm i1 t i29 tK tI hw
  have f103 : (0 : Int) ≤ m 79 7 ∧ m 79 7 ≤ 4 := hIm.1 79 7
  have f104 : (0 : Int) ≤ m 79 26 ∧ m 79 26 ≤ 5 := hIm.1 79 26
  have f105 : (0 : Int) ≤ m 79 27 ∧ m 79 27 ≤ 6 := hIm.1 79 27
  have f106 : (0 : Int) ≤ m 79 28 ∧ m 79 28 ≤ 5 := hIm.1 79 28
  have f107 : (0 : Int) ≤ m 79 29 ∧ m 79 29 ≤ 6 := hIm.1 79 29
  have f108 : (0 : Int) ≤ m 79 30 ∧ m 79 30 ≤ 6 := hIm.1 79 30
  by_cases b109 : (m 79 29) ≤ x3
  · refine zW.step (st1 := (354, [(some (.ref 79)), (some (.int (Int32.ofInt sort))), (some (.int (Int32.ofInt x2))), (some (.int (Int32.ofInt x3))), o4], [], zk c m)) (st2 := (354, [(some (.ref 79)), (some (.int (Int32.ofInt sort))), (some (.int (Int32.ofInt x2))), (some (.int (Int32.ofInt x3))), o4], [], zk c m)) ⟨[zo, zo, zo, zt], _, rfl, ⟨trivial, trivial, (Nat.lt_of_lt_of_le (Nat.le_of_ble_eq_true rfl) hN), zbt ((zi_le rfl rfl (by unfold zR; omega) (by unfold zR; omega)).mpr b109), trivial⟩⟩ rfl ?_
    exact K x3 o4 m hIm (by omega) (by exact t) (by omega) (zK_cg tK (by omega)) tI (by omega)
  · refine zW.step (st1 := (252, [(some (.ref 79)), (some (.int (Int32.ofInt sort))), (some (.int (Int32.ofInt x2))), (some (.int (Int32.ofInt x3))), o4], [], zk c m)) (st2 := (252, [(some (.ref 79)), (some (.int (Int32.ofInt sort))), (some (.int (Int32.ofInt x2))), (some (.int (Int32.ofInt x3))), o4], [], zk c m)) ⟨[zo, zo, zo, zo], _, rfl, ⟨trivial, trivial, (Nat.lt_of_lt_of_le (Nat.le_of_ble_eq_true rfl) hN), zbf (fun q => b109 ((zi_le rfl rfl (by unfold zR; omega) (by unfold zR; omega)).mp q)), trivial⟩⟩ rfl ?_
    refine zW.step (st1 := (255, [(some (.ref 79)), (some (.int (Int32.ofInt sort))), (some (.int (Int32.ofInt x2))), (some (.int (Int32.ofInt x3))), (some (.int (Int32.ofInt 0)))], [], zk c m)) (st2 := (255, [(some (.ref 79)), (some (.int (Int32.ofInt sort))), (some (.int (Int32.ofInt x2))), (some (.int (Int32.ofInt x3))), (some (.int (Int32.ofInt 0)))], [], zk c m)) ⟨[zo, zo], _, rfl, ⟨trivial, trivial, trivial⟩⟩ rfl ?_
    refine L_X12_text_255 zn _ hN hC sort r_sort ht x2 x3 m0 _ (fun x4_110 m_110 hIm_110 i1_110 t2_110 k4_110 i3_110 i29_110 tK_110 tI_110 e_110 => ?_) _ 0 m hIm (by omega) (by exact t) (by omega) (by omega) (by omega) (zK_cg tK (by omega)) tI rfl
    have f111 : (0 : Int) ≤ m_110 79 7 ∧ m_110 79 7 ≤ 4 := hIm_110.1 79 7
    have f112 : (0 : Int) ≤ m_110 79 26 ∧ m_110 79 26 ≤ 5 := hIm_110.1 79 26
    have f113 : (0 : Int) ≤ m_110 79 27 ∧ m_110 79 27 ≤ 6 := hIm_110.1 79 27
    have f114 : (0 : Int) ≤ m_110 79 28 ∧ m_110 79 28 ≤ 5 := hIm_110.1 79 28
    have f115 : (0 : Int) ≤ m_110 79 29 ∧ m_110 79 29 ≤ 6 := hIm_110.1 79 29
    have f116 : (0 : Int) ≤ m_110 79 30 ∧ m_110 79 30 ≤ 6 := hIm_110.1 79 30
    have f117 : (-1 : Int) ≤ m_110 92 (((15 * x3) + 6).toNat) ∧ m_110 92 (((15 * x3) + 6).toNat) ≤ 9 := zv_6 hIm_110.1 zV_92 (c := x3) (by omega)
    by_cases b118 : (m_110 92 (((15 * x3) + 6).toNat)) = 6
    · refine zW.step (st1 := (309, [(some (.ref 79)), (some (.int (Int32.ofInt sort))), (some (.int (Int32.ofInt x2))), (some (.int (Int32.ofInt x3))), (some (.int (Int32.ofInt x4_110)))], [], zk c m_110)) (st2 := (309, [(some (.ref 79)), (some (.int (Int32.ofInt sort))), (some (.int (Int32.ofInt x2))), (some (.int (Int32.ofInt x3))), (some (.int (Int32.ofInt x4_110)))], [], zk c m_110)) ⟨[zo, zo, zo, zo, zo, zo, zo, (false, 0, none, zh0, some (.inl (0, 178, .inl (fun j => Int32.ofInt (m_110 92 j))))), zo, zo], _, rfl, ⟨trivial, (Nat.lt_of_lt_of_le (Nat.le_of_ble_eq_true rfl) hN), trivial, trivial, trivial, trivial, trivial, ⟨zk_ra c m_110 zA_92 (Nat.lt_of_lt_of_le (Nat.le_of_ble_eq_true rfl) hN), zi_in (zi_add (zi_mul (by decide : (Int8.ofInt 15).toInt32 = Int32.ofInt 15) rfl) (by decide : (Int8.ofInt 6).toInt32 = Int32.ofInt 6)) (by omega) (by omega) (by omega)⟩, trivial, zbf (fun q => q ((zi_eq ((zk_rd (f := m_110 92) (zi_add (zi_mul (by decide : (Int8.ofInt 15).toInt32 = Int32.ofInt 15) rfl) (by decide : (Int8.ofInt 6).toInt32 = Int32.ofInt 6)) (by unfold zR; omega)).trans rfl : Int32.ofInt (m_110 92 ((((Int8.ofInt 15).toInt32) * (Int32.ofInt x3)) + ((Int8.ofInt 6).toInt32)).toNatClampNeg) = Int32.ofInt (m_110 92 (((15 * x3) + 6).toNat))) (by decide : (Int8.ofInt 6).toInt32 = Int32.ofInt 6) (by unfold zR; omega) (⟨by decide, by decide⟩ : zR 6)).mpr b118)), trivial⟩⟩ rfl ?_
      obtain ⟨m119, hm119⟩ : ∃ q, q = zm_up m_110 92 (((15 * x3) + 6).toNat) (-1) := ⟨_, rfl⟩
      have hIm119 := zJ_upE hIm_110 hm119 (by unfold zOj zsen; omega) (zvw_6 zV_92 (c := x3) (by omega) (show (-1 : Int) ≤ (-1) ∧ (-1) ≤ 9 by omega))
      have em119 : m119 92 (((15 * x3) + 6).toNat) = (-1) := by rw [hm119]; exact zm_eq
      have f120 : m119 79 7 = m_110 79 7 := by rw [hm119]; exact zm_ne (Or.inl (by decide))
      have f121 : m119 79 26 = m_110 79 26 := by rw [hm119]; exact zm_ne (Or.inl (by decide))
      have f122 : m119 79 27 = m_110 79 27 := by rw [hm119]; exact zm_ne (Or.inl (by decide))
      have f123 : m119 79 28 = m_110 79 28 := by rw [hm119]; exact zm_ne (Or.inl (by decide))
      have f124 : m119 79 29 = m_110 79 29 := by rw [hm119]; exact zm_ne (Or.inl (by decide))
      have f125 : m119 79 30 = m_110 79 30 := by rw [hm119]; exact zm_ne (Or.inl (by decide))
      have f126 : m119 92 (15 * x3 + 4).toNat = m_110 92 (15 * x3 + 4).toNat := by rw [hm119]; exact zm_ne (by omega)
      have f127 : m119 79 48 = m_110 79 48 := by rw [hm119]; exact zm_ne (Or.inl (by decide))
      have tk128 : zK m119 (m_110 79 29) := by rw [hm119]; exact zK_up tK_110 (by decide)
      have tk129 : zS9 t9 m119 := by rw [hm119]; exact zS9_up tI_110 (by decide)
      refine zW.step (st1 := (322, [(some (.ref 79)), (some (.int (Int32.ofInt sort))), (some (.int (Int32.ofInt x2))), (some (.int (Int32.ofInt x3))), (some (.int (Int32.ofInt x4_110)))], [], z_hup (zk c m_110) 92 (.inl (0, 178, .inl (upd (fun j => Int32.ofInt (m_110 92 j)) ((((Int8.ofInt 15).toInt32) * (Int32.ofInt x3)) + ((Int8.ofInt 6).toInt32)).toNatClampNeg (Int32.ofInt (-1))))))) (st2 := (322, [(some (.ref 79)), (some (.int (Int32.ofInt sort))), (some (.int (Int32.ofInt x2))), (some (.int (Int32.ofInt x3))), (some (.int (Int32.ofInt x4_110)))], [], zk c m119)) ⟨[zo, zo, zo, zo, zo, zo, zo, zo, (false, 0, none, zh0, some (.inl (0, 178, .inl (fun j => Int32.ofInt (m_110 92 j)))))], _, rfl, ⟨trivial, (Nat.lt_of_lt_of_le (Nat.le_of_ble_eq_true rfl) hN), trivial, trivial, trivial, trivial, trivial, trivial, ⟨zk_ra c m_110 zA_92 (Nat.lt_of_lt_of_le (Nat.le_of_ble_eq_true rfl) hN), zi_in (zi_add (zi_mul (by decide : (Int8.ofInt 15).toInt32 = Int32.ofInt 15) rfl) (by decide : (Int8.ofInt 6).toInt32 = Int32.ofInt 6)) (by omega) (by omega) (by omega)⟩, trivial⟩⟩ (z_steq rfl rfl ((zk_ias c m_110 zA_92 (zi_add (zi_mul (by decide : (Int8.ofInt 15).toInt32 = Int32.ofInt 15) rfl) (by decide : (Int8.ofInt 6).toInt32 = Int32.ofInt 6)) (by unfold zR; omega) rfl).trans (by rw [hm119]))) ?_
      obtain ⟨m130, hm130⟩ : ∃ q, q = zm_up m119 92 (((15 * x3) + 7).toNat) 1 := ⟨_, rfl⟩
      have hIm130 := zJ_upE hIm119 hm130 (by unfold zOj zsen; omega) (zvw_7 zV_92 (c := x3) (by omega) (show (0 : Int) ≤ 1 ∧ 1 ≤ 1 by omega))
      have em130 : m130 92 (((15 * x3) + 7).toNat) = 1 := by rw [hm130]; exact zm_eq
      have f131 : m130 79 7 = m119 79 7 := by rw [hm130]; exact zm_ne (Or.inl (by decide))
      have f132 : m130 79 26 = m119 79 26 := by rw [hm130]; exact zm_ne (Or.inl (by decide))
      have f133 : m130 79 27 = m119 79 27 := by rw [hm130]; exact zm_ne (Or.inl (by decide))
      have f134 : m130 79 28 = m119 79 28 := by rw [hm130]; exact zm_ne (Or.inl (by decide))
      have f135 : m130 79 29 = m119 79 29 := by rw [hm130]; exact zm_ne (Or.inl (by decide))
      have f136 : m130 79 30 = m119 79 30 := by rw [hm130]; exact zm_ne (Or.inl (by decide))
      have f137 : m130 92 (15 * x3 + 4).toNat = m119 92 (15 * x3 + 4).toNat := by rw [hm130]; exact zm_ne (by omega)
      have f138 : m130 79 48 = m119 79 48 := by rw [hm130]; exact zm_ne (Or.inl (by decide))
      have tk139 : zK m130 (m_110 79 29) := by rw [hm130]; exact zK_up tk128 (by decide)
      have tk140 : zS9 t9 m130 := by rw [hm130]; exact zS9_up tk129 (by decide)
      clear tk128 tk129
      refine zW.step (st1 := (335, [(some (.ref 79)), (some (.int (Int32.ofInt sort))), (some (.int (Int32.ofInt x2))), (some (.int (Int32.ofInt x3))), (some (.int (Int32.ofInt x4_110)))], [], z_hup (zk c m119) 92 (.inl (0, 178, .inl (upd (fun j => Int32.ofInt (m119 92 j)) ((((Int8.ofInt 15).toInt32) * (Int32.ofInt x3)) + ((Int8.ofInt 7).toInt32)).toNatClampNeg (Int32.ofInt 1)))))) (st2 := (335, [(some (.ref 79)), (some (.int (Int32.ofInt sort))), (some (.int (Int32.ofInt x2))), (some (.int (Int32.ofInt x3))), (some (.int (Int32.ofInt x4_110)))], [], zk c m130)) ⟨[zo, zo, zo, zo, zo, zo, zo, zo, (false, 0, none, zh0, some (.inl (0, 178, .inl (fun j => Int32.ofInt (m119 92 j)))))], _, rfl, ⟨trivial, (Nat.lt_of_lt_of_le (Nat.le_of_ble_eq_true rfl) hN), trivial, trivial, trivial, trivial, trivial, trivial, ⟨zk_ra c m119 zA_92 (Nat.lt_of_lt_of_le (Nat.le_of_ble_eq_true rfl) hN), zi_in (zi_add (zi_mul (by decide : (Int8.ofInt 15).toInt32 = Int32.ofInt 15) rfl) (by decide : (Int8.ofInt 7).toInt32 = Int32.ofInt 7)) (by omega) (by omega) (by omega)⟩, trivial⟩⟩ (z_steq rfl rfl ((zk_ias c m119 zA_92 (zi_add (zi_mul (by decide : (Int8.ofInt 15).toInt32 = Int32.ofInt 15) rfl) (by decide : (Int8.ofInt 7).toInt32 = Int32.ofInt 7)) (by unfold zR; omega) rfl).trans (by rw [hm130]))) ?_
      clear em119
      obtain ⟨m141, hm141⟩ : ∃ q, q = zm_up m130 92 (((15 * x3) + 14).toNat) (-1) := ⟨_, rfl⟩
      have hIm141 := zJ_upE hIm130 hm141 (by unfold zOj zsen; omega) (zvw_14n zV_92 (c := x3) (by omega) (Or.inl rfl))
      have em141 : m141 92 (((15 * x3) + 14).toNat) = (-1) := by rw [hm141]; exact zm_eq
      have f142 : m141 79 7 = m130 79 7 := by rw [hm141]; exact zm_ne (Or.inl (by decide))
      have f143 : m141 79 26 = m130 79 26 := by rw [hm141]; exact zm_ne (Or.inl (by decide))
      have f144 : m141 79 27 = m130 79 27 := by rw [hm141]; exact zm_ne (Or.inl (by decide))
      have f145 : m141 79 28 = m130 79 28 := by rw [hm141]; exact zm_ne (Or.inl (by decide))
      have f146 : m141 79 29 = m130 79 29 := by rw [hm141]; exact zm_ne (Or.inl (by decide))
      have f147 : m141 79 30 = m130 79 30 := by rw [hm141]; exact zm_ne (Or.inl (by decide))
      have f148 : m141 92 (15 * x3 + 4).toNat = m130 92 (15 * x3 + 4).toNat := by rw [hm141]; exact zm_ne (by omega)
      have f149 : m141 79 48 = m130 79 48 := by rw [hm141]; exact zm_ne (Or.inl (by decide))
      have tk150 : zK m141 (m_110 79 29) := by rw [hm141]; exact zK_up tk139 (by decide)
      have tk151 : zS9 t9 m141 := by rw [hm141]; exact zS9_up tk140 (by decide)
      clear tk139 tk140
      refine zW.step (st1 := (348, [(some (.ref 79)), (some (.int (Int32.ofInt sort))), (some (.int (Int32.ofInt x2))), (some (.int (Int32.ofInt x3))), (some (.int (Int32.ofInt x4_110)))], [], z_hup (zk c m130) 92 (.inl (0, 178, .inl (upd (fun j => Int32.ofInt (m130 92 j)) ((((Int8.ofInt 15).toInt32) * (Int32.ofInt x3)) + ((Int8.ofInt 14).toInt32)).toNatClampNeg (Int32.ofInt (-1))))))) (st2 := (348, [(some (.ref 79)), (some (.int (Int32.ofInt sort))), (some (.int (Int32.ofInt x2))), (some (.int (Int32.ofInt x3))), (some (.int (Int32.ofInt x4_110)))], [], zk c m141)) ⟨[zo, zo, zo, zo, zo, zo, zo, zo, (false, 0, none, zh0, some (.inl (0, 178, .inl (fun j => Int32.ofInt (m130 92 j)))))], _, rfl, ⟨trivial, (Nat.lt_of_lt_of_le (Nat.le_of_ble_eq_true rfl) hN), trivial, trivial, trivial, trivial, trivial, trivial, ⟨zk_ra c m130 zA_92 (Nat.lt_of_lt_of_le (Nat.le_of_ble_eq_true rfl) hN), zi_in (zi_add (zi_mul (by decide : (Int8.ofInt 15).toInt32 = Int32.ofInt 15) rfl) (by decide : (Int8.ofInt 14).toInt32 = Int32.ofInt 14)) (by omega) (by omega) (by omega)⟩, trivial⟩⟩ (z_steq rfl rfl ((zk_ias c m130 zA_92 (zi_add (zi_mul (by decide : (Int8.ofInt 15).toInt32 = Int32.ofInt 15) rfl) (by decide : (Int8.ofInt 14).toInt32 = Int32.ofInt 14)) (by unfold zR; omega) rfl).trans (by rw [hm141]))) ?_
      clear em130
      refine zW.step (st1 := (244, [(some (.ref 79)), (some (.int (Int32.ofInt sort))), (some (.int (Int32.ofInt x2))), (some (.int ((Int32.ofInt x3) + Int32.ofInt 1))), (some (.int (Int32.ofInt x4_110)))], [], zk c m141)) (st2 := (244, [(some (.ref 79)), (some (.int (Int32.ofInt sort))), (some (.int (Int32.ofInt x2))), (some (.int (Int32.ofInt (x3 + 1)))), (some (.int (Int32.ofInt x4_110)))], [], zk c m141)) ⟨[zo, zo], _, rfl, ⟨trivial, trivial, trivial⟩⟩ (z_steq (z_c1 rfl (z_c1 rfl (z_c1 rfl (z_c1 (z_si (zi_add rfl rfl)) rfl)))) rfl rfl) ?_
      exact ih _ (by omega) (x3 + 1) (some (.int (Int32.ofInt x4_110))) m141 hIm141 (by omega) (by exact zqT_n (zqT_eq t2_110 hm119 (by unfold zsen; omega)) hm130 hm141 (by omega) (by omega)) (by omega) (zK_cg tk150 (by omega)) tk151 rfl
    · refine zW.step (st1 := (322, [(some (.ref 79)), (some (.int (Int32.ofInt sort))), (some (.int (Int32.ofInt x2))), (some (.int (Int32.ofInt x3))), (some (.int (Int32.ofInt x4_110)))], [], zk c m_110)) (st2 := (322, [(some (.ref 79)), (some (.int (Int32.ofInt sort))), (some (.int (Int32.ofInt x2))), (some (.int (Int32.ofInt x3))), (some (.int (Int32.ofInt x4_110)))], [], zk c m_110)) ⟨[zo, zo, zo, zo, zo, zo, zo, (false, 0, none, zh0, some (.inl (0, 178, .inl (fun j => Int32.ofInt (m_110 92 j))))), zo, zt], _, rfl, ⟨trivial, (Nat.lt_of_lt_of_le (Nat.le_of_ble_eq_true rfl) hN), trivial, trivial, trivial, trivial, trivial, ⟨zk_ra c m_110 zA_92 (Nat.lt_of_lt_of_le (Nat.le_of_ble_eq_true rfl) hN), zi_in (zi_add (zi_mul (by decide : (Int8.ofInt 15).toInt32 = Int32.ofInt 15) rfl) (by decide : (Int8.ofInt 6).toInt32 = Int32.ofInt 6)) (by omega) (by omega) (by omega)⟩, trivial, zbt (fun q => b118 ((zi_eq ((zk_rd (f := m_110 92) (zi_add (zi_mul (by decide : (Int8.ofInt 15).toInt32 = Int32.ofInt 15) rfl) (by decide : (Int8.ofInt 6).toInt32 = Int32.ofInt 6)) (by unfold zR; omega)).trans rfl : Int32.ofInt (m_110 92 ((((Int8.ofInt 15).toInt32) * (Int32.ofInt x3)) + ((Int8.ofInt 6).toInt32)).toNatClampNeg) = Int32.ofInt (m_110 92 (((15 * x3) + 6).toNat))) (by decide : (Int8.ofInt 6).toInt32 = Int32.ofInt 6) (by unfold zR; omega) (⟨by decide, by decide⟩ : zR 6)).mp q)), trivial⟩⟩ rfl ?_
      obtain ⟨m152, hm152⟩ : ∃ q, q = zm_up m_110 92 (((15 * x3) + 7).toNat) 1 := ⟨_, rfl⟩
      have hIm152 := zJ_upE hIm_110 hm152 (by unfold zOj zsen; omega) (zvw_7 zV_92 (c := x3) (by omega) (show (0 : Int) ≤ 1 ∧ 1 ≤ 1 by omega))
      have em152 : m152 92 (((15 * x3) + 7).toNat) = 1 := by rw [hm152]; exact zm_eq
      have f153 : m152 92 (((15 * x3) + 6).toNat) = m_110 92 (((15 * x3) + 6).toNat) := by rw [hm152]; exact zm_ne (by omega)
      have f154 : m152 79 7 = m_110 79 7 := by rw [hm152]; exact zm_ne (Or.inl (by decide))
      have f155 : m152 79 26 = m_110 79 26 := by rw [hm152]; exact zm_ne (Or.inl (by decide))
      have f156 : m152 79 27 = m_110 79 27 := by rw [hm152]; exact zm_ne (Or.inl (by decide))
      have f157 : m152 79 28 = m_110 79 28 := by rw [hm152]; exact zm_ne (Or.inl (by decide))
      have f158 : m152 79 29 = m_110 79 29 := by rw [hm152]; exact zm_ne (Or.inl (by decide))
      have f159 : m152 79 30 = m_110 79 30 := by rw [hm152]; exact zm_ne (Or.inl (by decide))
      have f160 : m152 92 (15 * x3 + 4).toNat = m_110 92 (15 * x3 + 4).toNat := by rw [hm152]; exact zm_ne (by omega)
      have f161 : m152 79 48 = m_110 79 48 := by rw [hm152]; exact zm_ne (Or.inl (by decide))
      have tk162 : zK m152 (m_110 79 29) := by rw [hm152]; exact zK_up tK_110 (by decide)
      have tk163 : zS9 t9 m152 := by rw [hm152]; exact zS9_up tI_110 (by decide)
      refine zW.step (st1 := (335, [(some (.ref 79)), (some (.int (Int32.ofInt sort))), (some (.int (Int32.ofInt x2))), (some (.int (Int32.ofInt x3))), (some (.int (Int32.ofInt x4_110)))], [], z_hup (zk c m_110) 92 (.inl (0, 178, .inl (upd (fun j => Int32.ofInt (m_110 92 j)) ((((Int8.ofInt 15).toInt32) * (Int32.ofInt x3)) + ((Int8.ofInt 7).toInt32)).toNatClampNeg (Int32.ofInt 1)))))) (st2 := (335, [(some (.ref 79)), (some (.int (Int32.ofInt sort))), (some (.int (Int32.ofInt x2))), (some (.int (Int32.ofInt x3))), (some (.int (Int32.ofInt x4_110)))], [], zk c m152)) ⟨[zo, zo, zo, zo, zo, zo, zo, zo, (false, 0, none, zh0, some (.inl (0, 178, .inl (fun j => Int32.ofInt (m_110 92 j)))))], _, rfl, ⟨trivial, (Nat.lt_of_lt_of_le (Nat.le_of_ble_eq_true rfl) hN), trivial, trivial, trivial, trivial, trivial, trivial, ⟨zk_ra c m_110 zA_92 (Nat.lt_of_lt_of_le (Nat.le_of_ble_eq_true rfl) hN), zi_in (zi_add (zi_mul (by decide : (Int8.ofInt 15).toInt32 = Int32.ofInt 15) rfl) (by decide : (Int8.ofInt 7).toInt32 = Int32.ofInt 7)) (by omega) (by omega) (by omega)⟩, trivial⟩⟩ (z_steq rfl rfl ((zk_ias c m_110 zA_92 (zi_add (zi_mul (by decide : (Int8.ofInt 15).toInt32 = Int32.ofInt 15) rfl) (by decide : (Int8.ofInt 7).toInt32 = Int32.ofInt 7)) (by unfold zR; omega) rfl).trans (by rw [hm152]))) ?_
      obtain ⟨m164, hm164⟩ : ∃ q, q = zm_up m152 92 (((15 * x3) + 14).toNat) (-1) := ⟨_, rfl⟩
      have hIm164 := zJ_upE hIm152 hm164 (by unfold zOj zsen; omega) (zvw_14n zV_92 (c := x3) (by omega) (Or.inl rfl))
      have em164 : m164 92 (((15 * x3) + 14).toNat) = (-1) := by rw [hm164]; exact zm_eq
      have f165 : m164 92 (((15 * x3) + 6).toNat) = m152 92 (((15 * x3) + 6).toNat) := by rw [hm164]; exact zm_ne (by omega)
      have f166 : m164 79 7 = m152 79 7 := by rw [hm164]; exact zm_ne (Or.inl (by decide))
      have f167 : m164 79 26 = m152 79 26 := by rw [hm164]; exact zm_ne (Or.inl (by decide))
      have f168 : m164 79 27 = m152 79 27 := by rw [hm164]; exact zm_ne (Or.inl (by decide))
      have f169 : m164 79 28 = m152 79 28 := by rw [hm164]; exact zm_ne (Or.inl (by decide))
      have f170 : m164 79 29 = m152 79 29 := by rw [hm164]; exact zm_ne (Or.inl (by decide))
      have f171 : m164 79 30 = m152 79 30 := by rw [hm164]; exact zm_ne (Or.inl (by decide))
      have f172 : m164 92 (15 * x3 + 4).toNat = m152 92 (15 * x3 + 4).toNat := by rw [hm164]; exact zm_ne (by omega)
      have f173 : m164 79 48 = m152 79 48 := by rw [hm164]; exact zm_ne (Or.inl (by decide))
      have tk174 : zK m164 (m_110 79 29) := by rw [hm164]; exact zK_up tk162 (by decide)
      have tk175 : zS9 t9 m164 := by rw [hm164]; exact zS9_up tk163 (by decide)
      clear tk162 tk163
      refine zW.step (st1 := (348, [(some (.ref 79)), (some (.int (Int32.ofInt sort))), (some (.int (Int32.ofInt x2))), (some (.int (Int32.ofInt x3))), (some (.int (Int32.ofInt x4_110)))], [], z_hup (zk c m152) 92 (.inl (0, 178, .inl (upd (fun j => Int32.ofInt (m152 92 j)) ((((Int8.ofInt 15).toInt32) * (Int32.ofInt x3)) + ((Int8.ofInt 14).toInt32)).toNatClampNeg (Int32.ofInt (-1))))))) (st2 := (348, [(some (.ref 79)), (some (.int (Int32.ofInt sort))), (some (.int (Int32.ofInt x2))), (some (.int (Int32.ofInt x3))), (some (.int (Int32.ofInt x4_110)))], [], zk c m164)) ⟨[zo, zo, zo, zo, zo, zo, zo, zo, (false, 0, none, zh0, some (.inl (0, 178, .inl (fun j => Int32.ofInt (m152 92 j)))))], _, rfl, ⟨trivial, (Nat.lt_of_lt_of_le (Nat.le_of_ble_eq_true rfl) hN), trivial, trivial, trivial, trivial, trivial, trivial, ⟨zk_ra c m152 zA_92 (Nat.lt_of_lt_of_le (Nat.le_of_ble_eq_true rfl) hN), zi_in (zi_add (zi_mul (by decide : (Int8.ofInt 15).toInt32 = Int32.ofInt 15) rfl) (by decide : (Int8.ofInt 14).toInt32 = Int32.ofInt 14)) (by omega) (by omega) (by omega)⟩, trivial⟩⟩ (z_steq rfl rfl ((zk_ias c m152 zA_92 (zi_add (zi_mul (by decide : (Int8.ofInt 15).toInt32 = Int32.ofInt 15) rfl) (by decide : (Int8.ofInt 14).toInt32 = Int32.ofInt 14)) (by unfold zR; omega) rfl).trans (by rw [hm164]))) ?_
      clear em152
      refine zW.step (st1 := (244, [(some (.ref 79)), (some (.int (Int32.ofInt sort))), (some (.int (Int32.ofInt x2))), (some (.int ((Int32.ofInt x3) + Int32.ofInt 1))), (some (.int (Int32.ofInt x4_110)))], [], zk c m164)) (st2 := (244, [(some (.ref 79)), (some (.int (Int32.ofInt sort))), (some (.int (Int32.ofInt x2))), (some (.int (Int32.ofInt (x3 + 1)))), (some (.int (Int32.ofInt x4_110)))], [], zk c m164)) ⟨[zo, zo], _, rfl, ⟨trivial, trivial, trivial⟩⟩ (z_steq (z_c1 rfl (z_c1 rfl (z_c1 rfl (z_c1 (z_si (zi_add rfl rfl)) rfl)))) rfl rfl) ?_
      exact ih _ (by omega) (x3 + 1) (some (.int (Int32.ofInt x4_110))) m164 hIm164 (by omega) (by exact zqT_n t2_110 hm152 hm164 (by omega) (by omega)) (by omega) (zK_cg tk174 (by omega)) tk175 rfl

set_option maxRecDepth 100000 in
set_option maxHeartbeats 4000000 in
theorem L_X12_text_356 (zn : Bool) (d : Nat) {c : Nat × Nat} {mC : zM} {t9 : Int} (hN : 107 ≤ c.1) (hC : c.1 < z_RO) (sort : Int) (r_sort : -2147483648 ≤ sort ∧ sort ≤ 2147483647) (ht : 0 ≤ t9 ∧ t9 ≤ 999990000) (x2 : Int) (m0 : zM) (Q : Option Value → z_H → Prop) (K : ∀ (x3 : Int) (o4 : Option Value) (m : zM), zJ mC t9 99 m → 0 ≤ x3 ∧ x3 ≤ 6 → zqP (m 92) 0 → 1 ≤ m 79 29 ∧ 0 ≤ sort ∧ sort ≤ 0 → zS9 t9 m → zW zn (d + 33) 288 c (423, [(some (.ref 79)), (some (.int (Int32.ofInt sort))), (some (.int (Int32.ofInt x2))), (some (.int (Int32.ofInt x3))), o4], [], zk c m) Q) :
    ∀ (w : Nat) (x3 : Int) (o4 : Option Value) (m : zM), zJ mC t9 99 m → 0 ≤ x3 ∧ x3 ≤ 6 → zqP (m 92) 0 → 1 ≤ m 79 29 ∧ 0 ≤ sort ∧ sort ≤ 0 → zS9 t9 m → w = (6 - x3).toNat → zW zn (d + 33) 288 c (356, [(some (.ref 79)), (some (.int (Int32.ofInt sort))), (some (.int (Int32.ofInt x2))), (some (.int (Int32.ofInt x3))), o4], [], zk c m) Q := by
  intro w
  induction w using Nat.strongRecOn with | _ w ih => ?_
  intro x3 o4 m hIm i1 p3 i29 tI hw
  have f176 : (0 : Int) ≤ m 79 7 ∧ m 79 7 ≤ 4 := hIm.1 79 7
  have f177 : (0 : Int) ≤ m 79 26 ∧ m 79 26 ≤ 5 := hIm.1 79 26
  have f178 : (0 : Int) ≤ m 79 27 ∧ m 79 27 ≤ 6 := hIm.1 79 27
  have f179 : (0 : Int) ≤ m 79 28 ∧ m 79 28 ≤ 5 := hIm.1 79 28
  have f180 : (0 : Int) ≤ m 79 29 ∧ m 79 29 ≤ 6 := hIm.1 79 29
  have f181 : (0 : Int) ≤ m 79 30 ∧ m 79 30 ≤ 6 := hIm.1 79 30
  by_cases b182 : (m 79 27) ≤ x3
  · refine zW.step (st1 := (423, [(some (.ref 79)), (some (.int (Int32.ofInt sort))), (some (.int (Int32.ofInt x2))), (some (.int (Int32.ofInt x3))), o4], [], zk c m)) (st2 := (423, [(some (.ref 79)), (some (.int (Int32.ofInt sort))), (some (.int (Int32.ofInt x2))), (some (.int (Int32.ofInt x3))), o4], [], zk c m)) ⟨[zo, zo, zo, zt], _, rfl, ⟨trivial, trivial, (Nat.lt_of_lt_of_le (Nat.le_of_ble_eq_true rfl) hN), zbt ((zi_le rfl rfl (by unfold zR; omega) (by unfold zR; omega)).mpr b182), trivial⟩⟩ rfl ?_
    exact K x3 o4 m hIm (by omega) (by exact p3) (by omega) tI
  · refine zW.step (st1 := (364, [(some (.ref 79)), (some (.int (Int32.ofInt sort))), (some (.int (Int32.ofInt x2))), (some (.int (Int32.ofInt x3))), o4], [], zk c m)) (st2 := (364, [(some (.ref 79)), (some (.int (Int32.ofInt sort))), (some (.int (Int32.ofInt x2))), (some (.int (Int32.ofInt x3))), o4], [], zk c m)) ⟨[zo, zo, zo, zo], _, rfl, ⟨trivial, trivial, (Nat.lt_of_lt_of_le (Nat.le_of_ble_eq_true rfl) hN), zbf (fun q => b182 ((zi_le rfl rfl (by unfold zR; omega) (by unfold zR; omega)).mp q)), trivial⟩⟩ rfl ?_
    have f183 : (-2147483648 : Int) ≤ m 87 ((2 * x3).toNat) ∧ m 87 ((2 * x3).toNat) ≤ 2147483647 := hIm.1 87 ((2 * x3).toNat)
    obtain ⟨m184, hm184⟩ : ∃ q, q = zm_up m 92 ((150 + (4 * x3)).toNat) (m 87 ((2 * x3).toNat)) := ⟨_, rfl⟩
    have hIm184 := zJ_upE hIm hm184 (by unfold zOj zsen; omega) (zvw_p0 zV_92 (c := x3) (by omega) (show (-2147483648 : Int) ≤ (m 87 ((2 * x3).toNat)) ∧ (m 87 ((2 * x3).toNat)) ≤ 2147483647 by omega))
    have em184 : m184 92 ((150 + (4 * x3)).toNat) = (m 87 ((2 * x3).toNat)) := by rw [hm184]; exact zm_eq
    have f185 : m184 79 27 = m 79 27 := by rw [hm184]; exact zm_ne (Or.inl (by decide))
    have f186 : m184 79 7 = m 79 7 := by rw [hm184]; exact zm_ne (Or.inl (by decide))
    have f187 : m184 79 26 = m 79 26 := by rw [hm184]; exact zm_ne (Or.inl (by decide))
    have f188 : m184 79 28 = m 79 28 := by rw [hm184]; exact zm_ne (Or.inl (by decide))
    have f189 : m184 79 29 = m 79 29 := by rw [hm184]; exact zm_ne (Or.inl (by decide))
    have f190 : m184 79 30 = m 79 30 := by rw [hm184]; exact zm_ne (Or.inl (by decide))
    have f191 : m184 79 48 = m 79 48 := by rw [hm184]; exact zm_ne (Or.inl (by decide))
    have tk192 : zS9 t9 m184 := by rw [hm184]; exact zS9_up tI (by decide)
    refine zW.step (st1 := (388, [(some (.ref 79)), (some (.int (Int32.ofInt sort))), (some (.int (Int32.ofInt x2))), (some (.int (Int32.ofInt x3))), (some (.int (((Int16.ofInt 150).toInt32) + ((Int32.ofInt 4) * (Int32.ofInt x3)))))], [], z_hup (zk c m) 92 (.inl (0, 178, .inl (upd (fun j => Int32.ofInt (m 92 j)) (((Int16.ofInt 150).toInt32) + ((Int32.ofInt 4) * (Int32.ofInt x3))).toNatClampNeg (Int32.ofInt (m 87 ((Int32.ofInt 2) * (Int32.ofInt x3)).toNatClampNeg))))))) (st2 := (388, [(some (.ref 79)), (some (.int (Int32.ofInt sort))), (some (.int (Int32.ofInt x2))), (some (.int (Int32.ofInt x3))), (some (.int (Int32.ofInt (150 + (4 * x3)))))], [], zk c m184)) ⟨[zo, zo, zo, zo, zo, zo, zo, zo, zo, zo, zo, zo, zo, zo, (false, 0, none, zh0, some (.inl (0, 12, .inl (fun j => Int32.ofInt (m 87 j))))), (false, 0, none, zh0, some (.inl (0, 178, .inl (fun j => Int32.ofInt (m 92 j)))))], _, rfl, ⟨trivial, trivial, trivial, trivial, trivial, trivial, trivial, (Nat.lt_of_lt_of_le (Nat.le_of_ble_eq_true rfl) hN), trivial, trivial, (Nat.lt_of_lt_of_le (Nat.le_of_ble_eq_true rfl) hN), trivial, trivial, trivial, ⟨zk_ra c m zA_87 (Nat.lt_of_lt_of_le (Nat.le_of_ble_eq_true rfl) hN), zi_in (zi_mul rfl rfl) (by omega) (by omega) (by omega)⟩, ⟨zk_ra c m zA_92 (Nat.lt_of_lt_of_le (Nat.le_of_ble_eq_true rfl) hN), zi_in (zi_add (by decide : (Int16.ofInt 150).toInt32 = Int32.ofInt 150) (zi_mul rfl rfl)) (by omega) (by omega) (by omega)⟩, trivial⟩⟩ (z_steq (z_c1 rfl (z_c1 rfl (z_c1 rfl (z_c1 rfl (z_c1 (z_si (zi_add (by decide : (Int16.ofInt 150).toInt32 = Int32.ofInt 150) (zi_mul rfl rfl))) rfl))))) rfl ((zk_ias c m zA_92 (zi_add (by decide : (Int16.ofInt 150).toInt32 = Int32.ofInt 150) (zi_mul rfl rfl)) (by unfold zR; omega) ((zk_rd (f := m 87) (zi_mul rfl rfl) (by unfold zR; omega)).trans rfl : Int32.ofInt (m 87 ((Int32.ofInt 2) * (Int32.ofInt x3)).toNatClampNeg) = Int32.ofInt (m 87 ((2 * x3).toNat)))).trans (by rw [hm184]))) ?_
    clear f183 em184
    have f193 : (-2147483648 : Int) ≤ m184 87 (((2 * x3) + 1).toNat) ∧ m184 87 (((2 * x3) + 1).toNat) ≤ 2147483647 := hIm184.1 87 (((2 * x3) + 1).toNat)
    obtain ⟨m194, hm194⟩ : ∃ q, q = zm_up m184 92 (((150 + (4 * x3)) + 1).toNat) (m184 87 (((2 * x3) + 1).toNat)) := ⟨_, rfl⟩
    have hIm194 := zJ_upE hIm184 hm194 (by unfold zOj zsen; omega) (zvw_p1 zV_92 (c := x3) (by omega) (show (-2147483648 : Int) ≤ (m184 87 (((2 * x3) + 1).toNat)) ∧ (m184 87 (((2 * x3) + 1).toNat)) ≤ 2147483647 by omega))
    have em194 : m194 92 (((150 + (4 * x3)) + 1).toNat) = (m184 87 (((2 * x3) + 1).toNat)) := by rw [hm194]; exact zm_eq
    have f195 : m194 79 27 = m184 79 27 := by rw [hm194]; exact zm_ne (Or.inl (by decide))
    have f196 : m194 79 7 = m184 79 7 := by rw [hm194]; exact zm_ne (Or.inl (by decide))
    have f197 : m194 79 26 = m184 79 26 := by rw [hm194]; exact zm_ne (Or.inl (by decide))
    have f198 : m194 79 28 = m184 79 28 := by rw [hm194]; exact zm_ne (Or.inl (by decide))
    have f199 : m194 79 29 = m184 79 29 := by rw [hm194]; exact zm_ne (Or.inl (by decide))
    have f200 : m194 79 30 = m184 79 30 := by rw [hm194]; exact zm_ne (Or.inl (by decide))
    have f201 : m194 79 48 = m184 79 48 := by rw [hm194]; exact zm_ne (Or.inl (by decide))
    have tk202 : zS9 t9 m194 := by rw [hm194]; exact zS9_up tk192 (by decide)
    clear tk192
    refine zW.step (st1 := (407, [(some (.ref 79)), (some (.int (Int32.ofInt sort))), (some (.int (Int32.ofInt x2))), (some (.int (Int32.ofInt x3))), (some (.int (Int32.ofInt (150 + (4 * x3)))))], [], z_hup (zk c m184) 92 (.inl (0, 178, .inl (upd (fun j => Int32.ofInt (m184 92 j)) ((Int32.ofInt (150 + (4 * x3))) + (Int32.ofInt 1)).toNatClampNeg (Int32.ofInt (m184 87 (((Int32.ofInt 2) * (Int32.ofInt x3)) + (Int32.ofInt 1)).toNatClampNeg))))))) (st2 := (407, [(some (.ref 79)), (some (.int (Int32.ofInt sort))), (some (.int (Int32.ofInt x2))), (some (.int (Int32.ofInt x3))), (some (.int (Int32.ofInt (150 + (4 * x3)))))], [], zk c m194)) ⟨[zo, zo, zo, zo, zo, zo, zo, zo, zo, zo, zo, zo, (false, 0, none, zh0, some (.inl (0, 12, .inl (fun j => Int32.ofInt (m184 87 j))))), (false, 0, none, zh0, some (.inl (0, 178, .inl (fun j => Int32.ofInt (m184 92 j)))))], _, rfl, ⟨trivial, (Nat.lt_of_lt_of_le (Nat.le_of_ble_eq_true rfl) hN), trivial, trivial, trivial, trivial, (Nat.lt_of_lt_of_le (Nat.le_of_ble_eq_true rfl) hN), trivial, trivial, trivial, trivial, trivial, ⟨zk_ra c m184 zA_87 (Nat.lt_of_lt_of_le (Nat.le_of_ble_eq_true rfl) hN), zi_in (zi_add (zi_mul rfl rfl) rfl) (by omega) (by omega) (by omega)⟩, ⟨zk_ra c m184 zA_92 (Nat.lt_of_lt_of_le (Nat.le_of_ble_eq_true rfl) hN), zi_in (zi_add rfl rfl) (by omega) (by omega) (by omega)⟩, trivial⟩⟩ (z_steq rfl rfl ((zk_ias c m184 zA_92 (zi_add rfl rfl) (by unfold zR; omega) ((zk_rd (f := m184 87) (zi_add (zi_mul rfl rfl) rfl) (by unfold zR; omega)).trans rfl : Int32.ofInt (m184 87 (((Int32.ofInt 2) * (Int32.ofInt x3)) + (Int32.ofInt 1)).toNatClampNeg) = Int32.ofInt (m184 87 (((2 * x3) + 1).toNat)))).trans (by rw [hm194]))) ?_
    clear f193 em194
    obtain ⟨m203, hm203⟩ : ∃ q, q = zm_up m194 92 (((150 + (4 * x3)) + 3).toNat) (-1) := ⟨_, rfl⟩
    have hIm203 := zJ_upE hIm194 hm203 (by unfold zOj zsen; omega) (zvw_p3 zV_92 (c := x3) (by omega) (show (-1 : Int) ≤ (-1) ∧ (-1) ≤ 4 by omega))
    have em203 : m203 92 (((150 + (4 * x3)) + 3).toNat) = (-1) := by rw [hm203]; exact zm_eq
    have f204 : m203 79 27 = m194 79 27 := by rw [hm203]; exact zm_ne (Or.inl (by decide))
    have f205 : m203 79 7 = m194 79 7 := by rw [hm203]; exact zm_ne (Or.inl (by decide))
    have f206 : m203 79 26 = m194 79 26 := by rw [hm203]; exact zm_ne (Or.inl (by decide))
    have f207 : m203 79 28 = m194 79 28 := by rw [hm203]; exact zm_ne (Or.inl (by decide))
    have f208 : m203 79 29 = m194 79 29 := by rw [hm203]; exact zm_ne (Or.inl (by decide))
    have f209 : m203 79 30 = m194 79 30 := by rw [hm203]; exact zm_ne (Or.inl (by decide))
    have f210 : m203 79 48 = m194 79 48 := by rw [hm203]; exact zm_ne (Or.inl (by decide))
    have tk211 : zS9 t9 m203 := by rw [hm203]; exact zS9_up tk202 (by decide)
    clear tk202
    refine zW.step (st1 := (417, [(some (.ref 79)), (some (.int (Int32.ofInt sort))), (some (.int (Int32.ofInt x2))), (some (.int (Int32.ofInt x3))), (some (.int (Int32.ofInt (150 + (4 * x3)))))], [], z_hup (zk c m194) 92 (.inl (0, 178, .inl (upd (fun j => Int32.ofInt (m194 92 j)) ((Int32.ofInt (150 + (4 * x3))) + (Int32.ofInt 3)).toNatClampNeg (Int32.ofInt (-1))))))) (st2 := (417, [(some (.ref 79)), (some (.int (Int32.ofInt sort))), (some (.int (Int32.ofInt x2))), (some (.int (Int32.ofInt x3))), (some (.int (Int32.ofInt (150 + (4 * x3)))))], [], zk c m203)) ⟨[zo, zo, zo, zo, zo, zo, (false, 0, none, zh0, some (.inl (0, 178, .inl (fun j => Int32.ofInt (m194 92 j)))))], _, rfl, ⟨trivial, (Nat.lt_of_lt_of_le (Nat.le_of_ble_eq_true rfl) hN), trivial, trivial, trivial, trivial, ⟨zk_ra c m194 zA_92 (Nat.lt_of_lt_of_le (Nat.le_of_ble_eq_true rfl) hN), zi_in (zi_add rfl rfl) (by omega) (by omega) (by omega)⟩, trivial⟩⟩ (z_steq rfl rfl ((zk_ias c m194 zA_92 (zi_add rfl rfl) (by unfold zR; omega) rfl).trans (by rw [hm203]))) ?_
    refine zW.step (st1 := (356, [(some (.ref 79)), (some (.int (Int32.ofInt sort))), (some (.int (Int32.ofInt x2))), (some (.int ((Int32.ofInt x3) + Int32.ofInt 1))), (some (.int (Int32.ofInt (150 + (4 * x3)))))], [], zk c m203)) (st2 := (356, [(some (.ref 79)), (some (.int (Int32.ofInt sort))), (some (.int (Int32.ofInt x2))), (some (.int (Int32.ofInt (x3 + 1)))), (some (.int (Int32.ofInt (150 + (4 * x3)))))], [], zk c m203)) ⟨[zo, zo], _, rfl, ⟨trivial, trivial, trivial⟩⟩ (z_steq (z_c1 rfl (z_c1 rfl (z_c1 rfl (z_c1 (z_si (zi_add rfl rfl)) rfl)))) rfl rfl) ?_
    exact ih _ (by omega) (x3 + 1) (some (.int (Int32.ofInt (150 + (4 * x3))))) m203 hIm203 (by omega) (by exact (zP_upE (zP_upE (zP_upE p3 hm184 (by unfold zsen; omega)) hm194 (by unfold zsen; omega)) hm203 (by unfold zsen; omega))) (by omega) tk211 rfl

set_option maxRecDepth 100000 in
set_option maxHeartbeats 4000000 in
theorem S_X12_text (zn : Bool) (d : Nat) {c : Nat × Nat} {mC : zM} {t9 : Int} (hN : 107 ≤ c.1) (hC : c.1 < z_RO) (sort : Int) (m : zM) (hIm : zJ mC t9 0 m) (r_sort : -2147483648 ≤ sort ∧ sort ≤ 2147483647) (ht : 0 ≤ t9 ∧ t9 ≤ 999990000) : zCi zn (d + 34) 288 [.ref 79, .int (Int32.ofInt sort)] c m (fun (r : Int) (m1 : zM) => zJ mC t9 0 m1 ∧ (-2147483648 ≤ r ∧ r ≤ 2147483647)) := by
  refine zCi.of zu_X12_text hC (Nat.le_of_ble_eq_true rfl) ?_
  show zW zn (d + 33) 288 c (0, [(some (.ref 79)), (some (.int (Int32.ofInt sort))), none, none, none], [], zk c m) (fun v h1 => ∃ (r : Int) (m1 : zM), v = some (.int (Int32.ofInt r)) ∧ h1 = zk c m1 ∧ zJ mC t9 0 m1 ∧ (-2147483648 ≤ r ∧ r ≤ 2147483647))
  have f212 : (0 : Int) ≤ m 79 7 ∧ m 79 7 ≤ 4 := hIm.1 79 7
  have f213 : (0 : Int) ≤ m 79 26 ∧ m 79 26 ≤ 5 := hIm.1 79 26
  have f214 : (0 : Int) ≤ m 79 27 ∧ m 79 27 ≤ 6 := hIm.1 79 27
  have f215 : (0 : Int) ≤ m 79 28 ∧ m 79 28 ≤ 5 := hIm.1 79 28
  have f216 : (0 : Int) ≤ m 79 29 ∧ m 79 29 ≤ 6 := hIm.1 79 29
  have f217 : (0 : Int) ≤ m 79 30 ∧ m 79 30 ≤ 6 := hIm.1 79 30
  obtain ⟨m218, hm218⟩ : ∃ q, q = zm_up m 79 0 0 := ⟨_, rfl⟩
  have hIm218 := zJ_upE hIm hm218 (zOj_79 (by decide)) (show (0 : Int) ≤ 0 ∧ 0 ≤ 1 by omega)
  have em218 : m218 79 0 = 0 := by rw [hm218]; exact zm_eq
  have f219 : m218 79 7 = m 79 7 := by rw [hm218]; exact zm_ne (Or.inr (by decide))
  have f220 : m218 79 26 = m 79 26 := by rw [hm218]; exact zm_ne (Or.inr (by decide))
  have f221 : m218 79 27 = m 79 27 := by rw [hm218]; exact zm_ne (Or.inr (by decide))
  have f222 : m218 79 28 = m 79 28 := by rw [hm218]; exact zm_ne (Or.inr (by decide))
  have f223 : m218 79 29 = m 79 29 := by rw [hm218]; exact zm_ne (Or.inr (by decide))
  have f224 : m218 79 30 = m 79 30 := by rw [hm218]; exact zm_ne (Or.inr (by decide))
  have f225 : m218 79 48 = m 79 48 := by rw [hm218]; exact zm_ne (Or.inr (by decide))
  refine zW.step (st1 := (5, [(some (.ref 79)), (some (.int (Int32.ofInt sort))), none, none, none], [], z_hup (zk c m) 79 (.inr (12, (.int (Int32.ofInt 0) :: .ref 80 :: .ref 81 :: .ref 82 :: .ref 83 :: zm_rf (m 79 5) :: .int (Int32.ofInt (m 79 6)) :: .int (Int32.ofInt (m 79 7)) :: .int (Int32.ofInt (m 79 8)) :: .int (Int32.ofInt (m 79 9)) :: .int (Int32.ofInt (m 79 10)) :: .int (Int32.ofInt (m 79 11)) :: .int (Int32.ofInt (m 79 12)) :: .int (Int32.ofInt (m 79 13)) :: .int (Int32.ofInt (m 79 14)) :: .ref (z_RO + 5) :: .ref (z_RO + 3) :: .int (Int32.ofInt (m 79 17)) :: .ref 84 :: .ref 85 :: .ref 86 :: .ref 87 :: .ref 88 :: .ref 89 :: .ref 90 :: .ref 91 :: .int (Int32.ofInt (m 79 26)) :: .int (Int32.ofInt (m 79 27)) :: .int (Int32.ofInt (m 79 28)) :: .int (Int32.ofInt (m 79 29)) :: .int (Int32.ofInt (m 79 30)) :: .ref 92 :: .ref 93 :: .int (Int32.ofInt (m 79 33)) :: .int (Int32.ofInt (m 79 34)) :: .ref 94 :: .ref 95 :: .int (Int32.ofInt (m 79 37)) :: .int (Int32.ofInt (m 79 38)) :: .int (Int32.ofInt (m 79 39)) :: .int (Int32.ofInt (m 79 40)) :: .int (Int32.ofInt (m 79 41)) :: .int (Int32.ofInt (m 79 42)) :: .ref 96 :: .ref 97 :: .ref 98 :: .ref 99 :: .ref 100 :: .int (Int32.ofInt (m 79 48)) :: .int (Int32.ofInt (m 79 49)) :: .long (Int64.ofInt (m 79 50)) :: .ref 101 :: .ref 102 :: .int (Int32.ofInt (m 79 53)) :: .ref 103 :: .ref 104 :: .ref 105 :: .int (Int32.ofInt (m 79 57)) :: []))))) (st2 := (5, [(some (.ref 79)), (some (.int (Int32.ofInt sort))), none, none, none], [], zk c m218)) ⟨[zo, zo, zo], _, rfl, ⟨trivial, trivial, ⟨(Nat.lt_of_lt_of_le (Nat.le_of_ble_eq_true rfl) hN), rfl, rfl⟩, trivial⟩⟩ (z_steq rfl rfl ((zk_up c m 79 0 0 _ rfl).trans (by rw [hm218]))) ?_
  refine zW.step (st1 := (9, [(some (.ref 79)), (some (.int (Int32.ofInt sort))), none, none, none], [.long (Int64.ofNat 1), .long (Int64.ofNat 0), .long ((Int32.ofInt sort).toInt64)], zk c m218)) (st2 := (9, [(some (.ref 79)), (some (.int (Int32.ofInt sort))), none, none, none], [.long (Int64.ofInt 1), .long (Int64.ofInt 0), .long (Int64.ofInt sort)], zk c m218)) ⟨[zo, zo, zo, zo], _, rfl, ⟨trivial, trivial, trivial, trivial, trivial⟩⟩ (z_steq rfl (z_c1 (z_vl (by decide : Int64.ofNat 1 = Int64.ofInt 1)) (z_c1 (z_vl (by decide : Int64.ofNat 0 = Int64.ofInt 0)) (z_c1 (z_vl (zi_i2l rfl (by unfold zR; omega))) rfl))) rfl) ?_
  obtain ⟨r226, hs226, z_226, q_226⟩ := S_X12_isIn zn (d + 32) hN hC sort 0 1 m218 hIm218 (by omega) (by omega) (by omega)
  refine zW.step (st1 := (12, [(some (.ref 79)), (some (.int (Int32.ofInt sort))), none, none, none], [.int (Int32.ofInt r226)], zk c m218)) ⟨[zc (some (.int (Int32.ofInt r226))) (zk c m218)], _, rfl, ⟨⟨(Nat.le_of_ble_eq_true rfl), hs226, (Nat.le_of_ble_eq_true rfl), Nat.le_refl _, Nat.le_refl _, Nat.le_refl _, Nat.le_refl _⟩, trivial⟩⟩ rfl ?_
  by_cases b227 : r226 = 0
  · refine zW.step (st1 := (37, [(some (.ref 79)), (some (.int (Int32.ofInt sort))), none, none, none], [], zk c m218)) (st2 := (37, [(some (.ref 79)), (some (.int (Int32.ofInt sort))), none, none, none], [], zk c m218)) ⟨[zt], _, rfl, ⟨zbt ((zi_eq rfl (rfl : (0 : Int32) = Int32.ofInt 0) (by unfold zR; omega) (⟨by decide, by decide⟩ : zR 0)).mpr b227), trivial⟩⟩ rfl ?_
    have f228 : (0 : Int) ≤ m218 79 7 ∧ m218 79 7 ≤ 4 := hIm218.1 79 7
    have f229 : (0 : Int) ≤ m218 79 26 ∧ m218 79 26 ≤ 5 := hIm218.1 79 26
    have f230 : (0 : Int) ≤ m218 79 27 ∧ m218 79 27 ≤ 6 := hIm218.1 79 27
    have f231 : (0 : Int) ≤ m218 79 28 ∧ m218 79 28 ≤ 5 := hIm218.1 79 28
    have f232 : (0 : Int) ≤ m218 79 29 ∧ m218 79 29 ≤ 6 := hIm218.1 79 29
    have f233 : (0 : Int) ≤ m218 79 30 ∧ m218 79 30 ≤ 6 := hIm218.1 79 30
    refine zW.step (st1 := (38, [(some (.ref 79)), (some (.int (Int32.ofInt sort))), none, none, none], [.int (Int32.ofInt (-1))], zk c m218)) (st2 := (38, [(some (.ref 79)), (some (.int (Int32.ofInt sort))), none, none, none], [.int (Int32.ofInt (-1))], zk c m218)) ⟨[zo], _, rfl, ⟨trivial, trivial⟩⟩ rfl ?_
    exact zW.fin (zfin_i rfl rfl rfl) ⟨(-1), m218, rfl, rfl, hIm218, (by omega)⟩
  · refine zW.step (st1 := (15, [(some (.ref 79)), (some (.int (Int32.ofInt sort))), none, none, none], [], zk c m218)) (st2 := (15, [(some (.ref 79)), (some (.int (Int32.ofInt sort))), none, none, none], [], zk c m218)) ⟨[zo], _, rfl, ⟨zbf (fun q => b227 ((zi_eq rfl (rfl : (0 : Int32) = Int32.ofInt 0) (by unfold zR; omega) (⟨by decide, by decide⟩ : zR 0)).mp q)), trivial⟩⟩ rfl ?_
    have f234 : (0 : Int) ≤ m218 79 7 ∧ m218 79 7 ≤ 4 := hIm218.1 79 7
    have f235 : (0 : Int) ≤ m218 79 26 ∧ m218 79 26 ≤ 5 := hIm218.1 79 26
    have f236 : (0 : Int) ≤ m218 79 27 ∧ m218 79 27 ≤ 6 := hIm218.1 79 27
    have f237 : (0 : Int) ≤ m218 79 28 ∧ m218 79 28 ≤ 5 := hIm218.1 79 28
    have f238 : (0 : Int) ≤ m218 79 29 ∧ m218 79 29 ≤ 6 := hIm218.1 79 29
    have f239 : (0 : Int) ≤ m218 79 30 ∧ m218 79 30 ≤ 6 := hIm218.1 79 30
    by_cases b240 : sort = 1
    · refine zW.step (st1 := (20, [(some (.ref 79)), (some (.int (Int32.ofInt sort))), none, none, none], [], zk c m218)) (st2 := (20, [(some (.ref 79)), (some (.int (Int32.ofInt sort))), none, none, none], [], zk c m218)) ⟨[zo, zo, zo], _, rfl, ⟨trivial, trivial, zbf (fun q => q ((zi_eq rfl rfl (by unfold zR; omega) (⟨by decide, by decide⟩ : zR 1)).mpr b240)), trivial⟩⟩ rfl ?_
      by_cases b241 : (m218 79 7) = 4
      · refine zW.step (st1 := (37, [(some (.ref 79)), (some (.int (Int32.ofInt sort))), none, none, none], [], zk c m218)) (st2 := (37, [(some (.ref 79)), (some (.int (Int32.ofInt sort))), none, none, none], [], zk c m218)) ⟨[zo, zo, zo, zt], _, rfl, ⟨trivial, (Nat.lt_of_lt_of_le (Nat.le_of_ble_eq_true rfl) hN), trivial, zbt ((zi_eq rfl rfl (by unfold zR; omega) (⟨by decide, by decide⟩ : zR 4)).mpr b241), trivial⟩⟩ rfl ?_
        refine zW.step (st1 := (38, [(some (.ref 79)), (some (.int (Int32.ofInt sort))), none, none, none], [.int (Int32.ofInt (-1))], zk c m218)) (st2 := (38, [(some (.ref 79)), (some (.int (Int32.ofInt sort))), none, none, none], [.int (Int32.ofInt (-1))], zk c m218)) ⟨[zo], _, rfl, ⟨trivial, trivial⟩⟩ rfl ?_
        exact zW.fin (zfin_i rfl rfl rfl) ⟨(-1), m218, rfl, rfl, hIm218, (by omega)⟩
      · refine zW.step (st1 := (28, [(some (.ref 79)), (some (.int (Int32.ofInt sort))), none, none, none], [], zk c m218)) (st2 := (28, [(some (.ref 79)), (some (.int (Int32.ofInt sort))), none, none, none], [], zk c m218)) ⟨[zo, zo, zo, zo], _, rfl, ⟨trivial, (Nat.lt_of_lt_of_le (Nat.le_of_ble_eq_true rfl) hN), trivial, zbf (fun q => b241 ((zi_eq rfl rfl (by unfold zR; omega) (⟨by decide, by decide⟩ : zR 4)).mp q)), trivial⟩⟩ rfl ?_
        refine zW.step (st1 := (30, [(some (.ref 79)), (some (.int (Int32.ofInt sort))), none, none, none], [.int (Int32.ofInt sort), .ref 79], zk c m218)) (st2 := (30, [(some (.ref 79)), (some (.int (Int32.ofInt sort))), none, none, none], [.int (Int32.ofInt sort), .ref 79], zk c m218)) ⟨[zo, zo], _, rfl, ⟨trivial, trivial, trivial⟩⟩ rfl ?_
        obtain ⟨r242, m242, hs242, hIm242, q_242, hs_242, kk_242, kV_242⟩ := S_X12_fault zn (d + 0) hN hC sort m218 hIm218 (by omega)
        refine zW.step (st1 := (33, [(some (.ref 79)), (some (.int (Int32.ofInt sort))), none, none, none], [.int (Int32.ofInt r242)], zk c m242)) ⟨[zc (some (.int (Int32.ofInt r242))) (zk c m242)], _, rfl, ⟨⟨⟨(Nat.lt_of_lt_of_le (Nat.le_of_ble_eq_true rfl) hN), (Nat.le_of_ble_eq_true rfl)⟩, hs242, (Nat.le_of_ble_eq_true rfl), Nat.le_refl _, Nat.le_refl _, Nat.le_refl _, Nat.le_refl _⟩, trivial⟩⟩ rfl ?_
        have f243 : (0 : Int) ≤ m242 79 7 ∧ m242 79 7 ≤ 4 := hIm242.1 79 7
        have f244 : m242 79 7 = m218 79 7 := kV_242 79 7 (by omega)
        have f245 : (0 : Int) ≤ m242 79 26 ∧ m242 79 26 ≤ 5 := hIm242.1 79 26
        have f246 : m242 79 26 = m218 79 26 := kV_242 79 26 (by omega)
        have f247 : (0 : Int) ≤ m242 79 27 ∧ m242 79 27 ≤ 6 := hIm242.1 79 27
        have f248 : m242 79 27 = m218 79 27 := kV_242 79 27 (by omega)
        have f249 : (0 : Int) ≤ m242 79 28 ∧ m242 79 28 ≤ 5 := hIm242.1 79 28
        have f250 : (0 : Int) ≤ m242 79 29 ∧ m242 79 29 ≤ 6 := hIm242.1 79 29
        have f251 : (0 : Int) ≤ m242 79 30 ∧ m242 79 30 ≤ 6 := hIm242.1 79 30
        by_cases b252 : r242 = (-1)
        · refine zW.step (st1 := (39, [(some (.ref 79)), (some (.int (Int32.ofInt sort))), none, none, none], [], zk c m242)) (st2 := (39, [(some (.ref 79)), (some (.int (Int32.ofInt sort))), none, none, none], [], zk c m242)) ⟨[zo, zt], _, rfl, ⟨trivial, zbt ((zi_eq rfl rfl (by unfold zR; omega) (⟨by decide, by decide⟩ : zR (-1))).mpr b252), trivial⟩⟩ rfl ?_
          have f253 : (0 : Int) ≤ m242 79 6 ∧ m242 79 6 ≤ 240 := hIm242.1 79 6
          obtain ⟨m254, hm254⟩ : ∃ q, q = zm_up m242 79 6 0 := ⟨_, rfl⟩
          have hIm254 := zJ_upE hIm242 hm254 (zOj_79 (by decide)) (show (0 : Int) ≤ 0 ∧ 0 ≤ 240 by omega)
          have em254 : m254 79 6 = 0 := by rw [hm254]; exact zm_eq
          have f255 : m254 79 7 = m242 79 7 := by rw [hm254]; exact zm_ne (Or.inr (by decide))
          have f256 : m254 79 26 = m242 79 26 := by rw [hm254]; exact zm_ne (Or.inr (by decide))
          have f257 : m254 79 27 = m242 79 27 := by rw [hm254]; exact zm_ne (Or.inr (by decide))
          have f258 : m254 79 28 = m242 79 28 := by rw [hm254]; exact zm_ne (Or.inr (by decide))
          have f259 : m254 79 29 = m242 79 29 := by rw [hm254]; exact zm_ne (Or.inr (by decide))
          have f260 : m254 79 30 = m242 79 30 := by rw [hm254]; exact zm_ne (Or.inr (by decide))
          have f261 : m254 79 48 = m242 79 48 := by rw [hm254]; exact zm_ne (Or.inr (by decide))
          refine zW.step (st1 := (49, [(some (.ref 79)), (some (.int (Int32.ofInt sort))), (some (.int (Int32.ofInt (m242 79 6)))), none, none], [], z_hup (zk c m242) 79 (.inr (12, (.int (Int32.ofInt (m242 79 0)) :: .ref 80 :: .ref 81 :: .ref 82 :: .ref 83 :: zm_rf (m242 79 5) :: .int (Int32.ofInt 0) :: .int (Int32.ofInt (m242 79 7)) :: .int (Int32.ofInt (m242 79 8)) :: .int (Int32.ofInt (m242 79 9)) :: .int (Int32.ofInt (m242 79 10)) :: .int (Int32.ofInt (m242 79 11)) :: .int (Int32.ofInt (m242 79 12)) :: .int (Int32.ofInt (m242 79 13)) :: .int (Int32.ofInt (m242 79 14)) :: .ref (z_RO + 5) :: .ref (z_RO + 3) :: .int (Int32.ofInt (m242 79 17)) :: .ref 84 :: .ref 85 :: .ref 86 :: .ref 87 :: .ref 88 :: .ref 89 :: .ref 90 :: .ref 91 :: .int (Int32.ofInt (m242 79 26)) :: .int (Int32.ofInt (m242 79 27)) :: .int (Int32.ofInt (m242 79 28)) :: .int (Int32.ofInt (m242 79 29)) :: .int (Int32.ofInt (m242 79 30)) :: .ref 92 :: .ref 93 :: .int (Int32.ofInt (m242 79 33)) :: .int (Int32.ofInt (m242 79 34)) :: .ref 94 :: .ref 95 :: .int (Int32.ofInt (m242 79 37)) :: .int (Int32.ofInt (m242 79 38)) :: .int (Int32.ofInt (m242 79 39)) :: .int (Int32.ofInt (m242 79 40)) :: .int (Int32.ofInt (m242 79 41)) :: .int (Int32.ofInt (m242 79 42)) :: .ref 96 :: .ref 97 :: .ref 98 :: .ref 99 :: .ref 100 :: .int (Int32.ofInt (m242 79 48)) :: .int (Int32.ofInt (m242 79 49)) :: .long (Int64.ofInt (m242 79 50)) :: .ref 101 :: .ref 102 :: .int (Int32.ofInt (m242 79 53)) :: .ref 103 :: .ref 104 :: .ref 105 :: .int (Int32.ofInt (m242 79 57)) :: []))))) (st2 := (49, [(some (.ref 79)), (some (.int (Int32.ofInt sort))), (some (.int (Int32.ofInt (m242 79 6)))), none, none], [], zk c m254)) ⟨[zo, zo, zo, zo, zo, zo], _, rfl, ⟨trivial, (Nat.lt_of_lt_of_le (Nat.le_of_ble_eq_true rfl) hN), trivial, trivial, trivial, ⟨(Nat.lt_of_lt_of_le (Nat.le_of_ble_eq_true rfl) hN), rfl, rfl⟩, trivial⟩⟩ (z_steq rfl rfl ((zk_up c m242 79 6 0 _ rfl).trans (by rw [hm254]))) ?_
          by_cases b262 : sort = 1
          · refine zW.step (st1 := (54, [(some (.ref 79)), (some (.int (Int32.ofInt sort))), (some (.int (Int32.ofInt (m242 79 6)))), none, none], [], zk c m254)) (st2 := (54, [(some (.ref 79)), (some (.int (Int32.ofInt sort))), (some (.int (Int32.ofInt (m242 79 6)))), none, none], [], zk c m254)) ⟨[zo, zo, zo], _, rfl, ⟨trivial, trivial, zbf (fun q => q ((zi_eq rfl rfl (by unfold zR; omega) (⟨by decide, by decide⟩ : zR 1)).mpr b262)), trivial⟩⟩ rfl ?_
            have f263 : (0 : Int) ≤ m254 79 7 ∧ m254 79 7 ≤ 4 := hIm254.1 79 7
            have f264 : (0 : Int) ≤ m254 79 26 ∧ m254 79 26 ≤ 5 := hIm254.1 79 26
            have f265 : (0 : Int) ≤ m254 79 27 ∧ m254 79 27 ≤ 6 := hIm254.1 79 27
            have f266 : (0 : Int) ≤ m254 79 28 ∧ m254 79 28 ≤ 5 := hIm254.1 79 28
            have f267 : (0 : Int) ≤ m254 79 29 ∧ m254 79 29 ≤ 6 := hIm254.1 79 29
            have f268 : (0 : Int) ≤ m254 79 30 ∧ m254 79 30 ≤ 6 := hIm254.1 79 30
            refine zW.step (st1 := (56, [(some (.ref 79)), (some (.int (Int32.ofInt sort))), (some (.int (Int32.ofInt (m242 79 6)))), (some (.int (Int32.ofInt 0))), none], [], zk c m254)) (st2 := (56, [(some (.ref 79)), (some (.int (Int32.ofInt sort))), (some (.int (Int32.ofInt (m242 79 6)))), (some (.int (Int32.ofInt 0))), none], [], zk c m254)) ⟨[zo, zo], _, rfl, ⟨trivial, trivial, trivial⟩⟩ rfl ?_
            refine L_X12_text_56 zn _ hN hC sort r_sort ht (m242 79 6) m _ (fun x3_269 m_269 hIm_269 i1_269 i7_269 => ?_) _ 0 m254 hIm254 (by omega) (by omega) rfl
            have f270 : (0 : Int) ≤ m_269 79 7 ∧ m_269 79 7 ≤ 4 := hIm_269.1 79 7
            have f271 : (0 : Int) ≤ m_269 79 26 ∧ m_269 79 26 ≤ 5 := hIm_269.1 79 26
            have f272 : (0 : Int) ≤ m_269 79 27 ∧ m_269 79 27 ≤ 6 := hIm_269.1 79 27
            have f273 : (0 : Int) ≤ m_269 79 28 ∧ m_269 79 28 ≤ 5 := hIm_269.1 79 28
            have f274 : (0 : Int) ≤ m_269 79 29 ∧ m_269 79 29 ≤ 6 := hIm_269.1 79 29
            have f275 : (0 : Int) ≤ m_269 79 30 ∧ m_269 79 30 ≤ 6 := hIm_269.1 79 30
            obtain ⟨m276, hm276⟩ : ∃ q, q = zm_up m_269 82 ((m_269 79 7).toNat) (m242 79 6) := ⟨_, rfl⟩
            have hIm276 := zJ_upE hIm_269 hm276 (zOj_p (by decide)) (show (0 : Int) ≤ (m242 79 6) ∧ (m242 79 6) ≤ 240 by omega)
            have em276 : m276 82 ((m_269 79 7).toNat) = (m242 79 6) := by rw [hm276]; exact zm_eq
            have f277 : m276 79 7 = m_269 79 7 := by rw [hm276]; exact zm_ne (Or.inl (by decide))
            have f278 : m276 79 26 = m_269 79 26 := by rw [hm276]; exact zm_ne (Or.inl (by decide))
            have f279 : m276 79 27 = m_269 79 27 := by rw [hm276]; exact zm_ne (Or.inl (by decide))
            have f280 : m276 79 28 = m_269 79 28 := by rw [hm276]; exact zm_ne (Or.inl (by decide))
            have f281 : m276 79 29 = m_269 79 29 := by rw [hm276]; exact zm_ne (Or.inl (by decide))
            have f282 : m276 79 30 = m_269 79 30 := by rw [hm276]; exact zm_ne (Or.inl (by decide))
            have f283 : m276 79 48 = m_269 79 48 := by rw [hm276]; exact zm_ne (Or.inl (by decide))
            refine zW.step (st1 := (98, [(some (.ref 79)), (some (.int (Int32.ofInt sort))), (some (.int (Int32.ofInt (m242 79 6)))), (some (.int (Int32.ofInt x3_269))), none], [], z_hup (zk c m_269) 82 (.inl (0, 4, .inl (upd (fun j => Int32.ofInt (m_269 82 j)) (Int32.ofInt (m_269 79 7)).toNatClampNeg (Int32.ofInt (m242 79 6))))))) (st2 := (98, [(some (.ref 79)), (some (.int (Int32.ofInt sort))), (some (.int (Int32.ofInt (m242 79 6)))), (some (.int (Int32.ofInt x3_269))), none], [], zk c m276)) ⟨[zo, zo, zo, zo, zo, (false, 0, none, zh0, some (.inl (0, 4, .inl (fun j => Int32.ofInt (m_269 82 j)))))], _, rfl, ⟨trivial, (Nat.lt_of_lt_of_le (Nat.le_of_ble_eq_true rfl) hN), trivial, (Nat.lt_of_lt_of_le (Nat.le_of_ble_eq_true rfl) hN), trivial, ⟨zk_ra c m_269 zA_82 (Nat.lt_of_lt_of_le (Nat.le_of_ble_eq_true rfl) hN), zi_in rfl (by omega) (by omega) (by omega)⟩, trivial⟩⟩ (z_steq rfl rfl ((zk_ias c m_269 zA_82 rfl (by unfold zR; omega) rfl).trans (by rw [hm276]))) ?_
            have f284 : (0 : Int) ≤ m276 79 7 ∧ m276 79 7 ≤ 4 := hIm276.1 79 7
            obtain ⟨m285, hm285⟩ : ∃ q, q = zm_up m276 79 7 ((m276 79 7) + 1) := ⟨_, rfl⟩
            have hIm285 := zJ_upE hIm276 hm285 (zOj_79 (by decide)) (show (0 : Int) ≤ ((m276 79 7) + 1) ∧ ((m276 79 7) + 1) ≤ 4 by omega)
            have em285 : m285 79 7 = ((m276 79 7) + 1) := by rw [hm285]; exact zm_eq
            have f286 : m285 79 26 = m276 79 26 := by rw [hm285]; exact zm_ne (Or.inr (by decide))
            have f287 : m285 79 27 = m276 79 27 := by rw [hm285]; exact zm_ne (Or.inr (by decide))
            have f288 : m285 79 28 = m276 79 28 := by rw [hm285]; exact zm_ne (Or.inr (by decide))
            have f289 : m285 79 29 = m276 79 29 := by rw [hm285]; exact zm_ne (Or.inr (by decide))
            have f290 : m285 79 30 = m276 79 30 := by rw [hm285]; exact zm_ne (Or.inr (by decide))
            have f291 : m285 79 48 = m276 79 48 := by rw [hm285]; exact zm_ne (Or.inr (by decide))
            refine zW.step (st1 := (108, [(some (.ref 79)), (some (.int (Int32.ofInt sort))), (some (.int (Int32.ofInt (m242 79 6)))), (some (.int (Int32.ofInt x3_269))), none], [], z_hup (zk c m276) 79 (.inr (12, (.int (Int32.ofInt (m276 79 0)) :: .ref 80 :: .ref 81 :: .ref 82 :: .ref 83 :: zm_rf (m276 79 5) :: .int (Int32.ofInt (m276 79 6)) :: .int ((Int32.ofInt (m276 79 7)) + (Int32.ofInt 1)) :: .int (Int32.ofInt (m276 79 8)) :: .int (Int32.ofInt (m276 79 9)) :: .int (Int32.ofInt (m276 79 10)) :: .int (Int32.ofInt (m276 79 11)) :: .int (Int32.ofInt (m276 79 12)) :: .int (Int32.ofInt (m276 79 13)) :: .int (Int32.ofInt (m276 79 14)) :: .ref (z_RO + 5) :: .ref (z_RO + 3) :: .int (Int32.ofInt (m276 79 17)) :: .ref 84 :: .ref 85 :: .ref 86 :: .ref 87 :: .ref 88 :: .ref 89 :: .ref 90 :: .ref 91 :: .int (Int32.ofInt (m276 79 26)) :: .int (Int32.ofInt (m276 79 27)) :: .int (Int32.ofInt (m276 79 28)) :: .int (Int32.ofInt (m276 79 29)) :: .int (Int32.ofInt (m276 79 30)) :: .ref 92 :: .ref 93 :: .int (Int32.ofInt (m276 79 33)) :: .int (Int32.ofInt (m276 79 34)) :: .ref 94 :: .ref 95 :: .int (Int32.ofInt (m276 79 37)) :: .int (Int32.ofInt (m276 79 38)) :: .int (Int32.ofInt (m276 79 39)) :: .int (Int32.ofInt (m276 79 40)) :: .int (Int32.ofInt (m276 79 41)) :: .int (Int32.ofInt (m276 79 42)) :: .ref 96 :: .ref 97 :: .ref 98 :: .ref 99 :: .ref 100 :: .int (Int32.ofInt (m276 79 48)) :: .int (Int32.ofInt (m276 79 49)) :: .long (Int64.ofInt (m276 79 50)) :: .ref 101 :: .ref 102 :: .int (Int32.ofInt (m276 79 53)) :: .ref 103 :: .ref 104 :: .ref 105 :: .int (Int32.ofInt (m276 79 57)) :: []))))) (st2 := (108, [(some (.ref 79)), (some (.int (Int32.ofInt sort))), (some (.int (Int32.ofInt (m242 79 6)))), (some (.int (Int32.ofInt x3_269))), none], [], zk c m285)) ⟨[zo, zo, zo, zo, zo, zo], _, rfl, ⟨trivial, trivial, (Nat.lt_of_lt_of_le (Nat.le_of_ble_eq_true rfl) hN), trivial, trivial, ⟨(Nat.lt_of_lt_of_le (Nat.le_of_ble_eq_true rfl) hN), rfl, rfl⟩, trivial⟩⟩ (z_steq rfl rfl ((zk_up c m276 79 7 ((m276 79 7) + 1) _ ((congrArg (fun q => (.inr (12, (.int (Int32.ofInt (m276 79 0)) :: .ref 80 :: .ref 81 :: .ref 82 :: .ref 83 :: zm_rf (m276 79 5) :: .int (Int32.ofInt (m276 79 6)) :: .int q :: .int (Int32.ofInt (m276 79 8)) :: .int (Int32.ofInt (m276 79 9)) :: .int (Int32.ofInt (m276 79 10)) :: .int (Int32.ofInt (m276 79 11)) :: .int (Int32.ofInt (m276 79 12)) :: .int (Int32.ofInt (m276 79 13)) :: .int (Int32.ofInt (m276 79 14)) :: .ref (z_RO + 5) :: .ref (z_RO + 3) :: .int (Int32.ofInt (m276 79 17)) :: .ref 84 :: .ref 85 :: .ref 86 :: .ref 87 :: .ref 88 :: .ref 89 :: .ref 90 :: .ref 91 :: .int (Int32.ofInt (m276 79 26)) :: .int (Int32.ofInt (m276 79 27)) :: .int (Int32.ofInt (m276 79 28)) :: .int (Int32.ofInt (m276 79 29)) :: .int (Int32.ofInt (m276 79 30)) :: .ref 92 :: .ref 93 :: .int (Int32.ofInt (m276 79 33)) :: .int (Int32.ofInt (m276 79 34)) :: .ref 94 :: .ref 95 :: .int (Int32.ofInt (m276 79 37)) :: .int (Int32.ofInt (m276 79 38)) :: .int (Int32.ofInt (m276 79 39)) :: .int (Int32.ofInt (m276 79 40)) :: .int (Int32.ofInt (m276 79 41)) :: .int (Int32.ofInt (m276 79 42)) :: .ref 96 :: .ref 97 :: .ref 98 :: .ref 99 :: .ref 100 :: .int (Int32.ofInt (m276 79 48)) :: .int (Int32.ofInt (m276 79 49)) :: .long (Int64.ofInt (m276 79 50)) :: .ref 101 :: .ref 102 :: .int (Int32.ofInt (m276 79 53)) :: .ref 103 :: .ref 104 :: .ref 105 :: .int (Int32.ofInt (m276 79 57)) :: [])) : z_E)) (zi_add rfl rfl)).trans rfl)).trans (by rw [hm285]))) ?_
            have f292 : (0 : Int) ≤ m285 79 7 ∧ m285 79 7 ≤ 4 := hIm285.1 79 7
            refine zW.step (st1 := (114, [(some (.ref 79)), (some (.int (Int32.ofInt sort))), (some (.int (Int32.ofInt (m242 79 6)))), (some (.int (Int32.ofInt x3_269))), none], [.int ((Int32.ofInt (m285 79 7)) - (Int32.ofInt 1))], zk c m285)) (st2 := (114, [(some (.ref 79)), (some (.int (Int32.ofInt sort))), (some (.int (Int32.ofInt (m242 79 6)))), (some (.int (Int32.ofInt x3_269))), none], [.int (Int32.ofInt ((m285 79 7) - 1))], zk c m285)) ⟨[zo, zo, zo, zo], _, rfl, ⟨trivial, (Nat.lt_of_lt_of_le (Nat.le_of_ble_eq_true rfl) hN), trivial, trivial, trivial⟩⟩ (z_steq rfl (z_c1 (z_vi (zi_sub rfl rfl)) rfl) rfl) ?_
            exact zW.fin (zfin_i rfl rfl rfl) ⟨(m285 79 7) - 1, m285, rfl, rfl, hIm285, (by omega)⟩
          · refine zW.step (st1 := (115, [(some (.ref 79)), (some (.int (Int32.ofInt sort))), (some (.int (Int32.ofInt (m242 79 6)))), none, none], [], zk c m254)) (st2 := (115, [(some (.ref 79)), (some (.int (Int32.ofInt sort))), (some (.int (Int32.ofInt (m242 79 6)))), none, none], [], zk c m254)) ⟨[zo, zo, zt], _, rfl, ⟨trivial, trivial, zbt (fun q => b262 ((zi_eq rfl rfl (by unfold zR; omega) (⟨by decide, by decide⟩ : zR 1)).mp q)), trivial⟩⟩ rfl ?_
            have f293 : (0 : Int) ≤ m254 79 7 ∧ m254 79 7 ≤ 4 := hIm254.1 79 7
            have f294 : (0 : Int) ≤ m254 79 26 ∧ m254 79 26 ≤ 5 := hIm254.1 79 26
            have f295 : (0 : Int) ≤ m254 79 27 ∧ m254 79 27 ≤ 6 := hIm254.1 79 27
            have f296 : (0 : Int) ≤ m254 79 28 ∧ m254 79 28 ≤ 5 := hIm254.1 79 28
            have f297 : (0 : Int) ≤ m254 79 29 ∧ m254 79 29 ≤ 6 := hIm254.1 79 29
            have f298 : (0 : Int) ≤ m254 79 30 ∧ m254 79 30 ≤ 6 := hIm254.1 79 30
            obtain ⟨m299, hm299⟩ : ∃ q, q = zm_up m254 79 26 (m254 79 28) := ⟨_, rfl⟩
            have hIm299 := zJ_up26 hIm254 hm299 (by omega)
            have em299 : m299 79 26 = (m254 79 28) := by rw [hm299]; exact zm_eq
            have f300 : m299 79 7 = m254 79 7 := by rw [hm299]; exact zm_ne (Or.inr (by decide))
            have f301 : m299 79 27 = m254 79 27 := by rw [hm299]; exact zm_ne (Or.inr (by decide))
            have f302 : m299 79 28 = m254 79 28 := by rw [hm299]; exact zm_ne (Or.inr (by decide))
            have f303 : m299 79 29 = m254 79 29 := by rw [hm299]; exact zm_ne (Or.inr (by decide))
            have f304 : m299 79 30 = m254 79 30 := by rw [hm299]; exact zm_ne (Or.inr (by decide))
            have f305 : m299 79 48 = m254 79 48 := by rw [hm299]; exact zm_ne (Or.inr (by decide))
            refine zW.step (st1 := (123, [(some (.ref 79)), (some (.int (Int32.ofInt sort))), (some (.int (Int32.ofInt (m242 79 6)))), none, none], [], z_hup (zk c m254) 79 (.inr (12, (.int (Int32.ofInt (m254 79 0)) :: .ref 80 :: .ref 81 :: .ref 82 :: .ref 83 :: zm_rf (m254 79 5) :: .int (Int32.ofInt (m254 79 6)) :: .int (Int32.ofInt (m254 79 7)) :: .int (Int32.ofInt (m254 79 8)) :: .int (Int32.ofInt (m254 79 9)) :: .int (Int32.ofInt (m254 79 10)) :: .int (Int32.ofInt (m254 79 11)) :: .int (Int32.ofInt (m254 79 12)) :: .int (Int32.ofInt (m254 79 13)) :: .int (Int32.ofInt (m254 79 14)) :: .ref (z_RO + 5) :: .ref (z_RO + 3) :: .int (Int32.ofInt (m254 79 17)) :: .ref 84 :: .ref 85 :: .ref 86 :: .ref 87 :: .ref 88 :: .ref 89 :: .ref 90 :: .ref 91 :: .int (Int32.ofInt (m254 79 28)) :: .int (Int32.ofInt (m254 79 27)) :: .int (Int32.ofInt (m254 79 28)) :: .int (Int32.ofInt (m254 79 29)) :: .int (Int32.ofInt (m254 79 30)) :: .ref 92 :: .ref 93 :: .int (Int32.ofInt (m254 79 33)) :: .int (Int32.ofInt (m254 79 34)) :: .ref 94 :: .ref 95 :: .int (Int32.ofInt (m254 79 37)) :: .int (Int32.ofInt (m254 79 38)) :: .int (Int32.ofInt (m254 79 39)) :: .int (Int32.ofInt (m254 79 40)) :: .int (Int32.ofInt (m254 79 41)) :: .int (Int32.ofInt (m254 79 42)) :: .ref 96 :: .ref 97 :: .ref 98 :: .ref 99 :: .ref 100 :: .int (Int32.ofInt (m254 79 48)) :: .int (Int32.ofInt (m254 79 49)) :: .long (Int64.ofInt (m254 79 50)) :: .ref 101 :: .ref 102 :: .int (Int32.ofInt (m254 79 53)) :: .ref 103 :: .ref 104 :: .ref 105 :: .int (Int32.ofInt (m254 79 57)) :: []))))) (st2 := (123, [(some (.ref 79)), (some (.int (Int32.ofInt sort))), (some (.int (Int32.ofInt (m242 79 6)))), none, none], [], zk c m299)) ⟨[zo, zo, zo, zo], _, rfl, ⟨trivial, trivial, (Nat.lt_of_lt_of_le (Nat.le_of_ble_eq_true rfl) hN), ⟨(Nat.lt_of_lt_of_le (Nat.le_of_ble_eq_true rfl) hN), rfl, rfl⟩, trivial⟩⟩ (z_steq rfl rfl ((zk_up c m254 79 26 (m254 79 28) _ rfl).trans (by rw [hm299]))) ?_
            have f306 : (0 : Int) ≤ m299 79 30 ∧ m299 79 30 ≤ 6 := hIm299.1 79 30
            obtain ⟨m307, hm307⟩ : ∃ q, q = zm_up m299 79 27 (m299 79 30) := ⟨_, rfl⟩
            have hIm307 := zJ_up27 hIm299 hm307 (by omega) (by omega)
            have em307 : m307 79 27 = (m299 79 30) := by rw [hm307]; exact zm_eq
            have f308 : m307 79 26 = m299 79 26 := by rw [hm307]; exact zm_ne (Or.inr (by decide))
            have f309 : m307 79 7 = m299 79 7 := by rw [hm307]; exact zm_ne (Or.inr (by decide))
            have f310 : m307 79 28 = m299 79 28 := by rw [hm307]; exact zm_ne (Or.inr (by decide))
            have f311 : m307 79 29 = m299 79 29 := by rw [hm307]; exact zm_ne (Or.inr (by decide))
            have f312 : m307 79 30 = m299 79 30 := by rw [hm307]; exact zm_ne (Or.inr (by decide))
            have f313 : m307 79 48 = m299 79 48 := by rw [hm307]; exact zm_ne (Or.inr (by decide))
            refine zW.step (st1 := (131, [(some (.ref 79)), (some (.int (Int32.ofInt sort))), (some (.int (Int32.ofInt (m242 79 6)))), none, none], [], z_hup (zk c m299) 79 (.inr (12, (.int (Int32.ofInt (m299 79 0)) :: .ref 80 :: .ref 81 :: .ref 82 :: .ref 83 :: zm_rf (m299 79 5) :: .int (Int32.ofInt (m299 79 6)) :: .int (Int32.ofInt (m299 79 7)) :: .int (Int32.ofInt (m299 79 8)) :: .int (Int32.ofInt (m299 79 9)) :: .int (Int32.ofInt (m299 79 10)) :: .int (Int32.ofInt (m299 79 11)) :: .int (Int32.ofInt (m299 79 12)) :: .int (Int32.ofInt (m299 79 13)) :: .int (Int32.ofInt (m299 79 14)) :: .ref (z_RO + 5) :: .ref (z_RO + 3) :: .int (Int32.ofInt (m299 79 17)) :: .ref 84 :: .ref 85 :: .ref 86 :: .ref 87 :: .ref 88 :: .ref 89 :: .ref 90 :: .ref 91 :: .int (Int32.ofInt (m299 79 26)) :: .int (Int32.ofInt (m299 79 30)) :: .int (Int32.ofInt (m299 79 28)) :: .int (Int32.ofInt (m299 79 29)) :: .int (Int32.ofInt (m299 79 30)) :: .ref 92 :: .ref 93 :: .int (Int32.ofInt (m299 79 33)) :: .int (Int32.ofInt (m299 79 34)) :: .ref 94 :: .ref 95 :: .int (Int32.ofInt (m299 79 37)) :: .int (Int32.ofInt (m299 79 38)) :: .int (Int32.ofInt (m299 79 39)) :: .int (Int32.ofInt (m299 79 40)) :: .int (Int32.ofInt (m299 79 41)) :: .int (Int32.ofInt (m299 79 42)) :: .ref 96 :: .ref 97 :: .ref 98 :: .ref 99 :: .ref 100 :: .int (Int32.ofInt (m299 79 48)) :: .int (Int32.ofInt (m299 79 49)) :: .long (Int64.ofInt (m299 79 50)) :: .ref 101 :: .ref 102 :: .int (Int32.ofInt (m299 79 53)) :: .ref 103 :: .ref 104 :: .ref 105 :: .int (Int32.ofInt (m299 79 57)) :: []))))) (st2 := (131, [(some (.ref 79)), (some (.int (Int32.ofInt sort))), (some (.int (Int32.ofInt (m242 79 6)))), none, none], [], zk c m307)) ⟨[zo, zo, zo, zo], _, rfl, ⟨trivial, trivial, (Nat.lt_of_lt_of_le (Nat.le_of_ble_eq_true rfl) hN), ⟨(Nat.lt_of_lt_of_le (Nat.le_of_ble_eq_true rfl) hN), rfl, rfl⟩, trivial⟩⟩ (z_steq rfl rfl ((zk_up c m299 79 27 (m299 79 30) _ rfl).trans (by rw [hm307]))) ?_
            refine zW.step (st1 := (133, [(some (.ref 79)), (some (.int (Int32.ofInt sort))), (some (.int (Int32.ofInt (m242 79 6)))), (some (.int (Int32.ofInt 0))), none], [], zk c m307)) (st2 := (133, [(some (.ref 79)), (some (.int (Int32.ofInt sort))), (some (.int (Int32.ofInt (m242 79 6)))), (some (.int (Int32.ofInt 0))), none], [], zk c m307)) ⟨[zo, zo], _, rfl, ⟨trivial, trivial, trivial⟩⟩ rfl ?_
            refine L_X12_text_133 zn _ hN hC sort r_sort ht (m242 79 6) m _ (fun x3_314 m_314 hIm_314 i1_314 i29_314 tK_314 => ?_) _ 0 m307 hIm307 (by omega) (by omega) (zK_cg (zK_upE (zK_upE (zK_upE (kk_242 (by omega)) hm254 (by decide)) hm299 (by decide)) hm307 (by decide)) (by omega)) rfl
            have f315 : (0 : Int) ≤ m_314 79 7 ∧ m_314 79 7 ≤ 4 := hIm_314.1 79 7
            have f316 : (0 : Int) ≤ m_314 79 26 ∧ m_314 79 26 ≤ 5 := hIm_314.1 79 26
            have f317 : (0 : Int) ≤ m_314 79 27 ∧ m_314 79 27 ≤ 6 := hIm_314.1 79 27
            have f318 : (0 : Int) ≤ m_314 79 28 ∧ m_314 79 28 ≤ 5 := hIm_314.1 79 28
            have f319 : (0 : Int) ≤ m_314 79 29 ∧ m_314 79 29 ≤ 6 := hIm_314.1 79 29
            have f320 : (0 : Int) ≤ m_314 79 30 ∧ m_314 79 30 ≤ 6 := hIm_314.1 79 30
            refine zW.step (st1 := (158, [(some (.ref 79)), (some (.int (Int32.ofInt sort))), (some (.int (Int32.ofInt (m242 79 6)))), (some (.int (Int32.ofInt 0))), none], [], zk c m_314)) (st2 := (158, [(some (.ref 79)), (some (.int (Int32.ofInt sort))), (some (.int (Int32.ofInt (m242 79 6)))), (some (.int (Int32.ofInt 0))), none], [], zk c m_314)) ⟨[zo, zo], _, rfl, ⟨trivial, trivial, trivial⟩⟩ rfl ?_
            refine L_X12_text_158 zn _ hN hC sort r_sort ht (m242 79 6) m _ (fun x3_321 m_321 hIm_321 i1_321 i29_321 tK_321 => ?_) _ 0 m_314 hIm_314 (by omega) (by omega) (zK_cg tK_314 (by omega)) rfl
            have f322 : (0 : Int) ≤ m_321 79 7 ∧ m_321 79 7 ≤ 4 := hIm_321.1 79 7
            have f323 : (0 : Int) ≤ m_321 79 26 ∧ m_321 79 26 ≤ 5 := hIm_321.1 79 26
            have f324 : (0 : Int) ≤ m_321 79 27 ∧ m_321 79 27 ≤ 6 := hIm_321.1 79 27
            have f325 : (0 : Int) ≤ m_321 79 28 ∧ m_321 79 28 ≤ 5 := hIm_321.1 79 28
            have f326 : (0 : Int) ≤ m_321 79 29 ∧ m_321 79 29 ≤ 6 := hIm_321.1 79 29
            have f327 : (0 : Int) ≤ m_321 79 30 ∧ m_321 79 30 ≤ 6 := hIm_321.1 79 30
            refine zW.step (st1 := (184, [(some (.ref 79)), (some (.int (Int32.ofInt sort))), (some (.int (Int32.ofInt (m242 79 6)))), (some (.int (Int32.ofInt 0))), none], [], zk c m_321)) (st2 := (184, [(some (.ref 79)), (some (.int (Int32.ofInt sort))), (some (.int (Int32.ofInt (m242 79 6)))), (some (.int (Int32.ofInt 0))), none], [], zk c m_321)) ⟨[zo, zo], _, rfl, ⟨trivial, trivial, trivial⟩⟩ rfl ?_
            refine L_X12_text_184 zn _ hN hC sort r_sort ht (m242 79 6) m _ (fun x3_328 m_328 hIm_328 i1_328 i29_328 tK_328 => ?_) _ 0 m_321 hIm_321 (by omega) (by omega) (zK_cg tK_321 (by omega)) rfl
            have f329 : (0 : Int) ≤ m_328 79 7 ∧ m_328 79 7 ≤ 4 := hIm_328.1 79 7
            have f330 : (0 : Int) ≤ m_328 79 26 ∧ m_328 79 26 ≤ 5 := hIm_328.1 79 26
            have f331 : (0 : Int) ≤ m_328 79 27 ∧ m_328 79 27 ≤ 6 := hIm_328.1 79 27
            have f332 : (0 : Int) ≤ m_328 79 28 ∧ m_328 79 28 ≤ 5 := hIm_328.1 79 28
            have f333 : (0 : Int) ≤ m_328 79 29 ∧ m_328 79 29 ≤ 6 := hIm_328.1 79 29
            have f334 : (0 : Int) ≤ m_328 79 30 ∧ m_328 79 30 ≤ 6 := hIm_328.1 79 30
            refine zW.step (st1 := (210, [(some (.ref 79)), (some (.int (Int32.ofInt sort))), (some (.int (Int32.ofInt (m242 79 6)))), (some (.int (Int32.ofInt 0))), none], [], zk c m_328)) (st2 := (210, [(some (.ref 79)), (some (.int (Int32.ofInt sort))), (some (.int (Int32.ofInt (m242 79 6)))), (some (.int (Int32.ofInt 0))), none], [], zk c m_328)) ⟨[zo, zo], _, rfl, ⟨trivial, trivial, trivial⟩⟩ rfl ?_
            refine L_X12_text_210 zn _ hN hC sort r_sort ht (m242 79 6) m _ (fun x3_335 m_335 hIm_335 i1_335 z_335 i29_335 tK_335 tI_335 e_335 => ?_) _ 0 m_328 (zJ_99 hIm_328) (by omega) (by intro j hj; omega) (by omega) (zK_cg tK_328 (by omega)) (zS9_of hIm_328) rfl
            have f336 : (0 : Int) ≤ m_335 79 7 ∧ m_335 79 7 ≤ 4 := hIm_335.1 79 7
            have f337 : (0 : Int) ≤ m_335 79 26 ∧ m_335 79 26 ≤ 5 := hIm_335.1 79 26
            have f338 : (0 : Int) ≤ m_335 79 27 ∧ m_335 79 27 ≤ 6 := hIm_335.1 79 27
            have f339 : (0 : Int) ≤ m_335 79 28 ∧ m_335 79 28 ≤ 5 := hIm_335.1 79 28
            have f340 : (0 : Int) ≤ m_335 79 29 ∧ m_335 79 29 ≤ 6 := hIm_335.1 79 29
            have f341 : (0 : Int) ≤ m_335 79 30 ∧ m_335 79 30 ≤ 6 := hIm_335.1 79 30
            obtain ⟨m342, hm342⟩ : ∃ q, q = zm_up m_335 92 174 (m_335 79 29) := ⟨_, rfl⟩
            have hIm342 := zJ_upE hIm_335 hm342 (by unfold zOj zsen; omega) (zvw_174 zV_92 (show (0 : Int) ≤ (m_335 79 29) ∧ (m_335 79 29) ≤ 10 by omega))
            have em342 : m342 92 174 = (m_335 79 29) := by rw [hm342]; exact zm_eq
            have f343 : m342 79 7 = m_335 79 7 := by rw [hm342]; exact zm_ne (Or.inl (by decide))
            have f344 : m342 79 26 = m_335 79 26 := by rw [hm342]; exact zm_ne (Or.inl (by decide))
            have f345 : m342 79 27 = m_335 79 27 := by rw [hm342]; exact zm_ne (Or.inl (by decide))
            have f346 : m342 79 28 = m_335 79 28 := by rw [hm342]; exact zm_ne (Or.inl (by decide))
            have f347 : m342 79 29 = m_335 79 29 := by rw [hm342]; exact zm_ne (Or.inl (by decide))
            have f348 : m342 79 30 = m_335 79 30 := by rw [hm342]; exact zm_ne (Or.inl (by decide))
            have f349 : m342 79 48 = m_335 79 48 := by rw [hm342]; exact zm_ne (Or.inl (by decide))
            have tk350 : zK m342 (m_335 79 29) := by rw [hm342]; exact zK_up tK_335 (by decide)
            have tk351 : zS9 t9 m342 := by rw [hm342]; exact zS9_up tI_335 (by decide)
            refine zW.step (st1 := (242, [(some (.ref 79)), (some (.int (Int32.ofInt sort))), (some (.int (Int32.ofInt (m242 79 6)))), (some (.int (Int32.ofInt x3_335))), none], [], z_hup (zk c m_335) 92 (.inl (0, 178, .inl (upd (fun j => Int32.ofInt (m_335 92 j)) ((Int16.ofInt 174).toInt32).toNatClampNeg (Int32.ofInt (m_335 79 29))))))) (st2 := (242, [(some (.ref 79)), (some (.int (Int32.ofInt sort))), (some (.int (Int32.ofInt (m242 79 6)))), (some (.int (Int32.ofInt x3_335))), none], [], zk c m342)) ⟨[zo, zo, zo, zo, zo, (false, 0, none, zh0, some (.inl (0, 178, .inl (fun j => Int32.ofInt (m_335 92 j)))))], _, rfl, ⟨trivial, (Nat.lt_of_lt_of_le (Nat.le_of_ble_eq_true rfl) hN), trivial, trivial, (Nat.lt_of_lt_of_le (Nat.le_of_ble_eq_true rfl) hN), ⟨zk_ra c m_335 zA_92 (Nat.lt_of_lt_of_le (Nat.le_of_ble_eq_true rfl) hN), zi_in (by decide : (Int16.ofInt 174).toInt32 = Int32.ofInt 174) (by omega) (by omega) (by omega)⟩, trivial⟩⟩ (z_steq rfl rfl ((zk_ias c m_335 zA_92 (by decide : (Int16.ofInt 174).toInt32 = Int32.ofInt 174) (⟨by decide, by decide⟩ : zR 174) rfl).trans (by rw [hm342]; rfl))) ?_
            refine zW.step (st1 := (244, [(some (.ref 79)), (some (.int (Int32.ofInt sort))), (some (.int (Int32.ofInt (m242 79 6)))), (some (.int (Int32.ofInt 0))), none], [], zk c m342)) (st2 := (244, [(some (.ref 79)), (some (.int (Int32.ofInt sort))), (some (.int (Int32.ofInt (m242 79 6)))), (some (.int (Int32.ofInt 0))), none], [], zk c m342)) ⟨[zo, zo], _, rfl, ⟨trivial, trivial, trivial⟩⟩ rfl ?_
            refine L_X12_text_244 zn _ hN hC sort r_sort ht (m242 79 6) m _ (fun x3_352 o4_352 m_352 hIm_352 i1_352 t_352 i29_352 tK_352 tI_352 e_352 => ?_) _ 0 none m342 hIm342 (by omega) (by exact zqT_0 (fun j hj => z_335 j (by omega)) hm342) (by omega) (zK_cg tk350 (by omega)) tk351 rfl
            have f353 : (0 : Int) ≤ m_352 79 7 ∧ m_352 79 7 ≤ 4 := hIm_352.1 79 7
            have f354 : (0 : Int) ≤ m_352 79 26 ∧ m_352 79 26 ≤ 5 := hIm_352.1 79 26
            have f355 : (0 : Int) ≤ m_352 79 27 ∧ m_352 79 27 ≤ 6 := hIm_352.1 79 27
            have f356 : (0 : Int) ≤ m_352 79 28 ∧ m_352 79 28 ≤ 5 := hIm_352.1 79 28
            have f357 : (0 : Int) ≤ m_352 79 29 ∧ m_352 79 29 ≤ 6 := hIm_352.1 79 29
            have f358 : (0 : Int) ≤ m_352 79 30 ∧ m_352 79 30 ≤ 6 := hIm_352.1 79 30
            refine zW.step (st1 := (356, [(some (.ref 79)), (some (.int (Int32.ofInt sort))), (some (.int (Int32.ofInt (m242 79 6)))), (some (.int (Int32.ofInt 0))), o4_352], [], zk c m_352)) (st2 := (356, [(some (.ref 79)), (some (.int (Int32.ofInt sort))), (some (.int (Int32.ofInt (m242 79 6)))), (some (.int (Int32.ofInt 0))), o4_352], [], zk c m_352)) ⟨[zo, zo], _, rfl, ⟨trivial, trivial, trivial⟩⟩ rfl ?_
            refine L_X12_text_356 zn _ hN hC sort r_sort ht (m242 79 6) m _ (fun x3_359 o4_359 m_359 hIm_359 i1_359 p3_359 i29_359 tI_359 => ?_) _ 0 o4_352 m_352 hIm_352 (by omega) (by exact zqT_P t_352 (by omega)) (by omega) tI_352 rfl
            have f360 : (0 : Int) ≤ m_359 79 7 ∧ m_359 79 7 ≤ 4 := hIm_359.1 79 7
            have f361 : (0 : Int) ≤ m_359 79 26 ∧ m_359 79 26 ≤ 5 := hIm_359.1 79 26
            have f362 : (0 : Int) ≤ m_359 79 27 ∧ m_359 79 27 ≤ 6 := hIm_359.1 79 27
            have f363 : (0 : Int) ≤ m_359 79 28 ∧ m_359 79 28 ≤ 5 := hIm_359.1 79 28
            have f364 : (0 : Int) ≤ m_359 79 29 ∧ m_359 79 29 ≤ 6 := hIm_359.1 79 29
            have f365 : (0 : Int) ≤ m_359 79 30 ∧ m_359 79 30 ≤ 6 := hIm_359.1 79 30
            obtain ⟨m366, hm366⟩ : ∃ q, q = zm_up m_359 79 53 0 := ⟨_, rfl⟩
            have hIm366 := zJ_upE hIm_359 hm366 (zOj_79 (by decide)) (show (0 : Int) ≤ 0 ∧ 0 ≤ 6 by omega)
            have em366 : m366 79 53 = 0 := by rw [hm366]; exact zm_eq
            have f367 : m366 79 7 = m_359 79 7 := by rw [hm366]; exact zm_ne (Or.inr (by decide))
            have f368 : m366 79 26 = m_359 79 26 := by rw [hm366]; exact zm_ne (Or.inr (by decide))
            have f369 : m366 79 27 = m_359 79 27 := by rw [hm366]; exact zm_ne (Or.inr (by decide))
            have f370 : m366 79 28 = m_359 79 28 := by rw [hm366]; exact zm_ne (Or.inr (by decide))
            have f371 : m366 79 29 = m_359 79 29 := by rw [hm366]; exact zm_ne (Or.inr (by decide))
            have f372 : m366 79 30 = m_359 79 30 := by rw [hm366]; exact zm_ne (Or.inr (by decide))
            have f373 : m366 79 48 = m_359 79 48 := by rw [hm366]; exact zm_ne (Or.inr (by decide))
            have tk374 : zS9 t9 m366 := by rw [hm366]; exact zS9_up tI_359 (by decide)
            have tk375 : zqP (m366 92) 0 := by rw [hm366]; exact zP_up (p3_359) (Or.inl (by decide))
            refine zW.step (st1 := (428, [(some (.ref 79)), (some (.int (Int32.ofInt sort))), (some (.int (Int32.ofInt (m242 79 6)))), (some (.int (Int32.ofInt x3_359))), o4_359], [], z_hup (zk c m_359) 79 (.inr (12, (.int (Int32.ofInt (m_359 79 0)) :: .ref 80 :: .ref 81 :: .ref 82 :: .ref 83 :: zm_rf (m_359 79 5) :: .int (Int32.ofInt (m_359 79 6)) :: .int (Int32.ofInt (m_359 79 7)) :: .int (Int32.ofInt (m_359 79 8)) :: .int (Int32.ofInt (m_359 79 9)) :: .int (Int32.ofInt (m_359 79 10)) :: .int (Int32.ofInt (m_359 79 11)) :: .int (Int32.ofInt (m_359 79 12)) :: .int (Int32.ofInt (m_359 79 13)) :: .int (Int32.ofInt (m_359 79 14)) :: .ref (z_RO + 5) :: .ref (z_RO + 3) :: .int (Int32.ofInt (m_359 79 17)) :: .ref 84 :: .ref 85 :: .ref 86 :: .ref 87 :: .ref 88 :: .ref 89 :: .ref 90 :: .ref 91 :: .int (Int32.ofInt (m_359 79 26)) :: .int (Int32.ofInt (m_359 79 27)) :: .int (Int32.ofInt (m_359 79 28)) :: .int (Int32.ofInt (m_359 79 29)) :: .int (Int32.ofInt (m_359 79 30)) :: .ref 92 :: .ref 93 :: .int (Int32.ofInt (m_359 79 33)) :: .int (Int32.ofInt (m_359 79 34)) :: .ref 94 :: .ref 95 :: .int (Int32.ofInt (m_359 79 37)) :: .int (Int32.ofInt (m_359 79 38)) :: .int (Int32.ofInt (m_359 79 39)) :: .int (Int32.ofInt (m_359 79 40)) :: .int (Int32.ofInt (m_359 79 41)) :: .int (Int32.ofInt (m_359 79 42)) :: .ref 96 :: .ref 97 :: .ref 98 :: .ref 99 :: .ref 100 :: .int (Int32.ofInt (m_359 79 48)) :: .int (Int32.ofInt (m_359 79 49)) :: .long (Int64.ofInt (m_359 79 50)) :: .ref 101 :: .ref 102 :: .int (Int32.ofInt 0) :: .ref 103 :: .ref 104 :: .ref 105 :: .int (Int32.ofInt (m_359 79 57)) :: []))))) (st2 := (428, [(some (.ref 79)), (some (.int (Int32.ofInt sort))), (some (.int (Int32.ofInt (m242 79 6)))), (some (.int (Int32.ofInt x3_359))), o4_359], [], zk c m366)) ⟨[zo, zo, zo], _, rfl, ⟨trivial, trivial, ⟨(Nat.lt_of_lt_of_le (Nat.le_of_ble_eq_true rfl) hN), rfl, rfl⟩, trivial⟩⟩ (z_steq rfl rfl ((zk_up c m_359 79 53 0 _ rfl).trans (by rw [hm366]))) ?_
            obtain ⟨m376, hm376⟩ : ∃ q, q = zm_up m366 79 48 0 := ⟨_, rfl⟩
            have hIm376 := zJ_upE hIm366 hm376 (by unfold zOj; omega) (show (0 : Int) ≤ 0 ∧ 0 ≤ 40 by omega)
            have em376 : m376 79 48 = 0 := by rw [hm376]; exact zm_eq
            have f377 : m376 79 7 = m366 79 7 := by rw [hm376]; exact zm_ne (Or.inr (by decide))
            have f378 : m376 79 26 = m366 79 26 := by rw [hm376]; exact zm_ne (Or.inr (by decide))
            have f379 : m376 79 27 = m366 79 27 := by rw [hm376]; exact zm_ne (Or.inr (by decide))
            have f380 : m376 79 28 = m366 79 28 := by rw [hm376]; exact zm_ne (Or.inr (by decide))
            have f381 : m376 79 29 = m366 79 29 := by rw [hm376]; exact zm_ne (Or.inr (by decide))
            have f382 : m376 79 30 = m366 79 30 := by rw [hm376]; exact zm_ne (Or.inr (by decide))
            have tk383 : zS9 t9 m376 := by rw [hm376]; exact zS9_up tk374 (by decide)
            have tk384 : zqP (m376 92) 0 := by rw [hm376]; exact zP_up tk375 (Or.inl (by decide))
            clear tk374 tk375
            refine zW.step (st1 := (433, [(some (.ref 79)), (some (.int (Int32.ofInt sort))), (some (.int (Int32.ofInt (m242 79 6)))), (some (.int (Int32.ofInt x3_359))), o4_359], [], z_hup (zk c m366) 79 (.inr (12, (.int (Int32.ofInt (m366 79 0)) :: .ref 80 :: .ref 81 :: .ref 82 :: .ref 83 :: zm_rf (m366 79 5) :: .int (Int32.ofInt (m366 79 6)) :: .int (Int32.ofInt (m366 79 7)) :: .int (Int32.ofInt (m366 79 8)) :: .int (Int32.ofInt (m366 79 9)) :: .int (Int32.ofInt (m366 79 10)) :: .int (Int32.ofInt (m366 79 11)) :: .int (Int32.ofInt (m366 79 12)) :: .int (Int32.ofInt (m366 79 13)) :: .int (Int32.ofInt (m366 79 14)) :: .ref (z_RO + 5) :: .ref (z_RO + 3) :: .int (Int32.ofInt (m366 79 17)) :: .ref 84 :: .ref 85 :: .ref 86 :: .ref 87 :: .ref 88 :: .ref 89 :: .ref 90 :: .ref 91 :: .int (Int32.ofInt (m366 79 26)) :: .int (Int32.ofInt (m366 79 27)) :: .int (Int32.ofInt (m366 79 28)) :: .int (Int32.ofInt (m366 79 29)) :: .int (Int32.ofInt (m366 79 30)) :: .ref 92 :: .ref 93 :: .int (Int32.ofInt (m366 79 33)) :: .int (Int32.ofInt (m366 79 34)) :: .ref 94 :: .ref 95 :: .int (Int32.ofInt (m366 79 37)) :: .int (Int32.ofInt (m366 79 38)) :: .int (Int32.ofInt (m366 79 39)) :: .int (Int32.ofInt (m366 79 40)) :: .int (Int32.ofInt (m366 79 41)) :: .int (Int32.ofInt (m366 79 42)) :: .ref 96 :: .ref 97 :: .ref 98 :: .ref 99 :: .ref 100 :: .int (Int32.ofInt 0) :: .int (Int32.ofInt (m366 79 49)) :: .long (Int64.ofInt (m366 79 50)) :: .ref 101 :: .ref 102 :: .int (Int32.ofInt (m366 79 53)) :: .ref 103 :: .ref 104 :: .ref 105 :: .int (Int32.ofInt (m366 79 57)) :: []))))) (st2 := (433, [(some (.ref 79)), (some (.int (Int32.ofInt sort))), (some (.int (Int32.ofInt (m242 79 6)))), (some (.int (Int32.ofInt x3_359))), o4_359], [], zk c m376)) ⟨[zo, zo, zo], _, rfl, ⟨trivial, trivial, ⟨(Nat.lt_of_lt_of_le (Nat.le_of_ble_eq_true rfl) hN), rfl, rfl⟩, trivial⟩⟩ (z_steq rfl rfl ((zk_up c m366 79 48 0 _ rfl).trans (by rw [hm376]))) ?_
            obtain ⟨m385, hm385⟩ : ∃ q, q = zm_up m376 79 49 0 := ⟨_, rfl⟩
            have hIm385 := zJ_upE hIm376 hm385 (by unfold zOj; omega) (show (0 : Int) ≤ 0 ∧ 0 ≤ 60 by omega)
            have em385 : m385 79 49 = 0 := by rw [hm385]; exact zm_eq
            have f386 : m385 79 48 = m376 79 48 := by rw [hm385]; exact zm_ne (Or.inr (by decide))
            have f387 : m385 79 7 = m376 79 7 := by rw [hm385]; exact zm_ne (Or.inr (by decide))
            have f388 : m385 79 26 = m376 79 26 := by rw [hm385]; exact zm_ne (Or.inr (by decide))
            have f389 : m385 79 27 = m376 79 27 := by rw [hm385]; exact zm_ne (Or.inr (by decide))
            have f390 : m385 79 28 = m376 79 28 := by rw [hm385]; exact zm_ne (Or.inr (by decide))
            have f391 : m385 79 29 = m376 79 29 := by rw [hm385]; exact zm_ne (Or.inr (by decide))
            have f392 : m385 79 30 = m376 79 30 := by rw [hm385]; exact zm_ne (Or.inr (by decide))
            have tk393 : zS9 t9 m385 := by rw [hm385]; exact zS9_up tk383 (by decide)
            have tk394 : zqP (m385 92) 0 := by rw [hm385]; exact zP_up tk384 (Or.inl (by decide))
            clear tk383 tk384
            refine zW.step (st1 := (438, [(some (.ref 79)), (some (.int (Int32.ofInt sort))), (some (.int (Int32.ofInt (m242 79 6)))), (some (.int (Int32.ofInt x3_359))), o4_359], [], z_hup (zk c m376) 79 (.inr (12, (.int (Int32.ofInt (m376 79 0)) :: .ref 80 :: .ref 81 :: .ref 82 :: .ref 83 :: zm_rf (m376 79 5) :: .int (Int32.ofInt (m376 79 6)) :: .int (Int32.ofInt (m376 79 7)) :: .int (Int32.ofInt (m376 79 8)) :: .int (Int32.ofInt (m376 79 9)) :: .int (Int32.ofInt (m376 79 10)) :: .int (Int32.ofInt (m376 79 11)) :: .int (Int32.ofInt (m376 79 12)) :: .int (Int32.ofInt (m376 79 13)) :: .int (Int32.ofInt (m376 79 14)) :: .ref (z_RO + 5) :: .ref (z_RO + 3) :: .int (Int32.ofInt (m376 79 17)) :: .ref 84 :: .ref 85 :: .ref 86 :: .ref 87 :: .ref 88 :: .ref 89 :: .ref 90 :: .ref 91 :: .int (Int32.ofInt (m376 79 26)) :: .int (Int32.ofInt (m376 79 27)) :: .int (Int32.ofInt (m376 79 28)) :: .int (Int32.ofInt (m376 79 29)) :: .int (Int32.ofInt (m376 79 30)) :: .ref 92 :: .ref 93 :: .int (Int32.ofInt (m376 79 33)) :: .int (Int32.ofInt (m376 79 34)) :: .ref 94 :: .ref 95 :: .int (Int32.ofInt (m376 79 37)) :: .int (Int32.ofInt (m376 79 38)) :: .int (Int32.ofInt (m376 79 39)) :: .int (Int32.ofInt (m376 79 40)) :: .int (Int32.ofInt (m376 79 41)) :: .int (Int32.ofInt (m376 79 42)) :: .ref 96 :: .ref 97 :: .ref 98 :: .ref 99 :: .ref 100 :: .int (Int32.ofInt (m376 79 48)) :: .int (Int32.ofInt 0) :: .long (Int64.ofInt (m376 79 50)) :: .ref 101 :: .ref 102 :: .int (Int32.ofInt (m376 79 53)) :: .ref 103 :: .ref 104 :: .ref 105 :: .int (Int32.ofInt (m376 79 57)) :: []))))) (st2 := (438, [(some (.ref 79)), (some (.int (Int32.ofInt sort))), (some (.int (Int32.ofInt (m242 79 6)))), (some (.int (Int32.ofInt x3_359))), o4_359], [], zk c m385)) ⟨[zo, zo, zo], _, rfl, ⟨trivial, trivial, ⟨(Nat.lt_of_lt_of_le (Nat.le_of_ble_eq_true rfl) hN), rfl, rfl⟩, trivial⟩⟩ (z_steq rfl rfl ((zk_up c m376 79 49 0 _ rfl).trans (by rw [hm385]))) ?_
            obtain ⟨m395, hm395⟩ : ∃ q, q = zm_up m385 79 57 0 := ⟨_, rfl⟩
            have hIm395 := zJ_upE hIm385 hm395 (zOj_79 (by decide)) (show (0 : Int) ≤ 0 ∧ 0 ≤ 1 by omega)
            have em395 : m395 79 57 = 0 := by rw [hm395]; exact zm_eq
            have f396 : m395 79 48 = m385 79 48 := by rw [hm395]; exact zm_ne (Or.inr (by decide))
            have f397 : m395 79 7 = m385 79 7 := by rw [hm395]; exact zm_ne (Or.inr (by decide))
            have f398 : m395 79 26 = m385 79 26 := by rw [hm395]; exact zm_ne (Or.inr (by decide))
            have f399 : m395 79 27 = m385 79 27 := by rw [hm395]; exact zm_ne (Or.inr (by decide))
            have f400 : m395 79 28 = m385 79 28 := by rw [hm395]; exact zm_ne (Or.inr (by decide))
            have f401 : m395 79 29 = m385 79 29 := by rw [hm395]; exact zm_ne (Or.inr (by decide))
            have f402 : m395 79 30 = m385 79 30 := by rw [hm395]; exact zm_ne (Or.inr (by decide))
            have tk403 : zS9 t9 m395 := by rw [hm395]; exact zS9_up tk393 (by decide)
            have tk404 : zqP (m395 92) 0 := by rw [hm395]; exact zP_up tk394 (Or.inl (by decide))
            clear tk393 tk394
            refine zW.step (st1 := (443, [(some (.ref 79)), (some (.int (Int32.ofInt sort))), (some (.int (Int32.ofInt (m242 79 6)))), (some (.int (Int32.ofInt x3_359))), o4_359], [], z_hup (zk c m385) 79 (.inr (12, (.int (Int32.ofInt (m385 79 0)) :: .ref 80 :: .ref 81 :: .ref 82 :: .ref 83 :: zm_rf (m385 79 5) :: .int (Int32.ofInt (m385 79 6)) :: .int (Int32.ofInt (m385 79 7)) :: .int (Int32.ofInt (m385 79 8)) :: .int (Int32.ofInt (m385 79 9)) :: .int (Int32.ofInt (m385 79 10)) :: .int (Int32.ofInt (m385 79 11)) :: .int (Int32.ofInt (m385 79 12)) :: .int (Int32.ofInt (m385 79 13)) :: .int (Int32.ofInt (m385 79 14)) :: .ref (z_RO + 5) :: .ref (z_RO + 3) :: .int (Int32.ofInt (m385 79 17)) :: .ref 84 :: .ref 85 :: .ref 86 :: .ref 87 :: .ref 88 :: .ref 89 :: .ref 90 :: .ref 91 :: .int (Int32.ofInt (m385 79 26)) :: .int (Int32.ofInt (m385 79 27)) :: .int (Int32.ofInt (m385 79 28)) :: .int (Int32.ofInt (m385 79 29)) :: .int (Int32.ofInt (m385 79 30)) :: .ref 92 :: .ref 93 :: .int (Int32.ofInt (m385 79 33)) :: .int (Int32.ofInt (m385 79 34)) :: .ref 94 :: .ref 95 :: .int (Int32.ofInt (m385 79 37)) :: .int (Int32.ofInt (m385 79 38)) :: .int (Int32.ofInt (m385 79 39)) :: .int (Int32.ofInt (m385 79 40)) :: .int (Int32.ofInt (m385 79 41)) :: .int (Int32.ofInt (m385 79 42)) :: .ref 96 :: .ref 97 :: .ref 98 :: .ref 99 :: .ref 100 :: .int (Int32.ofInt (m385 79 48)) :: .int (Int32.ofInt (m385 79 49)) :: .long (Int64.ofInt (m385 79 50)) :: .ref 101 :: .ref 102 :: .int (Int32.ofInt (m385 79 53)) :: .ref 103 :: .ref 104 :: .ref 105 :: .int (Int32.ofInt 0) :: []))))) (st2 := (443, [(some (.ref 79)), (some (.int (Int32.ofInt sort))), (some (.int (Int32.ofInt (m242 79 6)))), (some (.int (Int32.ofInt x3_359))), o4_359], [], zk c m395)) ⟨[zo, zo, zo], _, rfl, ⟨trivial, trivial, ⟨(Nat.lt_of_lt_of_le (Nat.le_of_ble_eq_true rfl) hN), (z_narZ rfl (by omega)), rfl⟩, trivial⟩⟩ (z_steq rfl rfl ((zk_up c m385 79 57 0 _ rfl).trans (by rw [hm395]))) ?_
            have f405 : (0 : Int) ≤ m395 79 29 ∧ m395 79 29 ≤ 6 := hIm395.1 79 29
            refine zW.step (st1 := (447, [(some (.ref 79)), (some (.int (Int32.ofInt sort))), (some (.int (Int32.ofInt (m242 79 6)))), (some (.int (Int32.ofInt x3_359))), o4_359], [.int (Int32.ofInt (m395 79 29))], zk c m395)) (st2 := (447, [(some (.ref 79)), (some (.int (Int32.ofInt sort))), (some (.int (Int32.ofInt (m242 79 6)))), (some (.int (Int32.ofInt x3_359))), o4_359], [.int (Int32.ofInt (m395 79 29))], zk c m395)) ⟨[zo, zo], _, rfl, ⟨trivial, (Nat.lt_of_lt_of_le (Nat.le_of_ble_eq_true rfl) hN), trivial⟩⟩ rfl ?_
            exact zW.fin (zfin_i rfl rfl rfl) ⟨m395 79 29, m395, rfl, rfl, (zJ_text hIm395 tk404 (by omega) tk403 (by omega)), (by omega)⟩
        · refine zW.step (st1 := (37, [(some (.ref 79)), (some (.int (Int32.ofInt sort))), none, none, none], [], zk c m242)) (st2 := (37, [(some (.ref 79)), (some (.int (Int32.ofInt sort))), none, none, none], [], zk c m242)) ⟨[zo, zo], _, rfl, ⟨trivial, zbf (fun q => b252 ((zi_eq rfl rfl (by unfold zR; omega) (⟨by decide, by decide⟩ : zR (-1))).mp q)), trivial⟩⟩ rfl ?_
          refine zW.step (st1 := (38, [(some (.ref 79)), (some (.int (Int32.ofInt sort))), none, none, none], [.int (Int32.ofInt (-1))], zk c m242)) (st2 := (38, [(some (.ref 79)), (some (.int (Int32.ofInt sort))), none, none, none], [.int (Int32.ofInt (-1))], zk c m242)) ⟨[zo], _, rfl, ⟨trivial, trivial⟩⟩ rfl ?_
          exact zW.fin (zfin_i rfl rfl rfl) ⟨(-1), m242, rfl, rfl, hIm242, (by omega)⟩
    · refine zW.step (st1 := (28, [(some (.ref 79)), (some (.int (Int32.ofInt sort))), none, none, none], [], zk c m218)) (st2 := (28, [(some (.ref 79)), (some (.int (Int32.ofInt sort))), none, none, none], [], zk c m218)) ⟨[zo, zo, zt], _, rfl, ⟨trivial, trivial, zbt (fun q => b240 ((zi_eq rfl rfl (by unfold zR; omega) (⟨by decide, by decide⟩ : zR 1)).mp q)), trivial⟩⟩ rfl ?_
      refine zW.step (st1 := (30, [(some (.ref 79)), (some (.int (Int32.ofInt sort))), none, none, none], [.int (Int32.ofInt sort), .ref 79], zk c m218)) (st2 := (30, [(some (.ref 79)), (some (.int (Int32.ofInt sort))), none, none, none], [.int (Int32.ofInt sort), .ref 79], zk c m218)) ⟨[zo, zo], _, rfl, ⟨trivial, trivial, trivial⟩⟩ rfl ?_
      obtain ⟨r406, m406, hs406, hIm406, q_406, hs_406, kk_406, kV_406⟩ := S_X12_fault zn (d + 0) hN hC sort m218 hIm218 (by omega)
      refine zW.step (st1 := (33, [(some (.ref 79)), (some (.int (Int32.ofInt sort))), none, none, none], [.int (Int32.ofInt r406)], zk c m406)) ⟨[zc (some (.int (Int32.ofInt r406))) (zk c m406)], _, rfl, ⟨⟨⟨(Nat.lt_of_lt_of_le (Nat.le_of_ble_eq_true rfl) hN), (Nat.le_of_ble_eq_true rfl)⟩, hs406, (Nat.le_of_ble_eq_true rfl), Nat.le_refl _, Nat.le_refl _, Nat.le_refl _, Nat.le_refl _⟩, trivial⟩⟩ rfl ?_
      have f407 : (0 : Int) ≤ m406 79 7 ∧ m406 79 7 ≤ 4 := hIm406.1 79 7
      have f408 : m406 79 7 = m218 79 7 := kV_406 79 7 (by omega)
      have f409 : (0 : Int) ≤ m406 79 26 ∧ m406 79 26 ≤ 5 := hIm406.1 79 26
      have f410 : m406 79 26 = m218 79 26 := kV_406 79 26 (by omega)
      have f411 : (0 : Int) ≤ m406 79 27 ∧ m406 79 27 ≤ 6 := hIm406.1 79 27
      have f412 : m406 79 27 = m218 79 27 := kV_406 79 27 (by omega)
      have f413 : (0 : Int) ≤ m406 79 28 ∧ m406 79 28 ≤ 5 := hIm406.1 79 28
      have f414 : (0 : Int) ≤ m406 79 29 ∧ m406 79 29 ≤ 6 := hIm406.1 79 29
      have f415 : (0 : Int) ≤ m406 79 30 ∧ m406 79 30 ≤ 6 := hIm406.1 79 30
      by_cases b416 : r406 = (-1)
      · refine zW.step (st1 := (39, [(some (.ref 79)), (some (.int (Int32.ofInt sort))), none, none, none], [], zk c m406)) (st2 := (39, [(some (.ref 79)), (some (.int (Int32.ofInt sort))), none, none, none], [], zk c m406)) ⟨[zo, zt], _, rfl, ⟨trivial, zbt ((zi_eq rfl rfl (by unfold zR; omega) (⟨by decide, by decide⟩ : zR (-1))).mpr b416), trivial⟩⟩ rfl ?_
        have f417 : (0 : Int) ≤ m406 79 6 ∧ m406 79 6 ≤ 240 := hIm406.1 79 6
        obtain ⟨m418, hm418⟩ : ∃ q, q = zm_up m406 79 6 0 := ⟨_, rfl⟩
        have hIm418 := zJ_upE hIm406 hm418 (zOj_79 (by decide)) (show (0 : Int) ≤ 0 ∧ 0 ≤ 240 by omega)
        have em418 : m418 79 6 = 0 := by rw [hm418]; exact zm_eq
        have f419 : m418 79 7 = m406 79 7 := by rw [hm418]; exact zm_ne (Or.inr (by decide))
        have f420 : m418 79 26 = m406 79 26 := by rw [hm418]; exact zm_ne (Or.inr (by decide))
        have f421 : m418 79 27 = m406 79 27 := by rw [hm418]; exact zm_ne (Or.inr (by decide))
        have f422 : m418 79 28 = m406 79 28 := by rw [hm418]; exact zm_ne (Or.inr (by decide))
        have f423 : m418 79 29 = m406 79 29 := by rw [hm418]; exact zm_ne (Or.inr (by decide))
        have f424 : m418 79 30 = m406 79 30 := by rw [hm418]; exact zm_ne (Or.inr (by decide))
        have f425 : m418 79 48 = m406 79 48 := by rw [hm418]; exact zm_ne (Or.inr (by decide))
        refine zW.step (st1 := (49, [(some (.ref 79)), (some (.int (Int32.ofInt sort))), (some (.int (Int32.ofInt (m406 79 6)))), none, none], [], z_hup (zk c m406) 79 (.inr (12, (.int (Int32.ofInt (m406 79 0)) :: .ref 80 :: .ref 81 :: .ref 82 :: .ref 83 :: zm_rf (m406 79 5) :: .int (Int32.ofInt 0) :: .int (Int32.ofInt (m406 79 7)) :: .int (Int32.ofInt (m406 79 8)) :: .int (Int32.ofInt (m406 79 9)) :: .int (Int32.ofInt (m406 79 10)) :: .int (Int32.ofInt (m406 79 11)) :: .int (Int32.ofInt (m406 79 12)) :: .int (Int32.ofInt (m406 79 13)) :: .int (Int32.ofInt (m406 79 14)) :: .ref (z_RO + 5) :: .ref (z_RO + 3) :: .int (Int32.ofInt (m406 79 17)) :: .ref 84 :: .ref 85 :: .ref 86 :: .ref 87 :: .ref 88 :: .ref 89 :: .ref 90 :: .ref 91 :: .int (Int32.ofInt (m406 79 26)) :: .int (Int32.ofInt (m406 79 27)) :: .int (Int32.ofInt (m406 79 28)) :: .int (Int32.ofInt (m406 79 29)) :: .int (Int32.ofInt (m406 79 30)) :: .ref 92 :: .ref 93 :: .int (Int32.ofInt (m406 79 33)) :: .int (Int32.ofInt (m406 79 34)) :: .ref 94 :: .ref 95 :: .int (Int32.ofInt (m406 79 37)) :: .int (Int32.ofInt (m406 79 38)) :: .int (Int32.ofInt (m406 79 39)) :: .int (Int32.ofInt (m406 79 40)) :: .int (Int32.ofInt (m406 79 41)) :: .int (Int32.ofInt (m406 79 42)) :: .ref 96 :: .ref 97 :: .ref 98 :: .ref 99 :: .ref 100 :: .int (Int32.ofInt (m406 79 48)) :: .int (Int32.ofInt (m406 79 49)) :: .long (Int64.ofInt (m406 79 50)) :: .ref 101 :: .ref 102 :: .int (Int32.ofInt (m406 79 53)) :: .ref 103 :: .ref 104 :: .ref 105 :: .int (Int32.ofInt (m406 79 57)) :: []))))) (st2 := (49, [(some (.ref 79)), (some (.int (Int32.ofInt sort))), (some (.int (Int32.ofInt (m406 79 6)))), none, none], [], zk c m418)) ⟨[zo, zo, zo, zo, zo, zo], _, rfl, ⟨trivial, (Nat.lt_of_lt_of_le (Nat.le_of_ble_eq_true rfl) hN), trivial, trivial, trivial, ⟨(Nat.lt_of_lt_of_le (Nat.le_of_ble_eq_true rfl) hN), rfl, rfl⟩, trivial⟩⟩ (z_steq rfl rfl ((zk_up c m406 79 6 0 _ rfl).trans (by rw [hm418]))) ?_
        by_cases b426 : sort = 1
        · refine zW.step (st1 := (54, [(some (.ref 79)), (some (.int (Int32.ofInt sort))), (some (.int (Int32.ofInt (m406 79 6)))), none, none], [], zk c m418)) (st2 := (54, [(some (.ref 79)), (some (.int (Int32.ofInt sort))), (some (.int (Int32.ofInt (m406 79 6)))), none, none], [], zk c m418)) ⟨[zo, zo, zo], _, rfl, ⟨trivial, trivial, zbf (fun q => q ((zi_eq rfl rfl (by unfold zR; omega) (⟨by decide, by decide⟩ : zR 1)).mpr b426)), trivial⟩⟩ rfl ?_
          have f427 : (0 : Int) ≤ m418 79 7 ∧ m418 79 7 ≤ 4 := hIm418.1 79 7
          have f428 : (0 : Int) ≤ m418 79 26 ∧ m418 79 26 ≤ 5 := hIm418.1 79 26
          have f429 : (0 : Int) ≤ m418 79 27 ∧ m418 79 27 ≤ 6 := hIm418.1 79 27
          have f430 : (0 : Int) ≤ m418 79 28 ∧ m418 79 28 ≤ 5 := hIm418.1 79 28
          have f431 : (0 : Int) ≤ m418 79 29 ∧ m418 79 29 ≤ 6 := hIm418.1 79 29
          have f432 : (0 : Int) ≤ m418 79 30 ∧ m418 79 30 ≤ 6 := hIm418.1 79 30
          refine zW.step (st1 := (56, [(some (.ref 79)), (some (.int (Int32.ofInt sort))), (some (.int (Int32.ofInt (m406 79 6)))), (some (.int (Int32.ofInt 0))), none], [], zk c m418)) (st2 := (56, [(some (.ref 79)), (some (.int (Int32.ofInt sort))), (some (.int (Int32.ofInt (m406 79 6)))), (some (.int (Int32.ofInt 0))), none], [], zk c m418)) ⟨[zo, zo], _, rfl, ⟨trivial, trivial, trivial⟩⟩ rfl ?_
          refine L_X12_text_56 zn _ hN hC sort r_sort ht (m406 79 6) m _ (fun x3_433 m_433 hIm_433 i1_433 i7_433 => ?_) _ 0 m418 hIm418 (by omega) (by omega) rfl
          have f434 : (0 : Int) ≤ m_433 79 7 ∧ m_433 79 7 ≤ 4 := hIm_433.1 79 7
          have f435 : (0 : Int) ≤ m_433 79 26 ∧ m_433 79 26 ≤ 5 := hIm_433.1 79 26
          have f436 : (0 : Int) ≤ m_433 79 27 ∧ m_433 79 27 ≤ 6 := hIm_433.1 79 27
          have f437 : (0 : Int) ≤ m_433 79 28 ∧ m_433 79 28 ≤ 5 := hIm_433.1 79 28
          have f438 : (0 : Int) ≤ m_433 79 29 ∧ m_433 79 29 ≤ 6 := hIm_433.1 79 29
          have f439 : (0 : Int) ≤ m_433 79 30 ∧ m_433 79 30 ≤ 6 := hIm_433.1 79 30
          obtain ⟨m440, hm440⟩ : ∃ q, q = zm_up m_433 82 ((m_433 79 7).toNat) (m406 79 6) := ⟨_, rfl⟩
          have hIm440 := zJ_upE hIm_433 hm440 (zOj_p (by decide)) (show (0 : Int) ≤ (m406 79 6) ∧ (m406 79 6) ≤ 240 by omega)
          have em440 : m440 82 ((m_433 79 7).toNat) = (m406 79 6) := by rw [hm440]; exact zm_eq
          have f441 : m440 79 7 = m_433 79 7 := by rw [hm440]; exact zm_ne (Or.inl (by decide))
          have f442 : m440 79 26 = m_433 79 26 := by rw [hm440]; exact zm_ne (Or.inl (by decide))
          have f443 : m440 79 27 = m_433 79 27 := by rw [hm440]; exact zm_ne (Or.inl (by decide))
          have f444 : m440 79 28 = m_433 79 28 := by rw [hm440]; exact zm_ne (Or.inl (by decide))
          have f445 : m440 79 29 = m_433 79 29 := by rw [hm440]; exact zm_ne (Or.inl (by decide))
          have f446 : m440 79 30 = m_433 79 30 := by rw [hm440]; exact zm_ne (Or.inl (by decide))
          have f447 : m440 79 48 = m_433 79 48 := by rw [hm440]; exact zm_ne (Or.inl (by decide))
          refine zW.step (st1 := (98, [(some (.ref 79)), (some (.int (Int32.ofInt sort))), (some (.int (Int32.ofInt (m406 79 6)))), (some (.int (Int32.ofInt x3_433))), none], [], z_hup (zk c m_433) 82 (.inl (0, 4, .inl (upd (fun j => Int32.ofInt (m_433 82 j)) (Int32.ofInt (m_433 79 7)).toNatClampNeg (Int32.ofInt (m406 79 6))))))) (st2 := (98, [(some (.ref 79)), (some (.int (Int32.ofInt sort))), (some (.int (Int32.ofInt (m406 79 6)))), (some (.int (Int32.ofInt x3_433))), none], [], zk c m440)) ⟨[zo, zo, zo, zo, zo, (false, 0, none, zh0, some (.inl (0, 4, .inl (fun j => Int32.ofInt (m_433 82 j)))))], _, rfl, ⟨trivial, (Nat.lt_of_lt_of_le (Nat.le_of_ble_eq_true rfl) hN), trivial, (Nat.lt_of_lt_of_le (Nat.le_of_ble_eq_true rfl) hN), trivial, ⟨zk_ra c m_433 zA_82 (Nat.lt_of_lt_of_le (Nat.le_of_ble_eq_true rfl) hN), zi_in rfl (by omega) (by omega) (by omega)⟩, trivial⟩⟩ (z_steq rfl rfl ((zk_ias c m_433 zA_82 rfl (by unfold zR; omega) rfl).trans (by rw [hm440]))) ?_
          have f448 : (0 : Int) ≤ m440 79 7 ∧ m440 79 7 ≤ 4 := hIm440.1 79 7
          obtain ⟨m449, hm449⟩ : ∃ q, q = zm_up m440 79 7 ((m440 79 7) + 1) := ⟨_, rfl⟩
          have hIm449 := zJ_upE hIm440 hm449 (zOj_79 (by decide)) (show (0 : Int) ≤ ((m440 79 7) + 1) ∧ ((m440 79 7) + 1) ≤ 4 by omega)
          have em449 : m449 79 7 = ((m440 79 7) + 1) := by rw [hm449]; exact zm_eq
          have f450 : m449 79 26 = m440 79 26 := by rw [hm449]; exact zm_ne (Or.inr (by decide))
          have f451 : m449 79 27 = m440 79 27 := by rw [hm449]; exact zm_ne (Or.inr (by decide))
          have f452 : m449 79 28 = m440 79 28 := by rw [hm449]; exact zm_ne (Or.inr (by decide))
          have f453 : m449 79 29 = m440 79 29 := by rw [hm449]; exact zm_ne (Or.inr (by decide))
          have f454 : m449 79 30 = m440 79 30 := by rw [hm449]; exact zm_ne (Or.inr (by decide))
          have f455 : m449 79 48 = m440 79 48 := by rw [hm449]; exact zm_ne (Or.inr (by decide))
          refine zW.step (st1 := (108, [(some (.ref 79)), (some (.int (Int32.ofInt sort))), (some (.int (Int32.ofInt (m406 79 6)))), (some (.int (Int32.ofInt x3_433))), none], [], z_hup (zk c m440) 79 (.inr (12, (.int (Int32.ofInt (m440 79 0)) :: .ref 80 :: .ref 81 :: .ref 82 :: .ref 83 :: zm_rf (m440 79 5) :: .int (Int32.ofInt (m440 79 6)) :: .int ((Int32.ofInt (m440 79 7)) + (Int32.ofInt 1)) :: .int (Int32.ofInt (m440 79 8)) :: .int (Int32.ofInt (m440 79 9)) :: .int (Int32.ofInt (m440 79 10)) :: .int (Int32.ofInt (m440 79 11)) :: .int (Int32.ofInt (m440 79 12)) :: .int (Int32.ofInt (m440 79 13)) :: .int (Int32.ofInt (m440 79 14)) :: .ref (z_RO + 5) :: .ref (z_RO + 3) :: .int (Int32.ofInt (m440 79 17)) :: .ref 84 :: .ref 85 :: .ref 86 :: .ref 87 :: .ref 88 :: .ref 89 :: .ref 90 :: .ref 91 :: .int (Int32.ofInt (m440 79 26)) :: .int (Int32.ofInt (m440 79 27)) :: .int (Int32.ofInt (m440 79 28)) :: .int (Int32.ofInt (m440 79 29)) :: .int (Int32.ofInt (m440 79 30)) :: .ref 92 :: .ref 93 :: .int (Int32.ofInt (m440 79 33)) :: .int (Int32.ofInt (m440 79 34)) :: .ref 94 :: .ref 95 :: .int (Int32.ofInt (m440 79 37)) :: .int (Int32.ofInt (m440 79 38)) :: .int (Int32.ofInt (m440 79 39)) :: .int (Int32.ofInt (m440 79 40)) :: .int (Int32.ofInt (m440 79 41)) :: .int (Int32.ofInt (m440 79 42)) :: .ref 96 :: .ref 97 :: .ref 98 :: .ref 99 :: .ref 100 :: .int (Int32.ofInt (m440 79 48)) :: .int (Int32.ofInt (m440 79 49)) :: .long (Int64.ofInt (m440 79 50)) :: .ref 101 :: .ref 102 :: .int (Int32.ofInt (m440 79 53)) :: .ref 103 :: .ref 104 :: .ref 105 :: .int (Int32.ofInt (m440 79 57)) :: []))))) (st2 := (108, [(some (.ref 79)), (some (.int (Int32.ofInt sort))), (some (.int (Int32.ofInt (m406 79 6)))), (some (.int (Int32.ofInt x3_433))), none], [], zk c m449)) ⟨[zo, zo, zo, zo, zo, zo], _, rfl, ⟨trivial, trivial, (Nat.lt_of_lt_of_le (Nat.le_of_ble_eq_true rfl) hN), trivial, trivial, ⟨(Nat.lt_of_lt_of_le (Nat.le_of_ble_eq_true rfl) hN), rfl, rfl⟩, trivial⟩⟩ (z_steq rfl rfl ((zk_up c m440 79 7 ((m440 79 7) + 1) _ ((congrArg (fun q => (.inr (12, (.int (Int32.ofInt (m440 79 0)) :: .ref 80 :: .ref 81 :: .ref 82 :: .ref 83 :: zm_rf (m440 79 5) :: .int (Int32.ofInt (m440 79 6)) :: .int q :: .int (Int32.ofInt (m440 79 8)) :: .int (Int32.ofInt (m440 79 9)) :: .int (Int32.ofInt (m440 79 10)) :: .int (Int32.ofInt (m440 79 11)) :: .int (Int32.ofInt (m440 79 12)) :: .int (Int32.ofInt (m440 79 13)) :: .int (Int32.ofInt (m440 79 14)) :: .ref (z_RO + 5) :: .ref (z_RO + 3) :: .int (Int32.ofInt (m440 79 17)) :: .ref 84 :: .ref 85 :: .ref 86 :: .ref 87 :: .ref 88 :: .ref 89 :: .ref 90 :: .ref 91 :: .int (Int32.ofInt (m440 79 26)) :: .int (Int32.ofInt (m440 79 27)) :: .int (Int32.ofInt (m440 79 28)) :: .int (Int32.ofInt (m440 79 29)) :: .int (Int32.ofInt (m440 79 30)) :: .ref 92 :: .ref 93 :: .int (Int32.ofInt (m440 79 33)) :: .int (Int32.ofInt (m440 79 34)) :: .ref 94 :: .ref 95 :: .int (Int32.ofInt (m440 79 37)) :: .int (Int32.ofInt (m440 79 38)) :: .int (Int32.ofInt (m440 79 39)) :: .int (Int32.ofInt (m440 79 40)) :: .int (Int32.ofInt (m440 79 41)) :: .int (Int32.ofInt (m440 79 42)) :: .ref 96 :: .ref 97 :: .ref 98 :: .ref 99 :: .ref 100 :: .int (Int32.ofInt (m440 79 48)) :: .int (Int32.ofInt (m440 79 49)) :: .long (Int64.ofInt (m440 79 50)) :: .ref 101 :: .ref 102 :: .int (Int32.ofInt (m440 79 53)) :: .ref 103 :: .ref 104 :: .ref 105 :: .int (Int32.ofInt (m440 79 57)) :: [])) : z_E)) (zi_add rfl rfl)).trans rfl)).trans (by rw [hm449]))) ?_
          have f456 : (0 : Int) ≤ m449 79 7 ∧ m449 79 7 ≤ 4 := hIm449.1 79 7
          refine zW.step (st1 := (114, [(some (.ref 79)), (some (.int (Int32.ofInt sort))), (some (.int (Int32.ofInt (m406 79 6)))), (some (.int (Int32.ofInt x3_433))), none], [.int ((Int32.ofInt (m449 79 7)) - (Int32.ofInt 1))], zk c m449)) (st2 := (114, [(some (.ref 79)), (some (.int (Int32.ofInt sort))), (some (.int (Int32.ofInt (m406 79 6)))), (some (.int (Int32.ofInt x3_433))), none], [.int (Int32.ofInt ((m449 79 7) - 1))], zk c m449)) ⟨[zo, zo, zo, zo], _, rfl, ⟨trivial, (Nat.lt_of_lt_of_le (Nat.le_of_ble_eq_true rfl) hN), trivial, trivial, trivial⟩⟩ (z_steq rfl (z_c1 (z_vi (zi_sub rfl rfl)) rfl) rfl) ?_
          exact zW.fin (zfin_i rfl rfl rfl) ⟨(m449 79 7) - 1, m449, rfl, rfl, hIm449, (by omega)⟩
        · refine zW.step (st1 := (115, [(some (.ref 79)), (some (.int (Int32.ofInt sort))), (some (.int (Int32.ofInt (m406 79 6)))), none, none], [], zk c m418)) (st2 := (115, [(some (.ref 79)), (some (.int (Int32.ofInt sort))), (some (.int (Int32.ofInt (m406 79 6)))), none, none], [], zk c m418)) ⟨[zo, zo, zt], _, rfl, ⟨trivial, trivial, zbt (fun q => b426 ((zi_eq rfl rfl (by unfold zR; omega) (⟨by decide, by decide⟩ : zR 1)).mp q)), trivial⟩⟩ rfl ?_
          have f457 : (0 : Int) ≤ m418 79 7 ∧ m418 79 7 ≤ 4 := hIm418.1 79 7
          have f458 : (0 : Int) ≤ m418 79 26 ∧ m418 79 26 ≤ 5 := hIm418.1 79 26
          have f459 : (0 : Int) ≤ m418 79 27 ∧ m418 79 27 ≤ 6 := hIm418.1 79 27
          have f460 : (0 : Int) ≤ m418 79 28 ∧ m418 79 28 ≤ 5 := hIm418.1 79 28
          have f461 : (0 : Int) ≤ m418 79 29 ∧ m418 79 29 ≤ 6 := hIm418.1 79 29
          have f462 : (0 : Int) ≤ m418 79 30 ∧ m418 79 30 ≤ 6 := hIm418.1 79 30
          obtain ⟨m463, hm463⟩ : ∃ q, q = zm_up m418 79 26 (m418 79 28) := ⟨_, rfl⟩
          have hIm463 := zJ_up26 hIm418 hm463 (by omega)
          have em463 : m463 79 26 = (m418 79 28) := by rw [hm463]; exact zm_eq
          have f464 : m463 79 7 = m418 79 7 := by rw [hm463]; exact zm_ne (Or.inr (by decide))
          have f465 : m463 79 27 = m418 79 27 := by rw [hm463]; exact zm_ne (Or.inr (by decide))
          have f466 : m463 79 28 = m418 79 28 := by rw [hm463]; exact zm_ne (Or.inr (by decide))
          have f467 : m463 79 29 = m418 79 29 := by rw [hm463]; exact zm_ne (Or.inr (by decide))
          have f468 : m463 79 30 = m418 79 30 := by rw [hm463]; exact zm_ne (Or.inr (by decide))
          have f469 : m463 79 48 = m418 79 48 := by rw [hm463]; exact zm_ne (Or.inr (by decide))
          refine zW.step (st1 := (123, [(some (.ref 79)), (some (.int (Int32.ofInt sort))), (some (.int (Int32.ofInt (m406 79 6)))), none, none], [], z_hup (zk c m418) 79 (.inr (12, (.int (Int32.ofInt (m418 79 0)) :: .ref 80 :: .ref 81 :: .ref 82 :: .ref 83 :: zm_rf (m418 79 5) :: .int (Int32.ofInt (m418 79 6)) :: .int (Int32.ofInt (m418 79 7)) :: .int (Int32.ofInt (m418 79 8)) :: .int (Int32.ofInt (m418 79 9)) :: .int (Int32.ofInt (m418 79 10)) :: .int (Int32.ofInt (m418 79 11)) :: .int (Int32.ofInt (m418 79 12)) :: .int (Int32.ofInt (m418 79 13)) :: .int (Int32.ofInt (m418 79 14)) :: .ref (z_RO + 5) :: .ref (z_RO + 3) :: .int (Int32.ofInt (m418 79 17)) :: .ref 84 :: .ref 85 :: .ref 86 :: .ref 87 :: .ref 88 :: .ref 89 :: .ref 90 :: .ref 91 :: .int (Int32.ofInt (m418 79 28)) :: .int (Int32.ofInt (m418 79 27)) :: .int (Int32.ofInt (m418 79 28)) :: .int (Int32.ofInt (m418 79 29)) :: .int (Int32.ofInt (m418 79 30)) :: .ref 92 :: .ref 93 :: .int (Int32.ofInt (m418 79 33)) :: .int (Int32.ofInt (m418 79 34)) :: .ref 94 :: .ref 95 :: .int (Int32.ofInt (m418 79 37)) :: .int (Int32.ofInt (m418 79 38)) :: .int (Int32.ofInt (m418 79 39)) :: .int (Int32.ofInt (m418 79 40)) :: .int (Int32.ofInt (m418 79 41)) :: .int (Int32.ofInt (m418 79 42)) :: .ref 96 :: .ref 97 :: .ref 98 :: .ref 99 :: .ref 100 :: .int (Int32.ofInt (m418 79 48)) :: .int (Int32.ofInt (m418 79 49)) :: .long (Int64.ofInt (m418 79 50)) :: .ref 101 :: .ref 102 :: .int (Int32.ofInt (m418 79 53)) :: .ref 103 :: .ref 104 :: .ref 105 :: .int (Int32.ofInt (m418 79 57)) :: []))))) (st2 := (123, [(some (.ref 79)), (some (.int (Int32.ofInt sort))), (some (.int (Int32.ofInt (m406 79 6)))), none, none], [], zk c m463)) ⟨[zo, zo, zo, zo], _, rfl, ⟨trivial, trivial, (Nat.lt_of_lt_of_le (Nat.le_of_ble_eq_true rfl) hN), ⟨(Nat.lt_of_lt_of_le (Nat.le_of_ble_eq_true rfl) hN), rfl, rfl⟩, trivial⟩⟩ (z_steq rfl rfl ((zk_up c m418 79 26 (m418 79 28) _ rfl).trans (by rw [hm463]))) ?_
          have f470 : (0 : Int) ≤ m463 79 30 ∧ m463 79 30 ≤ 6 := hIm463.1 79 30
          obtain ⟨m471, hm471⟩ : ∃ q, q = zm_up m463 79 27 (m463 79 30) := ⟨_, rfl⟩
          have hIm471 := zJ_up27 hIm463 hm471 (by omega) (by omega)
          have em471 : m471 79 27 = (m463 79 30) := by rw [hm471]; exact zm_eq
          have f472 : m471 79 26 = m463 79 26 := by rw [hm471]; exact zm_ne (Or.inr (by decide))
          have f473 : m471 79 7 = m463 79 7 := by rw [hm471]; exact zm_ne (Or.inr (by decide))
          have f474 : m471 79 28 = m463 79 28 := by rw [hm471]; exact zm_ne (Or.inr (by decide))
          have f475 : m471 79 29 = m463 79 29 := by rw [hm471]; exact zm_ne (Or.inr (by decide))
          have f476 : m471 79 30 = m463 79 30 := by rw [hm471]; exact zm_ne (Or.inr (by decide))
          have f477 : m471 79 48 = m463 79 48 := by rw [hm471]; exact zm_ne (Or.inr (by decide))
          refine zW.step (st1 := (131, [(some (.ref 79)), (some (.int (Int32.ofInt sort))), (some (.int (Int32.ofInt (m406 79 6)))), none, none], [], z_hup (zk c m463) 79 (.inr (12, (.int (Int32.ofInt (m463 79 0)) :: .ref 80 :: .ref 81 :: .ref 82 :: .ref 83 :: zm_rf (m463 79 5) :: .int (Int32.ofInt (m463 79 6)) :: .int (Int32.ofInt (m463 79 7)) :: .int (Int32.ofInt (m463 79 8)) :: .int (Int32.ofInt (m463 79 9)) :: .int (Int32.ofInt (m463 79 10)) :: .int (Int32.ofInt (m463 79 11)) :: .int (Int32.ofInt (m463 79 12)) :: .int (Int32.ofInt (m463 79 13)) :: .int (Int32.ofInt (m463 79 14)) :: .ref (z_RO + 5) :: .ref (z_RO + 3) :: .int (Int32.ofInt (m463 79 17)) :: .ref 84 :: .ref 85 :: .ref 86 :: .ref 87 :: .ref 88 :: .ref 89 :: .ref 90 :: .ref 91 :: .int (Int32.ofInt (m463 79 26)) :: .int (Int32.ofInt (m463 79 30)) :: .int (Int32.ofInt (m463 79 28)) :: .int (Int32.ofInt (m463 79 29)) :: .int (Int32.ofInt (m463 79 30)) :: .ref 92 :: .ref 93 :: .int (Int32.ofInt (m463 79 33)) :: .int (Int32.ofInt (m463 79 34)) :: .ref 94 :: .ref 95 :: .int (Int32.ofInt (m463 79 37)) :: .int (Int32.ofInt (m463 79 38)) :: .int (Int32.ofInt (m463 79 39)) :: .int (Int32.ofInt (m463 79 40)) :: .int (Int32.ofInt (m463 79 41)) :: .int (Int32.ofInt (m463 79 42)) :: .ref 96 :: .ref 97 :: .ref 98 :: .ref 99 :: .ref 100 :: .int (Int32.ofInt (m463 79 48)) :: .int (Int32.ofInt (m463 79 49)) :: .long (Int64.ofInt (m463 79 50)) :: .ref 101 :: .ref 102 :: .int (Int32.ofInt (m463 79 53)) :: .ref 103 :: .ref 104 :: .ref 105 :: .int (Int32.ofInt (m463 79 57)) :: []))))) (st2 := (131, [(some (.ref 79)), (some (.int (Int32.ofInt sort))), (some (.int (Int32.ofInt (m406 79 6)))), none, none], [], zk c m471)) ⟨[zo, zo, zo, zo], _, rfl, ⟨trivial, trivial, (Nat.lt_of_lt_of_le (Nat.le_of_ble_eq_true rfl) hN), ⟨(Nat.lt_of_lt_of_le (Nat.le_of_ble_eq_true rfl) hN), rfl, rfl⟩, trivial⟩⟩ (z_steq rfl rfl ((zk_up c m463 79 27 (m463 79 30) _ rfl).trans (by rw [hm471]))) ?_
          refine zW.step (st1 := (133, [(some (.ref 79)), (some (.int (Int32.ofInt sort))), (some (.int (Int32.ofInt (m406 79 6)))), (some (.int (Int32.ofInt 0))), none], [], zk c m471)) (st2 := (133, [(some (.ref 79)), (some (.int (Int32.ofInt sort))), (some (.int (Int32.ofInt (m406 79 6)))), (some (.int (Int32.ofInt 0))), none], [], zk c m471)) ⟨[zo, zo], _, rfl, ⟨trivial, trivial, trivial⟩⟩ rfl ?_
          refine L_X12_text_133 zn _ hN hC sort r_sort ht (m406 79 6) m _ (fun x3_478 m_478 hIm_478 i1_478 i29_478 tK_478 => ?_) _ 0 m471 hIm471 (by omega) (by omega) (zK_cg (zK_upE (zK_upE (zK_upE (kk_406 (by omega)) hm418 (by decide)) hm463 (by decide)) hm471 (by decide)) (by omega)) rfl
          have f479 : (0 : Int) ≤ m_478 79 7 ∧ m_478 79 7 ≤ 4 := hIm_478.1 79 7
          have f480 : (0 : Int) ≤ m_478 79 26 ∧ m_478 79 26 ≤ 5 := hIm_478.1 79 26
          have f481 : (0 : Int) ≤ m_478 79 27 ∧ m_478 79 27 ≤ 6 := hIm_478.1 79 27
          have f482 : (0 : Int) ≤ m_478 79 28 ∧ m_478 79 28 ≤ 5 := hIm_478.1 79 28
          have f483 : (0 : Int) ≤ m_478 79 29 ∧ m_478 79 29 ≤ 6 := hIm_478.1 79 29
          have f484 : (0 : Int) ≤ m_478 79 30 ∧ m_478 79 30 ≤ 6 := hIm_478.1 79 30
          refine zW.step (st1 := (158, [(some (.ref 79)), (some (.int (Int32.ofInt sort))), (some (.int (Int32.ofInt (m406 79 6)))), (some (.int (Int32.ofInt 0))), none], [], zk c m_478)) (st2 := (158, [(some (.ref 79)), (some (.int (Int32.ofInt sort))), (some (.int (Int32.ofInt (m406 79 6)))), (some (.int (Int32.ofInt 0))), none], [], zk c m_478)) ⟨[zo, zo], _, rfl, ⟨trivial, trivial, trivial⟩⟩ rfl ?_
          refine L_X12_text_158 zn _ hN hC sort r_sort ht (m406 79 6) m _ (fun x3_485 m_485 hIm_485 i1_485 i29_485 tK_485 => ?_) _ 0 m_478 hIm_478 (by omega) (by omega) (zK_cg tK_478 (by omega)) rfl
          have f486 : (0 : Int) ≤ m_485 79 7 ∧ m_485 79 7 ≤ 4 := hIm_485.1 79 7
          have f487 : (0 : Int) ≤ m_485 79 26 ∧ m_485 79 26 ≤ 5 := hIm_485.1 79 26
          have f488 : (0 : Int) ≤ m_485 79 27 ∧ m_485 79 27 ≤ 6 := hIm_485.1 79 27
          have f489 : (0 : Int) ≤ m_485 79 28 ∧ m_485 79 28 ≤ 5 := hIm_485.1 79 28
          have f490 : (0 : Int) ≤ m_485 79 29 ∧ m_485 79 29 ≤ 6 := hIm_485.1 79 29
          have f491 : (0 : Int) ≤ m_485 79 30 ∧ m_485 79 30 ≤ 6 := hIm_485.1 79 30
          refine zW.step (st1 := (184, [(some (.ref 79)), (some (.int (Int32.ofInt sort))), (some (.int (Int32.ofInt (m406 79 6)))), (some (.int (Int32.ofInt 0))), none], [], zk c m_485)) (st2 := (184, [(some (.ref 79)), (some (.int (Int32.ofInt sort))), (some (.int (Int32.ofInt (m406 79 6)))), (some (.int (Int32.ofInt 0))), none], [], zk c m_485)) ⟨[zo, zo], _, rfl, ⟨trivial, trivial, trivial⟩⟩ rfl ?_
          refine L_X12_text_184 zn _ hN hC sort r_sort ht (m406 79 6) m _ (fun x3_492 m_492 hIm_492 i1_492 i29_492 tK_492 => ?_) _ 0 m_485 hIm_485 (by omega) (by omega) (zK_cg tK_485 (by omega)) rfl
          have f493 : (0 : Int) ≤ m_492 79 7 ∧ m_492 79 7 ≤ 4 := hIm_492.1 79 7
          have f494 : (0 : Int) ≤ m_492 79 26 ∧ m_492 79 26 ≤ 5 := hIm_492.1 79 26
          have f495 : (0 : Int) ≤ m_492 79 27 ∧ m_492 79 27 ≤ 6 := hIm_492.1 79 27
          have f496 : (0 : Int) ≤ m_492 79 28 ∧ m_492 79 28 ≤ 5 := hIm_492.1 79 28
          have f497 : (0 : Int) ≤ m_492 79 29 ∧ m_492 79 29 ≤ 6 := hIm_492.1 79 29
          have f498 : (0 : Int) ≤ m_492 79 30 ∧ m_492 79 30 ≤ 6 := hIm_492.1 79 30
          refine zW.step (st1 := (210, [(some (.ref 79)), (some (.int (Int32.ofInt sort))), (some (.int (Int32.ofInt (m406 79 6)))), (some (.int (Int32.ofInt 0))), none], [], zk c m_492)) (st2 := (210, [(some (.ref 79)), (some (.int (Int32.ofInt sort))), (some (.int (Int32.ofInt (m406 79 6)))), (some (.int (Int32.ofInt 0))), none], [], zk c m_492)) ⟨[zo, zo], _, rfl, ⟨trivial, trivial, trivial⟩⟩ rfl ?_
          refine L_X12_text_210 zn _ hN hC sort r_sort ht (m406 79 6) m _ (fun x3_499 m_499 hIm_499 i1_499 z_499 i29_499 tK_499 tI_499 e_499 => ?_) _ 0 m_492 (zJ_99 hIm_492) (by omega) (by intro j hj; omega) (by omega) (zK_cg tK_492 (by omega)) (zS9_of hIm_492) rfl
          have f500 : (0 : Int) ≤ m_499 79 7 ∧ m_499 79 7 ≤ 4 := hIm_499.1 79 7
          have f501 : (0 : Int) ≤ m_499 79 26 ∧ m_499 79 26 ≤ 5 := hIm_499.1 79 26
          have f502 : (0 : Int) ≤ m_499 79 27 ∧ m_499 79 27 ≤ 6 := hIm_499.1 79 27
          have f503 : (0 : Int) ≤ m_499 79 28 ∧ m_499 79 28 ≤ 5 := hIm_499.1 79 28
          have f504 : (0 : Int) ≤ m_499 79 29 ∧ m_499 79 29 ≤ 6 := hIm_499.1 79 29
          have f505 : (0 : Int) ≤ m_499 79 30 ∧ m_499 79 30 ≤ 6 := hIm_499.1 79 30
          obtain ⟨m506, hm506⟩ : ∃ q, q = zm_up m_499 92 174 (m_499 79 29) := ⟨_, rfl⟩
          have hIm506 := zJ_upE hIm_499 hm506 (by unfold zOj zsen; omega) (zvw_174 zV_92 (show (0 : Int) ≤ (m_499 79 29) ∧ (m_499 79 29) ≤ 10 by omega))
          have em506 : m506 92 174 = (m_499 79 29) := by rw [hm506]; exact zm_eq
          have f507 : m506 79 7 = m_499 79 7 := by rw [hm506]; exact zm_ne (Or.inl (by decide))
          have f508 : m506 79 26 = m_499 79 26 := by rw [hm506]; exact zm_ne (Or.inl (by decide))
          have f509 : m506 79 27 = m_499 79 27 := by rw [hm506]; exact zm_ne (Or.inl (by decide))
          have f510 : m506 79 28 = m_499 79 28 := by rw [hm506]; exact zm_ne (Or.inl (by decide))
          have f511 : m506 79 29 = m_499 79 29 := by rw [hm506]; exact zm_ne (Or.inl (by decide))
          have f512 : m506 79 30 = m_499 79 30 := by rw [hm506]; exact zm_ne (Or.inl (by decide))
          have f513 : m506 79 48 = m_499 79 48 := by rw [hm506]; exact zm_ne (Or.inl (by decide))
          have tk514 : zK m506 (m_499 79 29) := by rw [hm506]; exact zK_up tK_499 (by decide)
          have tk515 : zS9 t9 m506 := by rw [hm506]; exact zS9_up tI_499 (by decide)
          refine zW.step (st1 := (242, [(some (.ref 79)), (some (.int (Int32.ofInt sort))), (some (.int (Int32.ofInt (m406 79 6)))), (some (.int (Int32.ofInt x3_499))), none], [], z_hup (zk c m_499) 92 (.inl (0, 178, .inl (upd (fun j => Int32.ofInt (m_499 92 j)) ((Int16.ofInt 174).toInt32).toNatClampNeg (Int32.ofInt (m_499 79 29))))))) (st2 := (242, [(some (.ref 79)), (some (.int (Int32.ofInt sort))), (some (.int (Int32.ofInt (m406 79 6)))), (some (.int (Int32.ofInt x3_499))), none], [], zk c m506)) ⟨[zo, zo, zo, zo, zo, (false, 0, none, zh0, some (.inl (0, 178, .inl (fun j => Int32.ofInt (m_499 92 j)))))], _, rfl, ⟨trivial, (Nat.lt_of_lt_of_le (Nat.le_of_ble_eq_true rfl) hN), trivial, trivial, (Nat.lt_of_lt_of_le (Nat.le_of_ble_eq_true rfl) hN), ⟨zk_ra c m_499 zA_92 (Nat.lt_of_lt_of_le (Nat.le_of_ble_eq_true rfl) hN), zi_in (by decide : (Int16.ofInt 174).toInt32 = Int32.ofInt 174) (by omega) (by omega) (by omega)⟩, trivial⟩⟩ (z_steq rfl rfl ((zk_ias c m_499 zA_92 (by decide : (Int16.ofInt 174).toInt32 = Int32.ofInt 174) (⟨by decide, by decide⟩ : zR 174) rfl).trans (by rw [hm506]; rfl))) ?_
          refine zW.step (st1 := (244, [(some (.ref 79)), (some (.int (Int32.ofInt sort))), (some (.int (Int32.ofInt (m406 79 6)))), (some (.int (Int32.ofInt 0))), none], [], zk c m506)) (st2 := (244, [(some (.ref 79)), (some (.int (Int32.ofInt sort))), (some (.int (Int32.ofInt (m406 79 6)))), (some (.int (Int32.ofInt 0))), none], [], zk c m506)) ⟨[zo, zo], _, rfl, ⟨trivial, trivial, trivial⟩⟩ rfl ?_
          refine L_X12_text_244 zn _ hN hC sort r_sort ht (m406 79 6) m _ (fun x3_516 o4_516 m_516 hIm_516 i1_516 t_516 i29_516 tK_516 tI_516 e_516 => ?_) _ 0 none m506 hIm506 (by omega) (by exact zqT_0 (fun j hj => z_499 j (by omega)) hm506) (by omega) (zK_cg tk514 (by omega)) tk515 rfl
          have f517 : (0 : Int) ≤ m_516 79 7 ∧ m_516 79 7 ≤ 4 := hIm_516.1 79 7
          have f518 : (0 : Int) ≤ m_516 79 26 ∧ m_516 79 26 ≤ 5 := hIm_516.1 79 26
          have f519 : (0 : Int) ≤ m_516 79 27 ∧ m_516 79 27 ≤ 6 := hIm_516.1 79 27
          have f520 : (0 : Int) ≤ m_516 79 28 ∧ m_516 79 28 ≤ 5 := hIm_516.1 79 28
          have f521 : (0 : Int) ≤ m_516 79 29 ∧ m_516 79 29 ≤ 6 := hIm_516.1 79 29
          have f522 : (0 : Int) ≤ m_516 79 30 ∧ m_516 79 30 ≤ 6 := hIm_516.1 79 30
          refine zW.step (st1 := (356, [(some (.ref 79)), (some (.int (Int32.ofInt sort))), (some (.int (Int32.ofInt (m406 79 6)))), (some (.int (Int32.ofInt 0))), o4_516], [], zk c m_516)) (st2 := (356, [(some (.ref 79)), (some (.int (Int32.ofInt sort))), (some (.int (Int32.ofInt (m406 79 6)))), (some (.int (Int32.ofInt 0))), o4_516], [], zk c m_516)) ⟨[zo, zo], _, rfl, ⟨trivial, trivial, trivial⟩⟩ rfl ?_
          refine L_X12_text_356 zn _ hN hC sort r_sort ht (m406 79 6) m _ (fun x3_523 o4_523 m_523 hIm_523 i1_523 p3_523 i29_523 tI_523 => ?_) _ 0 o4_516 m_516 hIm_516 (by omega) (by exact zqT_P t_516 (by omega)) (by omega) tI_516 rfl
          have f524 : (0 : Int) ≤ m_523 79 7 ∧ m_523 79 7 ≤ 4 := hIm_523.1 79 7
          have f525 : (0 : Int) ≤ m_523 79 26 ∧ m_523 79 26 ≤ 5 := hIm_523.1 79 26
          have f526 : (0 : Int) ≤ m_523 79 27 ∧ m_523 79 27 ≤ 6 := hIm_523.1 79 27
          have f527 : (0 : Int) ≤ m_523 79 28 ∧ m_523 79 28 ≤ 5 := hIm_523.1 79 28
          have f528 : (0 : Int) ≤ m_523 79 29 ∧ m_523 79 29 ≤ 6 := hIm_523.1 79 29
          have f529 : (0 : Int) ≤ m_523 79 30 ∧ m_523 79 30 ≤ 6 := hIm_523.1 79 30
          obtain ⟨m530, hm530⟩ : ∃ q, q = zm_up m_523 79 53 0 := ⟨_, rfl⟩
          have hIm530 := zJ_upE hIm_523 hm530 (zOj_79 (by decide)) (show (0 : Int) ≤ 0 ∧ 0 ≤ 6 by omega)
          have em530 : m530 79 53 = 0 := by rw [hm530]; exact zm_eq
          have f531 : m530 79 7 = m_523 79 7 := by rw [hm530]; exact zm_ne (Or.inr (by decide))
          have f532 : m530 79 26 = m_523 79 26 := by rw [hm530]; exact zm_ne (Or.inr (by decide))
          have f533 : m530 79 27 = m_523 79 27 := by rw [hm530]; exact zm_ne (Or.inr (by decide))
          have f534 : m530 79 28 = m_523 79 28 := by rw [hm530]; exact zm_ne (Or.inr (by decide))
          have f535 : m530 79 29 = m_523 79 29 := by rw [hm530]; exact zm_ne (Or.inr (by decide))
          have f536 : m530 79 30 = m_523 79 30 := by rw [hm530]; exact zm_ne (Or.inr (by decide))
          have f537 : m530 79 48 = m_523 79 48 := by rw [hm530]; exact zm_ne (Or.inr (by decide))
          have tk538 : zS9 t9 m530 := by rw [hm530]; exact zS9_up tI_523 (by decide)
          have tk539 : zqP (m530 92) 0 := by rw [hm530]; exact zP_up (p3_523) (Or.inl (by decide))
          refine zW.step (st1 := (428, [(some (.ref 79)), (some (.int (Int32.ofInt sort))), (some (.int (Int32.ofInt (m406 79 6)))), (some (.int (Int32.ofInt x3_523))), o4_523], [], z_hup (zk c m_523) 79 (.inr (12, (.int (Int32.ofInt (m_523 79 0)) :: .ref 80 :: .ref 81 :: .ref 82 :: .ref 83 :: zm_rf (m_523 79 5) :: .int (Int32.ofInt (m_523 79 6)) :: .int (Int32.ofInt (m_523 79 7)) :: .int (Int32.ofInt (m_523 79 8)) :: .int (Int32.ofInt (m_523 79 9)) :: .int (Int32.ofInt (m_523 79 10)) :: .int (Int32.ofInt (m_523 79 11)) :: .int (Int32.ofInt (m_523 79 12)) :: .int (Int32.ofInt (m_523 79 13)) :: .int (Int32.ofInt (m_523 79 14)) :: .ref (z_RO + 5) :: .ref (z_RO + 3) :: .int (Int32.ofInt (m_523 79 17)) :: .ref 84 :: .ref 85 :: .ref 86 :: .ref 87 :: .ref 88 :: .ref 89 :: .ref 90 :: .ref 91 :: .int (Int32.ofInt (m_523 79 26)) :: .int (Int32.ofInt (m_523 79 27)) :: .int (Int32.ofInt (m_523 79 28)) :: .int (Int32.ofInt (m_523 79 29)) :: .int (Int32.ofInt (m_523 79 30)) :: .ref 92 :: .ref 93 :: .int (Int32.ofInt (m_523 79 33)) :: .int (Int32.ofInt (m_523 79 34)) :: .ref 94 :: .ref 95 :: .int (Int32.ofInt (m_523 79 37)) :: .int (Int32.ofInt (m_523 79 38)) :: .int (Int32.ofInt (m_523 79 39)) :: .int (Int32.ofInt (m_523 79 40)) :: .int (Int32.ofInt (m_523 79 41)) :: .int (Int32.ofInt (m_523 79 42)) :: .ref 96 :: .ref 97 :: .ref 98 :: .ref 99 :: .ref 100 :: .int (Int32.ofInt (m_523 79 48)) :: .int (Int32.ofInt (m_523 79 49)) :: .long (Int64.ofInt (m_523 79 50)) :: .ref 101 :: .ref 102 :: .int (Int32.ofInt 0) :: .ref 103 :: .ref 104 :: .ref 105 :: .int (Int32.ofInt (m_523 79 57)) :: []))))) (st2 := (428, [(some (.ref 79)), (some (.int (Int32.ofInt sort))), (some (.int (Int32.ofInt (m406 79 6)))), (some (.int (Int32.ofInt x3_523))), o4_523], [], zk c m530)) ⟨[zo, zo, zo], _, rfl, ⟨trivial, trivial, ⟨(Nat.lt_of_lt_of_le (Nat.le_of_ble_eq_true rfl) hN), rfl, rfl⟩, trivial⟩⟩ (z_steq rfl rfl ((zk_up c m_523 79 53 0 _ rfl).trans (by rw [hm530]))) ?_
          obtain ⟨m540, hm540⟩ : ∃ q, q = zm_up m530 79 48 0 := ⟨_, rfl⟩
          have hIm540 := zJ_upE hIm530 hm540 (by unfold zOj; omega) (show (0 : Int) ≤ 0 ∧ 0 ≤ 40 by omega)
          have em540 : m540 79 48 = 0 := by rw [hm540]; exact zm_eq
          have f541 : m540 79 7 = m530 79 7 := by rw [hm540]; exact zm_ne (Or.inr (by decide))
          have f542 : m540 79 26 = m530 79 26 := by rw [hm540]; exact zm_ne (Or.inr (by decide))
          have f543 : m540 79 27 = m530 79 27 := by rw [hm540]; exact zm_ne (Or.inr (by decide))
          have f544 : m540 79 28 = m530 79 28 := by rw [hm540]; exact zm_ne (Or.inr (by decide))
          have f545 : m540 79 29 = m530 79 29 := by rw [hm540]; exact zm_ne (Or.inr (by decide))
          have f546 : m540 79 30 = m530 79 30 := by rw [hm540]; exact zm_ne (Or.inr (by decide))
          have tk547 : zS9 t9 m540 := by rw [hm540]; exact zS9_up tk538 (by decide)
          have tk548 : zqP (m540 92) 0 := by rw [hm540]; exact zP_up tk539 (Or.inl (by decide))
          clear tk538 tk539
          refine zW.step (st1 := (433, [(some (.ref 79)), (some (.int (Int32.ofInt sort))), (some (.int (Int32.ofInt (m406 79 6)))), (some (.int (Int32.ofInt x3_523))), o4_523], [], z_hup (zk c m530) 79 (.inr (12, (.int (Int32.ofInt (m530 79 0)) :: .ref 80 :: .ref 81 :: .ref 82 :: .ref 83 :: zm_rf (m530 79 5) :: .int (Int32.ofInt (m530 79 6)) :: .int (Int32.ofInt (m530 79 7)) :: .int (Int32.ofInt (m530 79 8)) :: .int (Int32.ofInt (m530 79 9)) :: .int (Int32.ofInt (m530 79 10)) :: .int (Int32.ofInt (m530 79 11)) :: .int (Int32.ofInt (m530 79 12)) :: .int (Int32.ofInt (m530 79 13)) :: .int (Int32.ofInt (m530 79 14)) :: .ref (z_RO + 5) :: .ref (z_RO + 3) :: .int (Int32.ofInt (m530 79 17)) :: .ref 84 :: .ref 85 :: .ref 86 :: .ref 87 :: .ref 88 :: .ref 89 :: .ref 90 :: .ref 91 :: .int (Int32.ofInt (m530 79 26)) :: .int (Int32.ofInt (m530 79 27)) :: .int (Int32.ofInt (m530 79 28)) :: .int (Int32.ofInt (m530 79 29)) :: .int (Int32.ofInt (m530 79 30)) :: .ref 92 :: .ref 93 :: .int (Int32.ofInt (m530 79 33)) :: .int (Int32.ofInt (m530 79 34)) :: .ref 94 :: .ref 95 :: .int (Int32.ofInt (m530 79 37)) :: .int (Int32.ofInt (m530 79 38)) :: .int (Int32.ofInt (m530 79 39)) :: .int (Int32.ofInt (m530 79 40)) :: .int (Int32.ofInt (m530 79 41)) :: .int (Int32.ofInt (m530 79 42)) :: .ref 96 :: .ref 97 :: .ref 98 :: .ref 99 :: .ref 100 :: .int (Int32.ofInt 0) :: .int (Int32.ofInt (m530 79 49)) :: .long (Int64.ofInt (m530 79 50)) :: .ref 101 :: .ref 102 :: .int (Int32.ofInt (m530 79 53)) :: .ref 103 :: .ref 104 :: .ref 105 :: .int (Int32.ofInt (m530 79 57)) :: []))))) (st2 := (433, [(some (.ref 79)), (some (.int (Int32.ofInt sort))), (some (.int (Int32.ofInt (m406 79 6)))), (some (.int (Int32.ofInt x3_523))), o4_523], [], zk c m540)) ⟨[zo, zo, zo], _, rfl, ⟨trivial, trivial, ⟨(Nat.lt_of_lt_of_le (Nat.le_of_ble_eq_true rfl) hN), rfl, rfl⟩, trivial⟩⟩ (z_steq rfl rfl ((zk_up c m530 79 48 0 _ rfl).trans (by rw [hm540]))) ?_
          obtain ⟨m549, hm549⟩ : ∃ q, q = zm_up m540 79 49 0 := ⟨_, rfl⟩
          have hIm549 := zJ_upE hIm540 hm549 (by unfold zOj; omega) (show (0 : Int) ≤ 0 ∧ 0 ≤ 60 by omega)
          have em549 : m549 79 49 = 0 := by rw [hm549]; exact zm_eq
          have f550 : m549 79 48 = m540 79 48 := by rw [hm549]; exact zm_ne (Or.inr (by decide))
          have f551 : m549 79 7 = m540 79 7 := by rw [hm549]; exact zm_ne (Or.inr (by decide))
          have f552 : m549 79 26 = m540 79 26 := by rw [hm549]; exact zm_ne (Or.inr (by decide))
          have f553 : m549 79 27 = m540 79 27 := by rw [hm549]; exact zm_ne (Or.inr (by decide))
          have f554 : m549 79 28 = m540 79 28 := by rw [hm549]; exact zm_ne (Or.inr (by decide))
          have f555 : m549 79 29 = m540 79 29 := by rw [hm549]; exact zm_ne (Or.inr (by decide))
          have f556 : m549 79 30 = m540 79 30 := by rw [hm549]; exact zm_ne (Or.inr (by decide))
          have tk557 : zS9 t9 m549 := by rw [hm549]; exact zS9_up tk547 (by decide)
          have tk558 : zqP (m549 92) 0 := by rw [hm549]; exact zP_up tk548 (Or.inl (by decide))
          clear tk547 tk548
          refine zW.step (st1 := (438, [(some (.ref 79)), (some (.int (Int32.ofInt sort))), (some (.int (Int32.ofInt (m406 79 6)))), (some (.int (Int32.ofInt x3_523))), o4_523], [], z_hup (zk c m540) 79 (.inr (12, (.int (Int32.ofInt (m540 79 0)) :: .ref 80 :: .ref 81 :: .ref 82 :: .ref 83 :: zm_rf (m540 79 5) :: .int (Int32.ofInt (m540 79 6)) :: .int (Int32.ofInt (m540 79 7)) :: .int (Int32.ofInt (m540 79 8)) :: .int (Int32.ofInt (m540 79 9)) :: .int (Int32.ofInt (m540 79 10)) :: .int (Int32.ofInt (m540 79 11)) :: .int (Int32.ofInt (m540 79 12)) :: .int (Int32.ofInt (m540 79 13)) :: .int (Int32.ofInt (m540 79 14)) :: .ref (z_RO + 5) :: .ref (z_RO + 3) :: .int (Int32.ofInt (m540 79 17)) :: .ref 84 :: .ref 85 :: .ref 86 :: .ref 87 :: .ref 88 :: .ref 89 :: .ref 90 :: .ref 91 :: .int (Int32.ofInt (m540 79 26)) :: .int (Int32.ofInt (m540 79 27)) :: .int (Int32.ofInt (m540 79 28)) :: .int (Int32.ofInt (m540 79 29)) :: .int (Int32.ofInt (m540 79 30)) :: .ref 92 :: .ref 93 :: .int (Int32.ofInt (m540 79 33)) :: .int (Int32.ofInt (m540 79 34)) :: .ref 94 :: .ref 95 :: .int (Int32.ofInt (m540 79 37)) :: .int (Int32.ofInt (m540 79 38)) :: .int (Int32.ofInt (m540 79 39)) :: .int (Int32.ofInt (m540 79 40)) :: .int (Int32.ofInt (m540 79 41)) :: .int (Int32.ofInt (m540 79 42)) :: .ref 96 :: .ref 97 :: .ref 98 :: .ref 99 :: .ref 100 :: .int (Int32.ofInt (m540 79 48)) :: .int (Int32.ofInt 0) :: .long (Int64.ofInt (m540 79 50)) :: .ref 101 :: .ref 102 :: .int (Int32.ofInt (m540 79 53)) :: .ref 103 :: .ref 104 :: .ref 105 :: .int (Int32.ofInt (m540 79 57)) :: []))))) (st2 := (438, [(some (.ref 79)), (some (.int (Int32.ofInt sort))), (some (.int (Int32.ofInt (m406 79 6)))), (some (.int (Int32.ofInt x3_523))), o4_523], [], zk c m549)) ⟨[zo, zo, zo], _, rfl, ⟨trivial, trivial, ⟨(Nat.lt_of_lt_of_le (Nat.le_of_ble_eq_true rfl) hN), rfl, rfl⟩, trivial⟩⟩ (z_steq rfl rfl ((zk_up c m540 79 49 0 _ rfl).trans (by rw [hm549]))) ?_
          obtain ⟨m559, hm559⟩ : ∃ q, q = zm_up m549 79 57 0 := ⟨_, rfl⟩
          have hIm559 := zJ_upE hIm549 hm559 (zOj_79 (by decide)) (show (0 : Int) ≤ 0 ∧ 0 ≤ 1 by omega)
          have em559 : m559 79 57 = 0 := by rw [hm559]; exact zm_eq
          have f560 : m559 79 48 = m549 79 48 := by rw [hm559]; exact zm_ne (Or.inr (by decide))
          have f561 : m559 79 7 = m549 79 7 := by rw [hm559]; exact zm_ne (Or.inr (by decide))
          have f562 : m559 79 26 = m549 79 26 := by rw [hm559]; exact zm_ne (Or.inr (by decide))
          have f563 : m559 79 27 = m549 79 27 := by rw [hm559]; exact zm_ne (Or.inr (by decide))
          have f564 : m559 79 28 = m549 79 28 := by rw [hm559]; exact zm_ne (Or.inr (by decide))
          have f565 : m559 79 29 = m549 79 29 := by rw [hm559]; exact zm_ne (Or.inr (by decide))
          have f566 : m559 79 30 = m549 79 30 := by rw [hm559]; exact zm_ne (Or.inr (by decide))
          have tk567 : zS9 t9 m559 := by rw [hm559]; exact zS9_up tk557 (by decide)
          have tk568 : zqP (m559 92) 0 := by rw [hm559]; exact zP_up tk558 (Or.inl (by decide))
          clear tk557 tk558
          refine zW.step (st1 := (443, [(some (.ref 79)), (some (.int (Int32.ofInt sort))), (some (.int (Int32.ofInt (m406 79 6)))), (some (.int (Int32.ofInt x3_523))), o4_523], [], z_hup (zk c m549) 79 (.inr (12, (.int (Int32.ofInt (m549 79 0)) :: .ref 80 :: .ref 81 :: .ref 82 :: .ref 83 :: zm_rf (m549 79 5) :: .int (Int32.ofInt (m549 79 6)) :: .int (Int32.ofInt (m549 79 7)) :: .int (Int32.ofInt (m549 79 8)) :: .int (Int32.ofInt (m549 79 9)) :: .int (Int32.ofInt (m549 79 10)) :: .int (Int32.ofInt (m549 79 11)) :: .int (Int32.ofInt (m549 79 12)) :: .int (Int32.ofInt (m549 79 13)) :: .int (Int32.ofInt (m549 79 14)) :: .ref (z_RO + 5) :: .ref (z_RO + 3) :: .int (Int32.ofInt (m549 79 17)) :: .ref 84 :: .ref 85 :: .ref 86 :: .ref 87 :: .ref 88 :: .ref 89 :: .ref 90 :: .ref 91 :: .int (Int32.ofInt (m549 79 26)) :: .int (Int32.ofInt (m549 79 27)) :: .int (Int32.ofInt (m549 79 28)) :: .int (Int32.ofInt (m549 79 29)) :: .int (Int32.ofInt (m549 79 30)) :: .ref 92 :: .ref 93 :: .int (Int32.ofInt (m549 79 33)) :: .int (Int32.ofInt (m549 79 34)) :: .ref 94 :: .ref 95 :: .int (Int32.ofInt (m549 79 37)) :: .int (Int32.ofInt (m549 79 38)) :: .int (Int32.ofInt (m549 79 39)) :: .int (Int32.ofInt (m549 79 40)) :: .int (Int32.ofInt (m549 79 41)) :: .int (Int32.ofInt (m549 79 42)) :: .ref 96 :: .ref 97 :: .ref 98 :: .ref 99 :: .ref 100 :: .int (Int32.ofInt (m549 79 48)) :: .int (Int32.ofInt (m549 79 49)) :: .long (Int64.ofInt (m549 79 50)) :: .ref 101 :: .ref 102 :: .int (Int32.ofInt (m549 79 53)) :: .ref 103 :: .ref 104 :: .ref 105 :: .int (Int32.ofInt 0) :: []))))) (st2 := (443, [(some (.ref 79)), (some (.int (Int32.ofInt sort))), (some (.int (Int32.ofInt (m406 79 6)))), (some (.int (Int32.ofInt x3_523))), o4_523], [], zk c m559)) ⟨[zo, zo, zo], _, rfl, ⟨trivial, trivial, ⟨(Nat.lt_of_lt_of_le (Nat.le_of_ble_eq_true rfl) hN), (z_narZ rfl (by omega)), rfl⟩, trivial⟩⟩ (z_steq rfl rfl ((zk_up c m549 79 57 0 _ rfl).trans (by rw [hm559]))) ?_
          have f569 : (0 : Int) ≤ m559 79 29 ∧ m559 79 29 ≤ 6 := hIm559.1 79 29
          refine zW.step (st1 := (447, [(some (.ref 79)), (some (.int (Int32.ofInt sort))), (some (.int (Int32.ofInt (m406 79 6)))), (some (.int (Int32.ofInt x3_523))), o4_523], [.int (Int32.ofInt (m559 79 29))], zk c m559)) (st2 := (447, [(some (.ref 79)), (some (.int (Int32.ofInt sort))), (some (.int (Int32.ofInt (m406 79 6)))), (some (.int (Int32.ofInt x3_523))), o4_523], [.int (Int32.ofInt (m559 79 29))], zk c m559)) ⟨[zo, zo], _, rfl, ⟨trivial, (Nat.lt_of_lt_of_le (Nat.le_of_ble_eq_true rfl) hN), trivial⟩⟩ rfl ?_
          exact zW.fin (zfin_i rfl rfl rfl) ⟨m559 79 29, m559, rfl, rfl, (zJ_text hIm559 tk568 (by omega) tk567 (by omega)), (by omega)⟩
      · refine zW.step (st1 := (37, [(some (.ref 79)), (some (.int (Int32.ofInt sort))), none, none, none], [], zk c m406)) (st2 := (37, [(some (.ref 79)), (some (.int (Int32.ofInt sort))), none, none, none], [], zk c m406)) ⟨[zo, zo], _, rfl, ⟨trivial, zbf (fun q => b416 ((zi_eq rfl rfl (by unfold zR; omega) (⟨by decide, by decide⟩ : zR (-1))).mp q)), trivial⟩⟩ rfl ?_
        refine zW.step (st1 := (38, [(some (.ref 79)), (some (.int (Int32.ofInt sort))), none, none, none], [.int (Int32.ofInt (-1))], zk c m406)) (st2 := (38, [(some (.ref 79)), (some (.int (Int32.ofInt sort))), none, none, none], [.int (Int32.ofInt (-1))], zk c m406)) ⟨[zo], _, rfl, ⟨trivial, trivial⟩⟩ rfl ?_
        exact zW.fin (zfin_i rfl rfl rfl) ⟨(-1), m406, rfl, rfl, hIm406, (by omega)⟩

