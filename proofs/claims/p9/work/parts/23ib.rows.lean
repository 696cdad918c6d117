/-! what is kept, and what is answered, by program (wip/tools/gw5): X12_text -/
set_option maxRecDepth 100000 in
set_option maxHeartbeats 4000000 in
theorem L_X12_text_56 (zn : Bool) (d : Nat) {c : Nat × Nat} {mC : zM} {t9 : Int} (hN : 107 ≤ c.1) (hC : c.1 < z_RO) (sort : Int) (r_sort : -2147483648 ≤ sort ∧ sort ≤ 2147483647) (ht : 0 ≤ t9 ∧ t9 ≤ 999990000) (x2 : Int) (m0 : zM) (Q : Option Value → z_H → Prop) (K : ∀ (x3 : Int) (m : zM), zJ mC t9 0 m → 0 ≤ x3 ∧ x3 ≤ 240 ∧ 0 ≤ x2 ∧ x2 ≤ 240 → m 79 7 ≤ 3 → m 79 6 = 0 ∧ m 79 7 = m0 79 7 ∧ m 79 53 = m0 79 53 → m 79 26 = m0 79 26 → zD9 (fun p i => 79 ≤ p ∧ p ≤ 105 ∧ p ≠ 80 ∧ (p ≠ 79 ∨ i ≠ 34)) m0 m → zW zn (d + 33) 288 c (88, [(some (.ref 79)), (some (.int (Int32.ofInt sort))), (some (.int (Int32.ofInt x2))), (some (.int (Int32.ofInt x3))), none], [], zk c m) Q) :
    ∀ (w : Nat) (x3 : Int) (m : zM), zJ mC t9 0 m → 0 ≤ x3 ∧ x3 ≤ 240 ∧ 0 ≤ x2 ∧ x2 ≤ 240 → m 79 7 ≤ 3 → m 79 6 = 0 ∧ m 79 7 = m0 79 7 ∧ m 79 53 = m0 79 53 → m 79 26 = m0 79 26 → zD9 (fun p i => 79 ≤ p ∧ p ≤ 105 ∧ p ≠ 80 ∧ (p ≠ 79 ∨ i ≠ 34)) m0 m → w = (240 - x3).toNat → zW zn (d + 33) 288 c (56, [(some (.ref 79)), (some (.int (Int32.ofInt sort))), (some (.int (Int32.ofInt x2))), (some (.int (Int32.ofInt x3))), none], [], zk c m) Q := by
  intro w
  induction w using Nat.strongRecOn with | _ w ih => ?_
  intro x3 m hIm i1 i7 v6 v2 tD hw
  have f1 : (0 : Int) ≤ m 79 7 ∧ m 79 7 ≤ 4 := hIm.1 79 7
  have f2 : (0 : Int) ≤ m 79 26 ∧ m 79 26 ≤ 5 := hIm.1 79 26
  have f3 : (0 : Int) ≤ m 79 27 ∧ m 79 27 ≤ 6 := hIm.1 79 27
  have f4 : (0 : Int) ≤ m 79 28 ∧ m 79 28 ≤ 5 := hIm.1 79 28
  have f5 : (0 : Int) ≤ m 79 29 ∧ m 79 29 ≤ 6 := hIm.1 79 29
  have f6 : (0 : Int) ≤ m 79 30 ∧ m 79 30 ≤ 6 := hIm.1 79 30
  have f7 : (0 : Int) ≤ m 79 6 ∧ m 79 6 ≤ 240 := hIm.1 79 6
  have f8 : (0 : Int) ≤ m 79 53 ∧ m 79 53 ≤ 6 := hIm.1 79 53
  by_cases b9 : x2 ≤ x3
  · refine zW.step (st1 := (88, [(some (.ref 79)), (some (.int (Int32.ofInt sort))), (some (.int (Int32.ofInt x2))), (some (.int (Int32.ofInt x3))), none], [], zk c m)) (st2 := (88, [(some (.ref 79)), (some (.int (Int32.ofInt sort))), (some (.int (Int32.ofInt x2))), (some (.int (Int32.ofInt x3))), none], [], zk c m)) ⟨[zo, zo, zt], _, rfl, ⟨trivial, trivial, zbt ((zi_le rfl rfl (by unfold zR; omega) (by unfold zR; omega)).mpr b9), trivial⟩⟩ rfl ?_
    exact K x3 m hIm (by omega) (by omega) (by omega) (by omega) tD
  · refine zW.step (st1 := (61, [(some (.ref 79)), (some (.int (Int32.ofInt sort))), (some (.int (Int32.ofInt x2))), (some (.int (Int32.ofInt x3))), none], [], zk c m)) (st2 := (61, [(some (.ref 79)), (some (.int (Int32.ofInt sort))), (some (.int (Int32.ofInt x2))), (some (.int (Int32.ofInt x3))), none], [], zk c m)) ⟨[zo, zo, zo], _, rfl, ⟨trivial, trivial, zbf (fun q => b9 ((zi_le rfl rfl (by unfold zR; omega) (by unfold zR; omega)).mp q)), trivial⟩⟩ rfl ?_
    have f10 : (-128 : Int) ≤ m 80 x3.toNat ∧ m 80 x3.toNat ≤ 127 := hIm.1 80 x3.toNat
    obtain ⟨m11, hm11⟩ : ∃ q, q = zm_up m 81 (((240 * (m 79 7)) + x3).toNat) (m 80 x3.toNat) := ⟨_, rfl⟩
    have hIm11 := zJ_upE hIm hm11 (zOj_p (by decide)) (show (-128 : Int) ≤ (m 80 x3.toNat) ∧ (m 80 x3.toNat) ≤ 127 by omega)
    have em11 : m11 81 (((240 * (m 79 7)) + x3).toNat) = (m 80 x3.toNat) := by rw [hm11]; exact zm_eq
    have f12 : m11 79 7 = m 79 7 := by rw [hm11]; exact zm_ne (Or.inl (by decide))
    have f13 : m11 79 26 = m 79 26 := by rw [hm11]; exact zm_ne (Or.inl (by decide))
    have f14 : m11 79 27 = m 79 27 := by rw [hm11]; exact zm_ne (Or.inl (by decide))
    have f15 : m11 79 28 = m 79 28 := by rw [hm11]; exact zm_ne (Or.inl (by decide))
    have f16 : m11 79 29 = m 79 29 := by rw [hm11]; exact zm_ne (Or.inl (by decide))
    have f17 : m11 79 30 = m 79 30 := by rw [hm11]; exact zm_ne (Or.inl (by decide))
    have f18 : m11 79 6 = m 79 6 := by rw [hm11]; exact zm_ne (Or.inl (by decide))
    have f19 : m11 79 53 = m 79 53 := by rw [hm11]; exact zm_ne (Or.inl (by decide))
    have f20 : m11 79 48 = m 79 48 := by rw [hm11]; exact zm_ne (Or.inl (by decide))
    have tk21 : zD9 (fun p i => 79 ≤ p ∧ p ≤ 105 ∧ p ≠ 80 ∧ (p ≠ 79 ∨ i ≠ 34)) m0 m11 := by rw [hm11]; exact zD9_up tD (by first | rfl | omega | (dsimp only; omega))
    refine zW.step (st1 := (82, [(some (.ref 79)), (some (.int (Int32.ofInt sort))), (some (.int (Int32.ofInt x2))), (some (.int (Int32.ofInt x3))), none], [], z_hup (zk c m) 81 (.inl (2, 960, .inl (upd (fun j => Int32.ofInt (m 81 j)) ((((Int16.ofInt 240).toInt32) * (Int32.ofInt (m 79 7))) + (Int32.ofInt x3)).toNatClampNeg (vp_nar .byte (Int32.ofInt (m 80 (Int32.ofInt x3).toNatClampNeg)))))))) (st2 := (82, [(some (.ref 79)), (some (.int (Int32.ofInt sort))), (some (.int (Int32.ofInt x2))), (some (.int (Int32.ofInt x3))), none], [], zk c m11)) ⟨[zo, zo, zo, zo, zo, zo, zo, zo, zo, zo, zo, (false, 0, none, zh0, some (.inl (2, 240, .inl (fun j => Int32.ofInt (m 80 j))))), (false, 0, none, zh0, some (.inl (2, 960, .inl (fun j => Int32.ofInt (m 81 j)))))], _, rfl, ⟨trivial, (Nat.lt_of_lt_of_le (Nat.le_of_ble_eq_true rfl) hN), trivial, trivial, (Nat.lt_of_lt_of_le (Nat.le_of_ble_eq_true rfl) hN), trivial, trivial, trivial, trivial, (Nat.lt_of_lt_of_le (Nat.le_of_ble_eq_true rfl) hN), trivial, ⟨zk_ra c m zA_80 (Nat.lt_of_lt_of_le (Nat.le_of_ble_eq_true rfl) hN), zi_in rfl (by omega) (by omega) (by omega)⟩, ⟨zk_ra c m zA_81 (Nat.lt_of_lt_of_le (Nat.le_of_ble_eq_true rfl) hN), zi_in (zi_add (zi_mul (by decide : (Int16.ofInt 240).toInt32 = Int32.ofInt 240) rfl) rfl) (by omega) (by omega) (by omega)⟩, trivial⟩⟩ (z_steq rfl rfl ((zk_bas2 c m zA_81 (zi_add (zi_mul (by decide : (Int16.ofInt 240).toInt32 = Int32.ofInt 240) rfl) rfl) (by unfold zR; omega) ((zk_rd (f := m 80) rfl (by unfold zR; omega)).trans rfl : Int32.ofInt (m 80 (Int32.ofInt x3).toNatClampNeg) = Int32.ofInt (m 80 x3.toNat)) (by omega)).trans (by rw [hm11]))) ?_
    clear f10 em11
    refine zW.step (st1 := (56, [(some (.ref 79)), (some (.int (Int32.ofInt sort))), (some (.int (Int32.ofInt x2))), (some (.int ((Int32.ofInt x3) + Int32.ofInt 1))), none], [], zk c m11)) (st2 := (56, [(some (.ref 79)), (some (.int (Int32.ofInt sort))), (some (.int (Int32.ofInt x2))), (some (.int (Int32.ofInt (x3 + 1)))), none], [], zk c m11)) ⟨[zo, zo], _, rfl, ⟨trivial, trivial, trivial⟩⟩ (z_steq (z_c1 rfl (z_c1 rfl (z_c1 rfl (z_c1 (z_si (zi_add rfl rfl)) rfl)))) rfl rfl) ?_
    exact ih _ (by omega) (x3 + 1) m11 hIm11 (by omega) (by omega) (by omega) (by omega) tk21 rfl

set_option maxRecDepth 100000 in
set_option maxHeartbeats 4000000 in
theorem L_X12_text_133 (zn : Bool) (d : Nat) {c : Nat × Nat} {mC : zM} {t9 : Int} (hN : 107 ≤ c.1) (hC : c.1 < z_RO) (sort : Int) (r_sort : -2147483648 ≤ sort ∧ sort ≤ 2147483647) (ht : 0 ≤ t9 ∧ t9 ≤ 999990000) (x2 : Int) (y29 : Int) (m0 : zM) (Q : Option Value → z_H → Prop) (K : ∀ (x3 : Int) (m : zM), zJ mC t9 0 m → 0 ≤ x3 ∧ x3 ≤ 5 → 1 ≤ m 79 29 ∧ 0 ≤ sort ∧ sort ≤ 0 → m 79 6 = 0 ∧ m 79 7 = m0 79 7 ∧ m 79 53 = m0 79 53 → 0 < m 79 26 ∧ m 79 29 = y29 → zD9 (fun p i => 79 ≤ p ∧ p ≤ 105 ∧ p ≠ 80 ∧ (p ≠ 79 ∨ i ≠ 34)) m0 m → zK m (m 79 29) → zW zn (d + 33) 288 c (156, [(some (.ref 79)), (some (.int (Int32.ofInt sort))), (some (.int (Int32.ofInt x2))), (some (.int (Int32.ofInt x3))), none], [], zk c m) Q) :
    ∀ (w : Nat) (x3 : Int) (m : zM), zJ mC t9 0 m → 0 ≤ x3 ∧ x3 ≤ 5 → 1 ≤ m 79 29 ∧ 0 ≤ sort ∧ sort ≤ 0 → m 79 6 = 0 ∧ m 79 7 = m0 79 7 ∧ m 79 53 = m0 79 53 → 0 < m 79 26 ∧ m 79 29 = y29 → zD9 (fun p i => 79 ≤ p ∧ p ≤ 105 ∧ p ≠ 80 ∧ (p ≠ 79 ∨ i ≠ 34)) m0 m → zK m (m 79 29) → w = (5 - x3).toNat → zW zn (d + 33) 288 c (133, [(some (.ref 79)), (some (.int (Int32.ofInt sort))), (some (.int (Int32.ofInt x2))), (some (.int (Int32.ofInt x3))), none], [], zk c m) Q := by
  intro w
  induction w using Nat.strongRecOn with | _ w ih => ?_
  intro x3 m hIm i1 i29 v6 v8 tD tK hw
  have f22 : (0 : Int) ≤ m 79 7 ∧ m 79 7 ≤ 4 := hIm.1 79 7
  have f23 : (0 : Int) ≤ m 79 26 ∧ m 79 26 ≤ 5 := hIm.1 79 26
  have f24 : (0 : Int) ≤ m 79 27 ∧ m 79 27 ≤ 6 := hIm.1 79 27
  have f25 : (0 : Int) ≤ m 79 28 ∧ m 79 28 ≤ 5 := hIm.1 79 28
  have f26 : (0 : Int) ≤ m 79 29 ∧ m 79 29 ≤ 6 := hIm.1 79 29
  have f27 : (0 : Int) ≤ m 79 30 ∧ m 79 30 ≤ 6 := hIm.1 79 30
  have f28 : (0 : Int) ≤ m 79 6 ∧ m 79 6 ≤ 240 := hIm.1 79 6
  have f29 : (0 : Int) ≤ m 79 53 ∧ m 79 53 ≤ 6 := hIm.1 79 53
  by_cases b30 : 5 ≤ x3
  · refine zW.step (st1 := (156, [(some (.ref 79)), (some (.int (Int32.ofInt sort))), (some (.int (Int32.ofInt x2))), (some (.int (Int32.ofInt x3))), none], [], zk c m)) (st2 := (156, [(some (.ref 79)), (some (.int (Int32.ofInt sort))), (some (.int (Int32.ofInt x2))), (some (.int (Int32.ofInt x3))), none], [], zk c m)) ⟨[zo, zo, zt], _, rfl, ⟨trivial, trivial, zbt ((zi_le rfl rfl (⟨by decide, by decide⟩ : zR 5) (by unfold zR; omega)).mpr b30), trivial⟩⟩ rfl ?_
    exact K x3 m hIm (by omega) (by omega) (by omega) (by omega) tD (zK_cg tK (by omega))
  · refine zW.step (st1 := (138, [(some (.ref 79)), (some (.int (Int32.ofInt sort))), (some (.int (Int32.ofInt x2))), (some (.int (Int32.ofInt x3))), none], [], zk c m)) (st2 := (138, [(some (.ref 79)), (some (.int (Int32.ofInt sort))), (some (.int (Int32.ofInt x2))), (some (.int (Int32.ofInt x3))), none], [], zk c m)) ⟨[zo, zo, zo], _, rfl, ⟨trivial, trivial, zbf (fun q => b30 ((zi_le rfl rfl (⟨by decide, by decide⟩ : zR 5) (by unfold zR; omega)).mp q)), trivial⟩⟩ rfl ?_
    have f31 : (-2147483648 : Int) ≤ m 85 x3.toNat ∧ m 85 x3.toNat ≤ 2147483647 := hIm.1 85 x3.toNat
    obtain ⟨m32, hm32⟩ : ∃ q, q = zm_up m 84 x3.toNat (m 85 x3.toNat) := ⟨_, rfl⟩
    have hIm32 := zJ_upE hIm hm32 (zOj_p (by decide)) (show (-2147483648 : Int) ≤ (m 85 x3.toNat) ∧ (m 85 x3.toNat) ≤ 2147483647 by omega)
    have em32 : m32 84 x3.toNat = (m 85 x3.toNat) := by rw [hm32]; exact zm_eq
    have f33 : m32 79 7 = m 79 7 := by rw [hm32]; exact zm_ne (Or.inl (by decide))
    have f34 : m32 79 26 = m 79 26 := by rw [hm32]; exact zm_ne (Or.inl (by decide))
    have f35 : m32 79 27 = m 79 27 := by rw [hm32]; exact zm_ne (Or.inl (by decide))
    have f36 : m32 79 28 = m 79 28 := by rw [hm32]; exact zm_ne (Or.inl (by decide))
    have f37 : m32 79 29 = m 79 29 := by rw [hm32]; exact zm_ne (Or.inl (by decide))
    have f38 : m32 79 30 = m 79 30 := by rw [hm32]; exact zm_ne (Or.inl (by decide))
    have f39 : m32 79 6 = m 79 6 := by rw [hm32]; exact zm_ne (Or.inl (by decide))
    have f40 : m32 79 53 = m 79 53 := by rw [hm32]; exact zm_ne (Or.inl (by decide))
    have f41 : m32 79 48 = m 79 48 := by rw [hm32]; exact zm_ne (Or.inl (by decide))
    have tk42 : zD9 (fun p i => 79 ≤ p ∧ p ≤ 105 ∧ p ≠ 80 ∧ (p ≠ 79 ∨ i ≠ 34)) m0 m32 := by rw [hm32]; exact zD9_up tD (by first | rfl | omega | (dsimp only; omega))
    have tk43 : zK m32 (m 79 29) := by rw [hm32]; exact zK_up tK (by decide)
    refine zW.step (st1 := (150, [(some (.ref 79)), (some (.int (Int32.ofInt sort))), (some (.int (Int32.ofInt x2))), (some (.int (Int32.ofInt x3))), none], [], z_hup (zk c m) 84 (.inl (0, 5, .inl (upd (fun j => Int32.ofInt (m 84 j)) (Int32.ofInt x3).toNatClampNeg (Int32.ofInt (m 85 (Int32.ofInt x3).toNatClampNeg))))))) (st2 := (150, [(some (.ref 79)), (some (.int (Int32.ofInt sort))), (some (.int (Int32.ofInt x2))), (some (.int (Int32.ofInt x3))), none], [], zk c m32)) ⟨[zo, zo, zo, zo, zo, zo, (false, 0, none, zh0, some (.inl (0, 5, .inl (fun j => Int32.ofInt (m 85 j))))), (false, 0, none, zh0, some (.inl (0, 5, .inl (fun j => Int32.ofInt (m 84 j)))))], _, rfl, ⟨trivial, (Nat.lt_of_lt_of_le (Nat.le_of_ble_eq_true rfl) hN), trivial, trivial, (Nat.lt_of_lt_of_le (Nat.le_of_ble_eq_true rfl) hN), trivial, ⟨zk_ra c m zA_85 (Nat.lt_of_lt_of_le (Nat.le_of_ble_eq_true rfl) hN), zi_in rfl (by omega) (by omega) (by omega)⟩, ⟨zk_ra c m zA_84 (Nat.lt_of_lt_of_le (Nat.le_of_ble_eq_true rfl) hN), zi_in rfl (by omega) (by omega) (by omega)⟩, trivial⟩⟩ (z_steq rfl rfl ((zk_ias c m zA_84 rfl (by unfold zR; omega) ((zk_rd (f := m 85) rfl (by unfold zR; omega)).trans rfl : Int32.ofInt (m 85 (Int32.ofInt x3).toNatClampNeg) = Int32.ofInt (m 85 x3.toNat))).trans (by rw [hm32]))) ?_
    clear f31 em32
    refine zW.step (st1 := (133, [(some (.ref 79)), (some (.int (Int32.ofInt sort))), (some (.int (Int32.ofInt x2))), (some (.int ((Int32.ofInt x3) + Int32.ofInt 1))), none], [], zk c m32)) (st2 := (133, [(some (.ref 79)), (some (.int (Int32.ofInt sort))), (some (.int (Int32.ofInt x2))), (some (.int (Int32.ofInt (x3 + 1)))), none], [], zk c m32)) ⟨[zo, zo], _, rfl, ⟨trivial, trivial, trivial⟩⟩ (z_steq (z_c1 rfl (z_c1 rfl (z_c1 rfl (z_c1 (z_si (zi_add rfl rfl)) rfl)))) rfl rfl) ?_
    exact ih _ (by omega) (x3 + 1) m32 hIm32 (by omega) (by omega) (by omega) (by omega) tk42 (zK_cg tk43 (by omega)) rfl

set_option maxRecDepth 100000 in
set_option maxHeartbeats 4000000 in
theorem L_X12_text_158 (zn : Bool) (d : Nat) {c : Nat × Nat} {mC : zM} {t9 : Int} (hN : 107 ≤ c.1) (hC : c.1 < z_RO) (sort : Int) (r_sort : -2147483648 ≤ sort ∧ sort ≤ 2147483647) (ht : 0 ≤ t9 ∧ t9 ≤ 999990000) (x2 : Int) (y29 : Int) (m0 : zM) (Q : Option Value → z_H → Prop) (K : ∀ (x3 : Int) (m : zM), zJ mC t9 0 m → 0 ≤ x3 ∧ x3 ≤ 48 → 1 ≤ m 79 29 ∧ 0 ≤ sort ∧ sort ≤ 0 → m 79 6 = 0 ∧ m 79 7 = m0 79 7 ∧ m 79 53 = m0 79 53 → 0 < m 79 26 ∧ m 79 29 = y29 → zD9 (fun p i => 79 ≤ p ∧ p ≤ 105 ∧ p ≠ 80 ∧ (p ≠ 79 ∨ i ≠ 34)) m0 m → zK m (m 79 29) → zW zn (d + 33) 288 c (182, [(some (.ref 79)), (some (.int (Int32.ofInt sort))), (some (.int (Int32.ofInt x2))), (some (.int (Int32.ofInt x3))), none], [], zk c m) Q) :
    ∀ (w : Nat) (x3 : Int) (m : zM), zJ mC t9 0 m → 0 ≤ x3 ∧ x3 ≤ 48 → 1 ≤ m 79 29 ∧ 0 ≤ sort ∧ sort ≤ 0 → m 79 6 = 0 ∧ m 79 7 = m0 79 7 ∧ m 79 53 = m0 79 53 → 0 < m 79 26 ∧ m 79 29 = y29 → zD9 (fun p i => 79 ≤ p ∧ p ≤ 105 ∧ p ≠ 80 ∧ (p ≠ 79 ∨ i ≠ 34)) m0 m → zK m (m 79 29) → w = (48 - x3).toNat → zW zn (d + 33) 288 c (158, [(some (.ref 79)), (some (.int (Int32.ofInt sort))), (some (.int (Int32.ofInt x2))), (some (.int (Int32.ofInt x3))), none], [], zk c m) Q := by
  intro w
  induction w using Nat.strongRecOn with | _ w ih => ?_
  intro x3 m hIm i1 i29 v6 v8 tD tK hw
  have f44 : (0 : Int) ≤ m 79 7 ∧ m 79 7 ≤ 4 := hIm.1 79 7
  have f45 : (0 : Int) ≤ m 79 26 ∧ m 79 26 ≤ 5 := hIm.1 79 26
  have f46 : (0 : Int) ≤ m 79 27 ∧ m 79 27 ≤ 6 := hIm.1 79 27
  have f47 : (0 : Int) ≤ m 79 28 ∧ m 79 28 ≤ 5 := hIm.1 79 28
  have f48 : (0 : Int) ≤ m 79 29 ∧ m 79 29 ≤ 6 := hIm.1 79 29
  have f49 : (0 : Int) ≤ m 79 30 ∧ m 79 30 ≤ 6 := hIm.1 79 30
  have f50 : (0 : Int) ≤ m 79 6 ∧ m 79 6 ≤ 240 := hIm.1 79 6
  have f51 : (0 : Int) ≤ m 79 53 ∧ m 79 53 ≤ 6 := hIm.1 79 53
  by_cases b52 : 48 ≤ x3
  · refine zW.step (st1 := (182, [(some (.ref 79)), (some (.int (Int32.ofInt sort))), (some (.int (Int32.ofInt x2))), (some (.int (Int32.ofInt x3))), none], [], zk c m)) (st2 := (182, [(some (.ref 79)), (some (.int (Int32.ofInt sort))), (some (.int (Int32.ofInt x2))), (some (.int (Int32.ofInt x3))), none], [], zk c m)) ⟨[zo, zo, zt], _, rfl, ⟨trivial, trivial, zbt ((zi_le (by decide : (Int8.ofInt 48).toInt32 = Int32.ofInt 48) rfl (⟨by decide, by decide⟩ : zR 48) (by unfold zR; omega)).mpr b52), trivial⟩⟩ rfl ?_
    exact K x3 m hIm (by omega) (by omega) (by omega) (by omega) tD (zK_cg tK (by omega))
  · refine zW.step (st1 := (164, [(some (.ref 79)), (some (.int (Int32.ofInt sort))), (some (.int (Int32.ofInt x2))), (some (.int (Int32.ofInt x3))), none], [], zk c m)) (st2 := (164, [(some (.ref 79)), (some (.int (Int32.ofInt sort))), (some (.int (Int32.ofInt x2))), (some (.int (Int32.ofInt x3))), none], [], zk c m)) ⟨[zo, zo, zo], _, rfl, ⟨trivial, trivial, zbf (fun q => b52 ((zi_le (by decide : (Int8.ofInt 48).toInt32 = Int32.ofInt 48) rfl (⟨by decide, by decide⟩ : zR 48) (by unfold zR; omega)).mp q)), trivial⟩⟩ rfl ?_
    have f53 : (0 : Int) ≤ m 89 x3.toNat ∧ m 89 x3.toNat ≤ 4 := hIm.1 89 x3.toNat
    obtain ⟨m54, hm54⟩ : ∃ q, q = zm_up m 88 x3.toNat (m 89 x3.toNat) := ⟨_, rfl⟩
    have hIm54 := zJ_upE hIm hm54 (zOj_p (by decide)) (show (0 : Int) ≤ (m 89 x3.toNat) ∧ (m 89 x3.toNat) ≤ 4 by omega)
    have em54 : m54 88 x3.toNat = (m 89 x3.toNat) := by rw [hm54]; exact zm_eq
    have f55 : m54 79 7 = m 79 7 := by rw [hm54]; exact zm_ne (Or.inl (by decide))
    have f56 : m54 79 26 = m 79 26 := by rw [hm54]; exact zm_ne (Or.inl (by decide))
    have f57 : m54 79 27 = m 79 27 := by rw [hm54]; exact zm_ne (Or.inl (by decide))
    have f58 : m54 79 28 = m 79 28 := by rw [hm54]; exact zm_ne (Or.inl (by decide))
    have f59 : m54 79 29 = m 79 29 := by rw [hm54]; exact zm_ne (Or.inl (by decide))
    have f60 : m54 79 30 = m 79 30 := by rw [hm54]; exact zm_ne (Or.inl (by decide))
    have f61 : m54 79 6 = m 79 6 := by rw [hm54]; exact zm_ne (Or.inl (by decide))
    have f62 : m54 79 53 = m 79 53 := by rw [hm54]; exact zm_ne (Or.inl (by decide))
    have f63 : m54 79 48 = m 79 48 := by rw [hm54]; exact zm_ne (Or.inl (by decide))
    have tk64 : zD9 (fun p i => 79 ≤ p ∧ p ≤ 105 ∧ p ≠ 80 ∧ (p ≠ 79 ∨ i ≠ 34)) m0 m54 := by rw [hm54]; exact zD9_up tD (by first | rfl | omega | (dsimp only; omega))
    have tk65 : zK m54 (m 79 29) := by rw [hm54]; exact zK_up tK (by decide)
    refine zW.step (st1 := (176, [(some (.ref 79)), (some (.int (Int32.ofInt sort))), (some (.int (Int32.ofInt x2))), (some (.int (Int32.ofInt x3))), none], [], z_hup (zk c m) 88 (.inl (0, 48, .inl (upd (fun j => Int32.ofInt (m 88 j)) (Int32.ofInt x3).toNatClampNeg (Int32.ofInt (m 89 (Int32.ofInt x3).toNatClampNeg))))))) (st2 := (176, [(some (.ref 79)), (some (.int (Int32.ofInt sort))), (some (.int (Int32.ofInt x2))), (some (.int (Int32.ofInt x3))), none], [], zk c m54)) ⟨[zo, zo, zo, zo, zo, zo, (false, 0, none, zh0, some (.inl (0, 48, .inl (fun j => Int32.ofInt (m 89 j))))), (false, 0, none, zh0, some (.inl (0, 48, .inl (fun j => Int32.ofInt (m 88 j)))))], _, rfl, ⟨trivial, (Nat.lt_of_lt_of_le (Nat.le_of_ble_eq_true rfl) hN), trivial, trivial, (Nat.lt_of_lt_of_le (Nat.le_of_ble_eq_true rfl) hN), trivial, ⟨zk_ra c m zA_89 (Nat.lt_of_lt_of_le (Nat.le_of_ble_eq_true rfl) hN), zi_in rfl (by omega) (by omega) (by omega)⟩, ⟨zk_ra c m zA_88 (Nat.lt_of_lt_of_le (Nat.le_of_ble_eq_true rfl) hN), zi_in rfl (by omega) (by omega) (by omega)⟩, trivial⟩⟩ (z_steq rfl rfl ((zk_ias c m zA_88 rfl (by unfold zR; omega) ((zk_rd (f := m 89) rfl (by unfold zR; omega)).trans rfl : Int32.ofInt (m 89 (Int32.ofInt x3).toNatClampNeg) = Int32.ofInt (m 89 x3.toNat))).trans (by rw [hm54]))) ?_
    clear f53 em54
    refine zW.step (st1 := (158, [(some (.ref 79)), (some (.int (Int32.ofInt sort))), (some (.int (Int32.ofInt x2))), (some (.int ((Int32.ofInt x3) + Int32.ofInt 1))), none], [], zk c m54)) (st2 := (158, [(some (.ref 79)), (some (.int (Int32.ofInt sort))), (some (.int (Int32.ofInt x2))), (some (.int (Int32.ofInt (x3 + 1)))), none], [], zk c m54)) ⟨[zo, zo], _, rfl, ⟨trivial, trivial, trivial⟩⟩ (z_steq (z_c1 rfl (z_c1 rfl (z_c1 rfl (z_c1 (z_si (zi_add rfl rfl)) rfl)))) rfl rfl) ?_
    exact ih _ (by omega) (x3 + 1) m54 hIm54 (by omega) (by omega) (by omega) (by omega) tk64 (zK_cg tk65 (by omega)) rfl

set_option maxRecDepth 100000 in
set_option maxHeartbeats 4000000 in
theorem L_X12_text_184 (zn : Bool) (d : Nat) {c : Nat × Nat} {mC : zM} {t9 : Int} (hN : 107 ≤ c.1) (hC : c.1 < z_RO) (sort : Int) (r_sort : -2147483648 ≤ sort ∧ sort ≤ 2147483647) (ht : 0 ≤ t9 ∧ t9 ≤ 999990000) (x2 : Int) (y29 : Int) (m0 : zM) (Q : Option Value → z_H → Prop) (K : ∀ (x3 : Int) (m : zM), zJ mC t9 0 m → 0 ≤ x3 ∧ x3 ≤ 6 → 1 ≤ m 79 29 ∧ 0 ≤ sort ∧ sort ≤ 0 → m 79 6 = 0 ∧ m 79 7 = m0 79 7 ∧ m 79 53 = m0 79 53 → 0 < m 79 26 ∧ m 79 29 = y29 → zD9 (fun p i => 79 ≤ p ∧ p ≤ 105 ∧ p ≠ 80 ∧ (p ≠ 79 ∨ i ≠ 34)) m0 m → zK m (m 79 29) → zW zn (d + 33) 288 c (208, [(some (.ref 79)), (some (.int (Int32.ofInt sort))), (some (.int (Int32.ofInt x2))), (some (.int (Int32.ofInt x3))), none], [], zk c m) Q) :
    ∀ (w : Nat) (x3 : Int) (m : zM), zJ mC t9 0 m → 0 ≤ x3 ∧ x3 ≤ 6 → 1 ≤ m 79 29 ∧ 0 ≤ sort ∧ sort ≤ 0 → m 79 6 = 0 ∧ m 79 7 = m0 79 7 ∧ m 79 53 = m0 79 53 → 0 < m 79 26 ∧ m 79 29 = y29 → zD9 (fun p i => 79 ≤ p ∧ p ≤ 105 ∧ p ≠ 80 ∧ (p ≠ 79 ∨ i ≠ 34)) m0 m → zK m (m 79 29) → w = (6 - x3).toNat → zW zn (d + 33) 288 c (184, [(some (.ref 79)), (some (.int (Int32.ofInt sort))), (some (.int (Int32.ofInt x2))), (some (.int (Int32.ofInt x3))), none], [], zk c m) Q := by
  intro w
  induction w using Nat.strongRecOn with | _ w ih => ?_
  intro x3 m hIm i1 i29 v6 v8 tD tK hw
  have f66 : (0 : Int) ≤ m 79 7 ∧ m 79 7 ≤ 4 := hIm.1 79 7
  have f67 : (0 : Int) ≤ m 79 26 ∧ m 79 26 ≤ 5 := hIm.1 79 26
  have f68 : (0 : Int) ≤ m 79 27 ∧ m 79 27 ≤ 6 := hIm.1 79 27
  have f69 : (0 : Int) ≤ m 79 28 ∧ m 79 28 ≤ 5 := hIm.1 79 28
  have f70 : (0 : Int) ≤ m 79 29 ∧ m 79 29 ≤ 6 := hIm.1 79 29
  have f71 : (0 : Int) ≤ m 79 30 ∧ m 79 30 ≤ 6 := hIm.1 79 30
  have f72 : (0 : Int) ≤ m 79 6 ∧ m 79 6 ≤ 240 := hIm.1 79 6
  have f73 : (0 : Int) ≤ m 79 53 ∧ m 79 53 ≤ 6 := hIm.1 79 53
  by_cases b74 : 6 ≤ x3
  · refine zW.step (st1 := (208, [(some (.ref 79)), (some (.int (Int32.ofInt sort))), (some (.int (Int32.ofInt x2))), (some (.int (Int32.ofInt x3))), none], [], zk c m)) (st2 := (208, [(some (.ref 79)), (some (.int (Int32.ofInt sort))), (some (.int (Int32.ofInt x2))), (some (.int (Int32.ofInt x3))), none], [], zk c m)) ⟨[zo, zo, zt], _, rfl, ⟨trivial, trivial, zbt ((zi_le (by decide : (Int8.ofInt 6).toInt32 = Int32.ofInt 6) rfl (⟨by decide, by decide⟩ : zR 6) (by unfold zR; omega)).mpr b74), trivial⟩⟩ rfl ?_
    exact K x3 m hIm (by omega) (by omega) (by omega) (by omega) tD (zK_cg tK (by omega))
  · refine zW.step (st1 := (190, [(some (.ref 79)), (some (.int (Int32.ofInt sort))), (some (.int (Int32.ofInt x2))), (some (.int (Int32.ofInt x3))), none], [], zk c m)) (st2 := (190, [(some (.ref 79)), (some (.int (Int32.ofInt sort))), (some (.int (Int32.ofInt x2))), (some (.int (Int32.ofInt x3))), none], [], zk c m)) ⟨[zo, zo, zo], _, rfl, ⟨trivial, trivial, zbf (fun q => b74 ((zi_le (by decide : (Int8.ofInt 6).toInt32 = Int32.ofInt 6) rfl (⟨by decide, by decide⟩ : zR 6) (by unfold zR; omega)).mp q)), trivial⟩⟩ rfl ?_
    have f75 : (0 : Int) ≤ m 91 x3.toNat ∧ m 91 x3.toNat ≤ 8 := hIm.1 91 x3.toNat
    obtain ⟨m76, hm76⟩ : ∃ q, q = zm_up m 90 x3.toNat (m 91 x3.toNat) := ⟨_, rfl⟩
    have hIm76 := zJ_upE hIm hm76 (zOj_p (by decide)) (show (0 : Int) ≤ (m 91 x3.toNat) ∧ (m 91 x3.toNat) ≤ 8 by omega)
    have em76 : m76 90 x3.toNat = (m 91 x3.toNat) := by rw [hm76]; exact zm_eq
    have f77 : m76 79 7 = m 79 7 := by rw [hm76]; exact zm_ne (Or.inl (by decide))
    have f78 : m76 79 26 = m 79 26 := by rw [hm76]; exact zm_ne (Or.inl (by decide))
    have f79 : m76 79 27 = m 79 27 := by rw [hm76]; exact zm_ne (Or.inl (by decide))
    have f80 : m76 79 28 = m 79 28 := by rw [hm76]; exact zm_ne (Or.inl (by decide))
    have f81 : m76 79 29 = m 79 29 := by rw [hm76]; exact zm_ne (Or.inl (by decide))
    have f82 : m76 79 30 = m 79 30 := by rw [hm76]; exact zm_ne (Or.inl (by decide))
    have f83 : m76 79 6 = m 79 6 := by rw [hm76]; exact zm_ne (Or.inl (by decide))
    have f84 : m76 79 53 = m 79 53 := by rw [hm76]; exact zm_ne (Or.inl (by decide))
    have f85 : m76 79 48 = m 79 48 := by rw [hm76]; exact zm_ne (Or.inl (by decide))
    have tk86 : zD9 (fun p i => 79 ≤ p ∧ p ≤ 105 ∧ p ≠ 80 ∧ (p ≠ 79 ∨ i ≠ 34)) m0 m76 := by rw [hm76]; exact zD9_up tD (by first | rfl | omega | (dsimp only; omega))
    have tk87 : zK m76 (m 79 29) := by rw [hm76]; exact zK_up tK (by decide)
    refine zW.step (st1 := (202, [(some (.ref 79)), (some (.int (Int32.ofInt sort))), (some (.int (Int32.ofInt x2))), (some (.int (Int32.ofInt x3))), none], [], z_hup (zk c m) 90 (.inl (0, 6, .inl (upd (fun j => Int32.ofInt (m 90 j)) (Int32.ofInt x3).toNatClampNeg (Int32.ofInt (m 91 (Int32.ofInt x3).toNatClampNeg))))))) (st2 := (202, [(some (.ref 79)), (some (.int (Int32.ofInt sort))), (some (.int (Int32.ofInt x2))), (some (.int (Int32.ofInt x3))), none], [], zk c m76)) ⟨[zo, zo, zo, zo, zo, zo, (false, 0, none, zh0, some (.inl (0, 6, .inl (fun j => Int32.ofInt (m 91 j))))), (false, 0, none, zh0, some (.inl (0, 6, .inl (fun j => Int32.ofInt (m 90 j)))))], _, rfl, ⟨trivial, (Nat.lt_of_lt_of_le (Nat.le_of_ble_eq_true rfl) hN), trivial, trivial, (Nat.lt_of_lt_of_le (Nat.le_of_ble_eq_true rfl) hN), trivial, ⟨zk_ra c m zA_91 (Nat.lt_of_lt_of_le (Nat.le_of_ble_eq_true rfl) hN), zi_in rfl (by omega) (by omega) (by omega)⟩, ⟨zk_ra c m zA_90 (Nat.lt_of_lt_of_le (Nat.le_of_ble_eq_true rfl) hN), zi_in rfl (by omega) (by omega) (by omega)⟩, trivial⟩⟩ (z_steq rfl rfl ((zk_ias c m zA_90 rfl (by unfold zR; omega) ((zk_rd (f := m 91) rfl (by unfold zR; omega)).trans rfl : Int32.ofInt (m 91 (Int32.ofInt x3).toNatClampNeg) = Int32.ofInt (m 91 x3.toNat))).trans (by rw [hm76]))) ?_
    clear f75 em76
    refine zW.step (st1 := (184, [(some (.ref 79)), (some (.int (Int32.ofInt sort))), (some (.int (Int32.ofInt x2))), (some (.int ((Int32.ofInt x3) + Int32.ofInt 1))), none], [], zk c m76)) (st2 := (184, [(some (.ref 79)), (some (.int (Int32.ofInt sort))), (some (.int (Int32.ofInt x2))), (some (.int (Int32.ofInt (x3 + 1)))), none], [], zk c m76)) ⟨[zo, zo], _, rfl, ⟨trivial, trivial, trivial⟩⟩ (z_steq (z_c1 rfl (z_c1 rfl (z_c1 rfl (z_c1 (z_si (zi_add rfl rfl)) rfl)))) rfl rfl) ?_
    exact ih _ (by omega) (x3 + 1) m76 hIm76 (by omega) (by omega) (by omega) (by omega) tk86 (zK_cg tk87 (by omega)) rfl

set_option maxRecDepth 100000 in
set_option maxHeartbeats 4000000 in
theorem L_X12_text_210 (zn : Bool) (d : Nat) {c : Nat × Nat} {mC : zM} {t9 : Int} (hN : 107 ≤ c.1) (hC : c.1 < z_RO) (sort : Int) (r_sort : -2147483648 ≤ sort ∧ sort ≤ 2147483647) (ht : 0 ≤ t9 ∧ t9 ≤ 999990000) (x2 : Int) (y29 : Int) (m0 : zM) (Q : Option Value → z_H → Prop) (K : ∀ (x3 : Int) (m : zM), zJ mC t9 99 m → 0 ≤ x3 ∧ x3 ≤ 178 → (∀ j : Nat, (j : Int) < x3 → m 92 j = 0) → 1 ≤ m 79 29 ∧ 0 ≤ sort ∧ sort ≤ 0 → m 79 6 = 0 ∧ m 79 7 = m0 79 7 ∧ m 79 53 = m0 79 53 → 0 < m 79 26 ∧ m 79 29 = y29 → zD9 (fun p i => 79 ≤ p ∧ p ≤ 105 ∧ p ≠ 80 ∧ (p ≠ 79 ∨ i ≠ 34)) m0 m → zK m (m 79 29) → zS9 t9 m → 178 ≤ x3 → zW zn (d + 33) 288 c (230, [(some (.ref 79)), (some (.int (Int32.ofInt sort))), (some (.int (Int32.ofInt x2))), (some (.int (Int32.ofInt x3))), none], [], zk c m) Q) :
    ∀ (w : Nat) (x3 : Int) (m : zM), zJ mC t9 99 m → 0 ≤ x3 ∧ x3 ≤ 178 → (∀ j : Nat, (j : Int) < x3 → m 92 j = 0) → 1 ≤ m 79 29 ∧ 0 ≤ sort ∧ sort ≤ 0 → m 79 6 = 0 ∧ m 79 7 = m0 79 7 ∧ m 79 53 = m0 79 53 → 0 < m 79 26 ∧ m 79 29 = y29 → zD9 (fun p i => 79 ≤ p ∧ p ≤ 105 ∧ p ≠ 80 ∧ (p ≠ 79 ∨ i ≠ 34)) m0 m → zK m (m 79 29) → zS9 t9 m → w = (178 - x3).toNat → zW zn (d + 33) 288 c (210, [(some (.ref 79)), (some (.int (Int32.ofInt sort))), (some (.int (Int32.ofInt x2))), (some (.int (Int32.ofInt x3))), none], [], zk c m) Q := by
  intro w
  induction w using Nat.strongRecOn with | _ w ih => ?_
  intro x3 m hIm i1 z i29 v6 v8 tD tK tI hw
  have f88 : (0 : Int) ≤ m 79 7 ∧ m 79 7 ≤ 4 := hIm.1 79 7
  have f89 : (0 : Int) ≤ m 79 26 ∧ m 79 26 ≤ 5 := hIm.1 79 26
  have f90 : (0 : Int) ≤ m 79 27 ∧ m 79 27 ≤ 6 := hIm.1 79 27
  have f91 : (0 : Int) ≤ m 79 28 ∧ m 79 28 ≤ 5 := hIm.1 79 28
  have f92 : (0 : Int) ≤ m 79 29 ∧ m 79 29 ≤ 6 := hIm.1 79 29
  have f93 : (0 : Int) ≤ m 79 30 ∧ m 79 30 ≤ 6 := hIm.1 79 30
  have f94 : (0 : Int) ≤ m 79 6 ∧ m 79 6 ≤ 240 := hIm.1 79 6
  have f95 : (0 : Int) ≤ m 79 53 ∧ m 79 53 ≤ 6 := hIm.1 79 53
  by_cases b96 : 178 ≤ x3
  · refine zW.step (st1 := (230, [(some (.ref 79)), (some (.int (Int32.ofInt sort))), (some (.int (Int32.ofInt x2))), (some (.int (Int32.ofInt x3))), none], [], zk c m)) (st2 := (230, [(some (.ref 79)), (some (.int (Int32.ofInt sort))), (some (.int (Int32.ofInt x2))), (some (.int (Int32.ofInt x3))), none], [], zk c m)) ⟨[zo, zo, zt], _, rfl, ⟨trivial, trivial, zbt ((zi_le (by decide : (Int16.ofInt 178).toInt32 = Int32.ofInt 178) rfl (⟨by decide, by decide⟩ : zR 178) (by unfold zR; omega)).mpr b96), trivial⟩⟩ rfl ?_
    exact K x3 m hIm (by omega) (by exact z) (by omega) (by omega) (by omega) tD (zK_cg tK (by omega)) tI (by omega)
  · refine zW.step (st1 := (217, [(some (.ref 79)), (some (.int (Int32.ofInt sort))), (some (.int (Int32.ofInt x2))), (some (.int (Int32.ofInt x3))), none], [], zk c m)) (st2 := (217, [(some (.ref 79)), (some (.int (Int32.ofInt sort))), (some (.int (Int32.ofInt x2))), (some (.int (Int32.ofInt x3))), none], [], zk c m)) ⟨[zo, zo, zo], _, rfl, ⟨trivial, trivial, zbf (fun q => b96 ((zi_le (by decide : (Int16.ofInt 178).toInt32 = Int32.ofInt 178) rfl (⟨by decide, by decide⟩ : zR 178) (by unfold zR; omega)).mp q)), trivial⟩⟩ rfl ?_
    obtain ⟨m97, hm97⟩ : ∃ q, q = zm_up m 92 x3.toNat 0 := ⟨_, rfl⟩
    have hIm97 := zJ_upE hIm hm97 (by unfold zOj zsen; omega) (zvw_z zV_92 _)
    have em97 : m97 92 x3.toNat = 0 := by rw [hm97]; exact zm_eq
    have f98 : m97 79 7 = m 79 7 := by rw [hm97]; exact zm_ne (Or.inl (by decide))
    have f99 : m97 79 26 = m 79 26 := by rw [hm97]; exact zm_ne (Or.inl (by decide))
    have f100 : m97 79 27 = m 79 27 := by rw [hm97]; exact zm_ne (Or.inl (by decide))
    have f101 : m97 79 28 = m 79 28 := by rw [hm97]; exact zm_ne (Or.inl (by decide))
    have f102 : m97 79 29 = m 79 29 := by rw [hm97]; exact zm_ne (Or.inl (by decide))
    have f103 : m97 79 30 = m 79 30 := by rw [hm97]; exact zm_ne (Or.inl (by decide))
    have f104 : m97 79 6 = m 79 6 := by rw [hm97]; exact zm_ne (Or.inl (by decide))
    have f105 : m97 79 53 = m 79 53 := by rw [hm97]; exact zm_ne (Or.inl (by decide))
    have f106 : m97 79 48 = m 79 48 := by rw [hm97]; exact zm_ne (Or.inl (by decide))
    have tk107 : zD9 (fun p i => 79 ≤ p ∧ p ≤ 105 ∧ p ≠ 80 ∧ (p ≠ 79 ∨ i ≠ 34)) m0 m97 := by rw [hm97]; exact zD9_up tD (by first | rfl | omega | (dsimp only; omega))
    have tk108 : zK m97 (m 79 29) := by rw [hm97]; exact zK_up tK (by decide)
    have tk109 : zS9 t9 m97 := by rw [hm97]; exact zS9_up tI (by decide)
    refine zW.step (st1 := (224, [(some (.ref 79)), (some (.int (Int32.ofInt sort))), (some (.int (Int32.ofInt x2))), (some (.int (Int32.ofInt x3))), none], [], z_hup (zk c m) 92 (.inl (0, 178, .inl (upd (fun j => Int32.ofInt (m 92 j)) (Int32.ofInt x3).toNatClampNeg (Int32.ofInt 0)))))) (st2 := (224, [(some (.ref 79)), (some (.int (Int32.ofInt sort))), (some (.int (Int32.ofInt x2))), (some (.int (Int32.ofInt x3))), none], [], zk c m97)) ⟨[zo, zo, zo, zo, (false, 0, none, zh0, some (.inl (0, 178, .inl (fun j => Int32.ofInt (m 92 j)))))], _, rfl, ⟨trivial, (Nat.lt_of_lt_of_le (Nat.le_of_ble_eq_true rfl) hN), trivial, trivial, ⟨zk_ra c m zA_92 (Nat.lt_of_lt_of_le (Nat.le_of_ble_eq_true rfl) hN), zi_in rfl (by omega) (by omega) (by omega)⟩, trivial⟩⟩ (z_steq rfl rfl ((zk_ias c m zA_92 rfl (by unfold zR; omega) rfl).trans (by rw [hm97]))) ?_
    refine zW.step (st1 := (210, [(some (.ref 79)), (some (.int (Int32.ofInt sort))), (some (.int (Int32.ofInt x2))), (some (.int ((Int32.ofInt x3) + Int32.ofInt 1))), none], [], zk c m97)) (st2 := (210, [(some (.ref 79)), (some (.int (Int32.ofInt sort))), (some (.int (Int32.ofInt x2))), (some (.int (Int32.ofInt (x3 + 1)))), none], [], zk c m97)) ⟨[zo, zo], _, rfl, ⟨trivial, trivial, trivial⟩⟩ (z_steq (z_c1 rfl (z_c1 rfl (z_c1 rfl (z_c1 (z_si (zi_add rfl rfl)) rfl)))) rfl rfl) ?_
    exact ih _ (by omega) (x3 + 1) m97 hIm97 (by omega) (by intro j hj; rw [hm97]; by_cases e9 : j = x3.toNat; (subst e9; rw [zm_eq]); (rw [zm_ne (by omega)]; exact z j (by omega))) (by omega) (by omega) (by omega) tk107 (zK_cg tk108 (by omega)) tk109 rfl

set_option maxRecDepth 100000 in
set_option maxHeartbeats 4000000 in
theorem L_X12_text_255 (zn : Bool) (d : Nat) {c : Nat × Nat} {mC : zM} {t9 : Int} (hN : 107 ≤ c.1) (hC : c.1 < z_RO) (sort : Int) (r_sort : -2147483648 ≤ sort ∧ sort ≤ 2147483647) (ht : 0 ≤ t9 ∧ t9 ≤ 999990000) (x2 : Int) (x3 : Int) (y29 : Int) (m0 : zM) (Q : Option Value → z_H → Prop) (K : ∀ (x4 : Int) (m : zM), zJ mC t9 99 m → 0 ≤ x4 ∧ x4 ≤ 7 → zqT (m 92) x3 → x4 ≤ 4 ∨ 1 ≤ m 92 (15 * x3 + 4).toNat → 0 ≤ x3 ∧ x3 < m 79 29 → 1 ≤ m 79 29 ∧ 0 ≤ sort ∧ sort ≤ 0 → m 79 6 = 0 ∧ m 79 7 = m0 79 7 ∧ m 79 53 = m0 79 53 → 0 < m 79 26 ∧ m 79 29 = y29 → zD9 (fun p i => 79 ≤ p ∧ p ≤ 105 ∧ p ≠ 80 ∧ (p ≠ 79 ∨ i ≠ 34)) m0 m → zK m (m 79 29) → zS9 t9 m → 7 ≤ x4 → zW zn (d + 33) 288 c (292, [(some (.ref 79)), (some (.int (Int32.ofInt sort))), (some (.int (Int32.ofInt x2))), (some (.int (Int32.ofInt x3))), (some (.int (Int32.ofInt x4)))], [], zk c m) Q) :
    ∀ (w : Nat) (x4 : Int) (m : zM), zJ mC t9 99 m → 0 ≤ x4 ∧ x4 ≤ 7 → zqT (m 92) x3 → x4 ≤ 4 ∨ 1 ≤ m 92 (15 * x3 + 4).toNat → 0 ≤ x3 ∧ x3 < m 79 29 → 1 ≤ m 79 29 ∧ 0 ≤ sort ∧ sort ≤ 0 → m 79 6 = 0 ∧ m 79 7 = m0 79 7 ∧ m 79 53 = m0 79 53 → 0 < m 79 26 ∧ m 79 29 = y29 → zD9 (fun p i => 79 ≤ p ∧ p ≤ 105 ∧ p ≠ 80 ∧ (p ≠ 79 ∨ i ≠ 34)) m0 m → zK m (m 79 29) → zS9 t9 m → w = (7 - x4).toNat → zW zn (d + 33) 288 c (255, [(some (.ref 79)), (some (.int (Int32.ofInt sort))), (some (.int (Int32.ofInt x2))), (some (.int (Int32.ofInt x3))), (some (.int (Int32.ofInt x4)))], [], zk c m) Q := by
  intro w
  induction w using Nat.strongRecOn with | _ w ih => ?_
  intro x4 m hIm i1 t2 k4 i3 i29 v6 v8 tD tK tI hw
  have f110 : (0 : Int) ≤ m 79 7 ∧ m 79 7 ≤ 4 := hIm.1 79 7
  have f111 : (0 : Int) ≤ m 79 26 ∧ m 79 26 ≤ 5 := hIm.1 79 26
  have f112 : (0 : Int) ≤ m 79 27 ∧ m 79 27 ≤ 6 := hIm.1 79 27
  have f113 : (0 : Int) ≤ m 79 28 ∧ m 79 28 ≤ 5 := hIm.1 79 28
  have f114 : (0 : Int) ≤ m 79 29 ∧ m 79 29 ≤ 6 := hIm.1 79 29
  have f115 : (0 : Int) ≤ m 79 30 ∧ m 79 30 ≤ 6 := hIm.1 79 30
  have f116 : (0 : Int) ≤ m 79 6 ∧ m 79 6 ≤ 240 := hIm.1 79 6
  have f117 : (0 : Int) ≤ m 79 53 ∧ m 79 53 ≤ 6 := hIm.1 79 53
  by_cases b118 : 7 ≤ x4
  · refine zW.step (st1 := (292, [(some (.ref 79)), (some (.int (Int32.ofInt sort))), (some (.int (Int32.ofInt x2))), (some (.int (Int32.ofInt x3))), (some (.int (Int32.ofInt x4)))], [], zk c m)) (st2 := (292, [(some (.ref 79)), (some (.int (Int32.ofInt sort))), (some (.int (Int32.ofInt x2))), (some (.int (Int32.ofInt x3))), (some (.int (Int32.ofInt x4)))], [], zk c m)) ⟨[zo, zo, zt], _, rfl, ⟨trivial, trivial, zbt ((zi_le (by decide : (Int8.ofInt 7).toInt32 = Int32.ofInt 7) rfl (⟨by decide, by decide⟩ : zR 7) (by unfold zR; omega)).mpr b118), trivial⟩⟩ rfl ?_
    exact K x4 m hIm (by omega) (by exact t2) (by exact k4) (by omega) (by omega) (by omega) (by omega) tD (zK_cg tK (by omega)) tI (by omega)
  · refine zW.step (st1 := (262, [(some (.ref 79)), (some (.int (Int32.ofInt sort))), (some (.int (Int32.ofInt x2))), (some (.int (Int32.ofInt x3))), (some (.int (Int32.ofInt x4)))], [], zk c m)) (st2 := (262, [(some (.ref 79)), (some (.int (Int32.ofInt sort))), (some (.int (Int32.ofInt x2))), (some (.int (Int32.ofInt x3))), (some (.int (Int32.ofInt x4)))], [], zk c m)) ⟨[zo, zo, zo], _, rfl, ⟨trivial, trivial, zbf (fun q => b118 ((zi_le (by decide : (Int8.ofInt 7).toInt32 = Int32.ofInt 7) rfl (⟨by decide, by decide⟩ : zR 7) (by unfold zR; omega)).mp q)), trivial⟩⟩ rfl ?_
    have f119 := zk86 hIm.1 (((7 * x3) + x4).toNat)
    obtain ⟨m120, hm120⟩ : ∃ q, q = zm_up m 92 (((15 * x3) + x4).toNat) (m 86 (((7 * x3) + x4).toNat)) := ⟨_, rfl⟩
    have hIm120 := zJ_upE hIm hm120 (by unfold zOj zsen; omega) (zv86_w hIm.1 (by omega) (by omega))
    have em120 : m120 92 (((15 * x3) + x4).toNat) = (m 86 (((7 * x3) + x4).toNat)) := by rw [hm120]; exact zm_eq
    have f121 : m120 79 7 = m 79 7 := by rw [hm120]; exact zm_ne (Or.inl (by decide))
    have f122 : m120 79 26 = m 79 26 := by rw [hm120]; exact zm_ne (Or.inl (by decide))
    have f123 : m120 79 27 = m 79 27 := by rw [hm120]; exact zm_ne (Or.inl (by decide))
    have f124 : m120 79 28 = m 79 28 := by rw [hm120]; exact zm_ne (Or.inl (by decide))
    have f125 : m120 79 29 = m 79 29 := by rw [hm120]; exact zm_ne (Or.inl (by decide))
    have f126 : m120 79 30 = m 79 30 := by rw [hm120]; exact zm_ne (Or.inl (by decide))
    have f127 : m120 79 6 = m 79 6 := by rw [hm120]; exact zm_ne (Or.inl (by decide))
    have f128 : m120 79 53 = m 79 53 := by rw [hm120]; exact zm_ne (Or.inl (by decide))
    have f129 : m120 79 48 = m 79 48 := by rw [hm120]; exact zm_ne (Or.inl (by decide))
    have tk130 : zD9 (fun p i => 79 ≤ p ∧ p ≤ 105 ∧ p ≠ 80 ∧ (p ≠ 79 ∨ i ≠ 34)) m0 m120 := by rw [hm120]; exact zD9_up tD (by first | rfl | omega | (dsimp only; omega))
    have tk131 : zK m120 (m 79 29) := by rw [hm120]; exact zK_up tK (by decide)
    have tk132 : zS9 t9 m120 := by rw [hm120]; exact zS9_up tI (by decide)
    refine zW.step (st1 := (286, [(some (.ref 79)), (some (.int (Int32.ofInt sort))), (some (.int (Int32.ofInt x2))), (some (.int (Int32.ofInt x3))), (some (.int (Int32.ofInt x4)))], [], z_hup (zk c m) 92 (.inl (0, 178, .inl (upd (fun j => Int32.ofInt (m 92 j)) ((((Int8.ofInt 15).toInt32) * (Int32.ofInt x3)) + (Int32.ofInt x4)).toNatClampNeg (Int32.ofInt (m 86 ((((Int8.ofInt 7).toInt32) * (Int32.ofInt x3)) + (Int32.ofInt x4)).toNatClampNeg))))))) (st2 := (286, [(some (.ref 79)), (some (.int (Int32.ofInt sort))), (some (.int (Int32.ofInt x2))), (some (.int (Int32.ofInt x3))), (some (.int (Int32.ofInt x4)))], [], zk c m120)) ⟨[zo, zo, zo, zo, zo, zo, zo, zo, zo, zo, zo, zo, zo, zo, (false, 0, none, zh0, some (.inl (0, 42, .inl (fun j => Int32.ofInt (m 86 j))))), (false, 0, none, zh0, some (.inl (0, 178, .inl (fun j => Int32.ofInt (m 92 j)))))], _, rfl, ⟨trivial, (Nat.lt_of_lt_of_le (Nat.le_of_ble_eq_true rfl) hN), trivial, trivial, trivial, trivial, trivial, trivial, (Nat.lt_of_lt_of_le (Nat.le_of_ble_eq_true rfl) hN), trivial, trivial, trivial, trivial, trivial, ⟨zk_ra c m zA_86 (Nat.lt_of_lt_of_le (Nat.le_of_ble_eq_true rfl) hN), zi_in (zi_add (zi_mul (by decide : (Int8.ofInt 7).toInt32 = Int32.ofInt 7) rfl) rfl) (by omega) (by omega) (by omega)⟩, ⟨zk_ra c m zA_92 (Nat.lt_of_lt_of_le (Nat.le_of_ble_eq_true rfl) hN), zi_in (zi_add (zi_mul (by decide : (Int8.ofInt 15).toInt32 = Int32.ofInt 15) rfl) rfl) (by omega) (by omega) (by omega)⟩, trivial⟩⟩ (z_steq rfl rfl ((zk_ias c m zA_92 (zi_add (zi_mul (by decide : (Int8.ofInt 15).toInt32 = Int32.ofInt 15) rfl) rfl) (by unfold zR; omega) ((zk_rd (f := m 86) (zi_add (zi_mul (by decide : (Int8.ofInt 7).toInt32 = Int32.ofInt 7) rfl) rfl) (by unfold zR; omega)).trans rfl : Int32.ofInt (m 86 ((((Int8.ofInt 7).toInt32) * (Int32.ofInt x3)) + (Int32.ofInt x4)).toNatClampNeg) = Int32.ofInt (m 86 (((7 * x3) + x4).toNat)))).trans (by rw [hm120]))) ?_
    clear em120
    refine zW.step (st1 := (255, [(some (.ref 79)), (some (.int (Int32.ofInt sort))), (some (.int (Int32.ofInt x2))), (some (.int (Int32.ofInt x3))), (some (.int ((Int32.ofInt x4) + Int32.ofInt 1)))], [], zk c m120)) (st2 := (255, [(some (.ref 79)), (some (.int (Int32.ofInt sort))), (some (.int (Int32.ofInt x2))), (some (.int (Int32.ofInt x3))), (some (.int (Int32.ofInt (x4 + 1))))], [], zk c m120)) ⟨[zo, zo], _, rfl, ⟨trivial, trivial, trivial⟩⟩ (z_steq (z_c1 rfl (z_c1 rfl (z_c1 rfl (z_c1 rfl (z_c1 (z_si (zi_add rfl rfl)) rfl))))) rfl rfl) ?_
    exact ih _ (by omega) (x4 + 1) m120 hIm120 (by omega) (by exact zqT_k t2 hm120 (by omega) (by omega) (by omega)) (by exact zbk4 k4 hm120 (by omega) (fun q9 => by subst q9; exact tK x3 (by omega) (by omega))) (by omega) (by omega) (by omega) (by omega) tk130 (zK_cg tk131 (by omega)) tk132 rfl

set_option maxRecDepth 100000 in
set_option maxHeartbeats 4000000 in
theorem L_X12_text_244 (zn : Bool) (d : Nat) {c : Nat × Nat} {mC : zM} {t9 : Int} (hN : 107 ≤ c.1) (hC : c.1 < z_RO) (sort : Int) (r_sort : -2147483648 ≤ sort ∧ sort ≤ 2147483647) (ht : 0 ≤ t9 ∧ t9 ≤ 999990000) (x2 : Int) (y29 : Int) (m0 : zM) (Q : Option Value → z_H → Prop) (K : ∀ (x3 : Int) (o4 : Option Value) (m : zM), zJ mC t9 99 m → 0 ≤ x3 ∧ x3 ≤ m 79 29 → zqT (m 92) x3 → 1 ≤ m 79 29 ∧ 0 ≤ sort ∧ sort ≤ 0 → m 79 6 = 0 ∧ m 79 7 = m0 79 7 ∧ m 79 53 = m0 79 53 → 0 < m 79 26 ∧ m 79 29 = y29 → zD9 (fun p i => 79 ≤ p ∧ p ≤ 105 ∧ p ≠ 80 ∧ (p ≠ 79 ∨ i ≠ 34)) m0 m → zK m (m 79 29) → zS9 t9 m → m 79 29 ≤ x3 → zW zn (d + 33) 288 c (354, [(some (.ref 79)), (some (.int (Int32.ofInt sort))), (some (.int (Int32.ofInt x2))), (some (.int (Int32.ofInt x3))), o4], [], zk c m) Q) :
    ∀ (w : Nat) (x3 : Int) (o4 : Option Value) (m : zM), zJ mC t9 99 m → 0 ≤ x3 ∧ x3 ≤ m 79 29 → zqT (m 92) x3 → 1 ≤ m 79 29 ∧ 0 ≤ sort ∧ sort ≤ 0 → m 79 6 = 0 ∧ m 79 7 = m0 79 7 ∧ m 79 53 = m0 79 53 → 0 < m 79 26 ∧ m 79 29 = y29 → zD9 (fun p i => 79 ≤ p ∧ p ≤ 105 ∧ p ≠ 80 ∧ (p ≠ 79 ∨ i ≠ 34)) m0 m → zK m (m 79 29) → zS9 t9 m → w = (10 - x3).toNat → zW zn (d + 33) 288 c (244, [(some (.ref 79)), (some (.int (Int32.ofInt sort))), (some (.int (Int32.ofInt x2))), (some (.int (Int32.ofInt x3))), o4], [], zk c m) Q := by
  intro w
  induction w using Nat.strongRecOn with | _ w ih => ?_
  intro x3 o4 m hIm i1 t i29 v6 v8 tD tK tI hw
  have f133 : (0 : Int) ≤ m 79 7 ∧ m 79 7 ≤ 4 := hIm.1 79 7
  have f134 : (0 : Int) ≤ m 79 26 ∧ m 79 26 ≤ 5 := hIm.1 79 26
  have f135 : (0 : Int) ≤ m 79 27 ∧ m 79 27 ≤ 6 := hIm.1 79 27
  have f136 : (0 : Int) ≤ m 79 28 ∧ m 79 28 ≤ 5 := hIm.1 79 28
  have f137 : (0 : Int) ≤ m 79 29 ∧ m 79 29 ≤ 6 := hIm.1 79 29
  have f138 : (0 : Int) ≤ m 79 30 ∧ m 79 30 ≤ 6 := hIm.1 79 30
  have f139 : (0 : Int) ≤ m 79 6 ∧ m 79 6 ≤ 240 := hIm.1 79 6
  have f140 : (0 : Int) ≤ m 79 53 ∧ m 79 53 ≤ 6 := hIm.1 79 53
  by_cases b141 : (m 79 29) ≤ x3
  · refine zW.step (st1 := (354, [(some (.ref 79)), (some (.int (Int32.ofInt sort))), (some (.int (Int32.ofInt x2))), (some (.int (Int32.ofInt x3))), o4], [], zk c m)) (st2 := (354, [(some (.ref 79)), (some (.int (Int32.ofInt sort))), (some (.int (Int32.ofInt x2))), (some (.int (Int32.ofInt x3))), o4], [], zk c m)) ⟨[zo, zo, zo, zt], _, rfl, ⟨trivial, trivial, (Nat.lt_of_lt_of_le (Nat.le_of_ble_eq_true rfl) hN), zbt ((zi_le rfl rfl (by unfold zR; omega) (by unfold zR; omega)).mpr b141), trivial⟩⟩ rfl ?_
    exact K x3 o4 m hIm (by omega) (by exact t) (by omega) (by omega) (by omega) tD (zK_cg tK (by omega)) tI (by omega)
  · refine zW.step (st1 := (252, [(some (.ref 79)), (some (.int (Int32.ofInt sort))), (some (.int (Int32.ofInt x2))), (some (.int (Int32.ofInt x3))), o4], [], zk c m)) (st2 := (252, [(some (.ref 79)), (some (.int (Int32.ofInt sort))), (some (.int (Int32.ofInt x2))), (some (.int (Int32.ofInt x3))), o4], [], zk c m)) ⟨[zo, zo, zo, zo], _, rfl, ⟨trivial, trivial, (Nat.lt_of_lt_of_le (Nat.le_of_ble_eq_true rfl) hN), zbf (fun q => b141 ((zi_le rfl rfl (by unfold zR; omega) (by unfold zR; omega)).mp q)), trivial⟩⟩ rfl ?_
    refine zW.step (st1 := (255, [(some (.ref 79)), (some (.int (Int32.ofInt sort))), (some (.int (Int32.ofInt x2))), (some (.int (Int32.ofInt x3))), (some (.int (Int32.ofInt 0)))], [], zk c m)) (st2 := (255, [(some (.ref 79)), (some (.int (Int32.ofInt sort))), (some (.int (Int32.ofInt x2))), (some (.int (Int32.ofInt x3))), (some (.int (Int32.ofInt 0)))], [], zk c m)) ⟨[zo, zo], _, rfl, ⟨trivial, trivial, trivial⟩⟩ rfl ?_
    refine L_X12_text_255 zn _ hN hC sort r_sort ht x2 x3 y29 m0 _ (fun x4_142 m_142 hIm_142 i1_142 t2_142 k4_142 i3_142 i29_142 v6_142 v8_142 tD_142 tK_142 tI_142 e_142 => ?_) _ 0 m hIm (by omega) (by exact t) (by omega) (by omega) (by omega) (by omega) (by omega) tD (zK_cg tK (by omega)) tI rfl
    have f143 : (0 : Int) ≤ m_142 79 7 ∧ m_142 79 7 ≤ 4 := hIm_142.1 79 7
    have f144 : (0 : Int) ≤ m_142 79 26 ∧ m_142 79 26 ≤ 5 := hIm_142.1 79 26
    have f145 : (0 : Int) ≤ m_142 79 27 ∧ m_142 79 27 ≤ 6 := hIm_142.1 79 27
    have f146 : (0 : Int) ≤ m_142 79 28 ∧ m_142 79 28 ≤ 5 := hIm_142.1 79 28
    have f147 : (0 : Int) ≤ m_142 79 29 ∧ m_142 79 29 ≤ 6 := hIm_142.1 79 29
    have f148 : (0 : Int) ≤ m_142 79 30 ∧ m_142 79 30 ≤ 6 := hIm_142.1 79 30
    have f149 : (0 : Int) ≤ m_142 79 6 ∧ m_142 79 6 ≤ 240 := hIm_142.1 79 6
    have f150 : (0 : Int) ≤ m_142 79 53 ∧ m_142 79 53 ≤ 6 := hIm_142.1 79 53
    have f151 : (-1 : Int) ≤ m_142 92 (((15 * x3) + 6).toNat) ∧ m_142 92 (((15 * x3) + 6).toNat) ≤ 9 := zv_6 hIm_142.1 zV_92 (c := x3) (by omega)
    by_cases b152 : (m_142 92 (((15 * x3) + 6).toNat)) = 6
    · refine zW.step (st1 := (309, [(some (.ref 79)), (some (.int (Int32.ofInt sort))), (some (.int (Int32.ofInt x2))), (some (.int (Int32.ofInt x3))), (some (.int (Int32.ofInt x4_142)))], [], zk c m_142)) (st2 := (309, [(some (.ref 79)), (some (.int (Int32.ofInt sort))), (some (.int (Int32.ofInt x2))), (some (.int (Int32.ofInt x3))), (some (.int (Int32.ofInt x4_142)))], [], zk c m_142)) ⟨[zo, zo, zo, zo, zo, zo, zo, (false, 0, none, zh0, some (.inl (0, 178, .inl (fun j => Int32.ofInt (m_142 92 j))))), zo, zo], _, rfl, ⟨trivial, (Nat.lt_of_lt_of_le (Nat.le_of_ble_eq_true rfl) hN), trivial, trivial, trivial, trivial, trivial, ⟨zk_ra c m_142 zA_92 (Nat.lt_of_lt_of_le (Nat.le_of_ble_eq_true rfl) hN), zi_in (zi_add (zi_mul (by decide : (Int8.ofInt 15).toInt32 = Int32.ofInt 15) rfl) (by decide : (Int8.ofInt 6).toInt32 = Int32.ofInt 6)) (by omega) (by omega) (by omega)⟩, trivial, zbf (fun q => q ((zi_eq ((zk_rd (f := m_142 92) (zi_add (zi_mul (by decide : (Int8.ofInt 15).toInt32 = Int32.ofInt 15) rfl) (by decide : (Int8.ofInt 6).toInt32 = Int32.ofInt 6)) (by unfold zR; omega)).trans rfl : Int32.ofInt (m_142 92 ((((Int8.ofInt 15).toInt32) * (Int32.ofInt x3)) + ((Int8.ofInt 6).toInt32)).toNatClampNeg) = Int32.ofInt (m_142 92 (((15 * x3) + 6).toNat))) (by decide : (Int8.ofInt 6).toInt32 = Int32.ofInt 6) (by unfold zR; omega) (⟨by decide, by decide⟩ : zR 6)).mpr b152)), trivial⟩⟩ rfl ?_
      obtain ⟨m153, hm153⟩ : ∃ q, q = zm_up m_142 92 (((15 * x3) + 6).toNat) (-1) := ⟨_, rfl⟩
      have hIm153 := zJ_upE hIm_142 hm153 (by unfold zOj zsen; omega) (zvw_6 zV_92 (c := x3) (by omega) (show (-1 : Int) ≤ (-1) ∧ (-1) ≤ 9 by omega))
      have em153 : m153 92 (((15 * x3) + 6).toNat) = (-1) := by rw [hm153]; exact zm_eq
      have f154 : m153 79 7 = m_142 79 7 := by rw [hm153]; exact zm_ne (Or.inl (by decide))
      have f155 : m153 79 26 = m_142 79 26 := by rw [hm153]; exact zm_ne (Or.inl (by decide))
      have f156 : m153 79 27 = m_142 79 27 := by rw [hm153]; exact zm_ne (Or.inl (by decide))
      have f157 : m153 79 28 = m_142 79 28 := by rw [hm153]; exact zm_ne (Or.inl (by decide))
      have f158 : m153 79 29 = m_142 79 29 := by rw [hm153]; exact zm_ne (Or.inl (by decide))
      have f159 : m153 79 30 = m_142 79 30 := by rw [hm153]; exact zm_ne (Or.inl (by decide))
      have f160 : m153 79 6 = m_142 79 6 := by rw [hm153]; exact zm_ne (Or.inl (by decide))
      have f161 : m153 79 53 = m_142 79 53 := by rw [hm153]; exact zm_ne (Or.inl (by decide))
      have f162 : m153 92 (15 * x3 + 4).toNat = m_142 92 (15 * x3 + 4).toNat := by rw [hm153]; exact zm_ne (by omega)
      have f163 : m153 79 48 = m_142 79 48 := by rw [hm153]; exact zm_ne (Or.inl (by decide))
      have tk164 : zD9 (fun p i => 79 ≤ p ∧ p ≤ 105 ∧ p ≠ 80 ∧ (p ≠ 79 ∨ i ≠ 34)) m0 m153 := by rw [hm153]; exact zD9_up tD_142 (by first | rfl | omega | (dsimp only; omega))
      have tk165 : zK m153 (m_142 79 29) := by rw [hm153]; exact zK_up tK_142 (by decide)
      have tk166 : zS9 t9 m153 := by rw [hm153]; exact zS9_up tI_142 (by decide)
      refine zW.step (st1 := (322, [(some (.ref 79)), (some (.int (Int32.ofInt sort))), (some (.int (Int32.ofInt x2))), (some (.int (Int32.ofInt x3))), (some (.int (Int32.ofInt x4_142)))], [], z_hup (zk c m_142) 92 (.inl (0, 178, .inl (upd (fun j => Int32.ofInt (m_142 92 j)) ((((Int8.ofInt 15).toInt32) * (Int32.ofInt x3)) + ((Int8.ofInt 6).toInt32)).toNatClampNeg (Int32.ofInt (-1))))))) (st2 := (322, [(some (.ref 79)), (some (.int (Int32.ofInt sort))), (some (.int (Int32.ofInt x2))), (some (.int (Int32.ofInt x3))), (some (.int (Int32.ofInt x4_142)))], [], zk c m153)) ⟨[zo, zo, zo, zo, zo, zo, zo, zo, (false, 0, none, zh0, some (.inl (0, 178, .inl (fun j => Int32.ofInt (m_142 92 j)))))], _, rfl, ⟨trivial, (Nat.lt_of_lt_of_le (Nat.le_of_ble_eq_true rfl) hN), trivial, trivial, trivial, trivial, trivial, trivial, ⟨zk_ra c m_142 zA_92 (Nat.lt_of_lt_of_le (Nat.le_of_ble_eq_true rfl) hN), zi_in (zi_add (zi_mul (by decide : (Int8.ofInt 15).toInt32 = Int32.ofInt 15) rfl) (by decide : (Int8.ofInt 6).toInt32 = Int32.ofInt 6)) (by omega) (by omega) (by omega)⟩, trivial⟩⟩ (z_steq rfl rfl ((zk_ias c m_142 zA_92 (zi_add (zi_mul (by decide : (Int8.ofInt 15).toInt32 = Int32.ofInt 15) rfl) (by decide : (Int8.ofInt 6).toInt32 = Int32.ofInt 6)) (by unfold zR; omega) rfl).trans (by rw [hm153]))) ?_
      obtain ⟨m167, hm167⟩ : ∃ q, q = zm_up m153 92 (((15 * x3) + 7).toNat) 1 := ⟨_, rfl⟩
      have hIm167 := zJ_upE hIm153 hm167 (by unfold zOj zsen; omega) (zvw_7 zV_92 (c := x3) (by omega) (show (0 : Int) ≤ 1 ∧ 1 ≤ 1 by omega))
      have em167 : m167 92 (((15 * x3) + 7).toNat) = 1 := by rw [hm167]; exact zm_eq
      have f168 : m167 79 7 = m153 79 7 := by rw [hm167]; exact zm_ne (Or.inl (by decide))
      have f169 : m167 79 26 = m153 79 26 := by rw [hm167]; exact zm_ne (Or.inl (by decide))
      have f170 : m167 79 27 = m153 79 27 := by rw [hm167]; exact zm_ne (Or.inl (by decide))
      have f171 : m167 79 28 = m153 79 28 := by rw [hm167]; exact zm_ne (Or.inl (by decide))
      have f172 : m167 79 29 = m153 79 29 := by rw [hm167]; exact zm_ne (Or.inl (by decide))
      have f173 : m167 79 30 = m153 79 30 := by rw [hm167]; exact zm_ne (Or.inl (by decide))
      have f174 : m167 79 6 = m153 79 6 := by rw [hm167]; exact zm_ne (Or.inl (by decide))
      have f175 : m167 79 53 = m153 79 53 := by rw [hm167]; exact zm_ne (Or.inl (by decide))
      have f176 : m167 92 (15 * x3 + 4).toNat = m153 92 (15 * x3 + 4).toNat := by rw [hm167]; exact zm_ne (by omega)
      have f177 : m167 79 48 = m153 79 48 := by rw [hm167]; exact zm_ne (Or.inl (by decide))
      have tk178 : zD9 (fun p i => 79 ≤ p ∧ p ≤ 105 ∧ p ≠ 80 ∧ (p ≠ 79 ∨ i ≠ 34)) m0 m167 := by rw [hm167]; exact zD9_up tk164 (by first | rfl | omega | (dsimp only; omega))
      have tk179 : zK m167 (m_142 79 29) := by rw [hm167]; exact zK_up tk165 (by decide)
      have tk180 : zS9 t9 m167 := by rw [hm167]; exact zS9_up tk166 (by decide)
      clear tk164 tk165 tk166
      refine zW.step (st1 := (335, [(some (.ref 79)), (some (.int (Int32.ofInt sort))), (some (.int (Int32.ofInt x2))), (some (.int (Int32.ofInt x3))), (some (.int (Int32.ofInt x4_142)))], [], z_hup (zk c m153) 92 (.inl (0, 178, .inl (upd (fun j => Int32.ofInt (m153 92 j)) ((((Int8.ofInt 15).toInt32) * (Int32.ofInt x3)) + ((Int8.ofInt 7).toInt32)).toNatClampNeg (Int32.ofInt 1)))))) (st2 := (335, [(some (.ref 79)), (some (.int (Int32.ofInt sort))), (some (.int (Int32.ofInt x2))), (some (.int (Int32.ofInt x3))), (some (.int (Int32.ofInt x4_142)))], [], zk c m167)) ⟨[zo, zo, zo, zo, zo, zo, zo, zo, (false, 0, none, zh0, some (.inl (0, 178, .inl (fun j => Int32.ofInt (m153 92 j)))))], _, rfl, ⟨trivial, (Nat.lt_of_lt_of_le (Nat.le_of_ble_eq_true rfl) hN), trivial, trivial, trivial, trivial, trivial, trivial, ⟨zk_ra c m153 zA_92 (Nat.lt_of_lt_of_le (Nat.le_of_ble_eq_true rfl) hN), zi_in (zi_add (zi_mul (by decide : (Int8.ofInt 15).toInt32 = Int32.ofInt 15) rfl) (by decide : (Int8.ofInt 7).toInt32 = Int32.ofInt 7)) (by omega) (by omega) (by omega)⟩, trivial⟩⟩ (z_steq rfl rfl ((zk_ias c m153 zA_92 (zi_add (zi_mul (by decide : (Int8.ofInt 15).toInt32 = Int32.ofInt 15) rfl) (by decide : (Int8.ofInt 7).toInt32 = Int32.ofInt 7)) (by unfold zR; omega) rfl).trans (by rw [hm167]))) ?_
      clear em153
      obtain ⟨m181, hm181⟩ : ∃ q, q = zm_up m167 92 (((15 * x3) + 14).toNat) (-1) := ⟨_, rfl⟩
      have hIm181 := zJ_upE hIm167 hm181 (by unfold zOj zsen; omega) (zvw_14n zV_92 (c := x3) (by omega) (Or.inl rfl))
      have em181 : m181 92 (((15 * x3) + 14).toNat) = (-1) := by rw [hm181]; exact zm_eq
      have f182 : m181 79 7 = m167 79 7 := by rw [hm181]; exact zm_ne (Or.inl (by decide))
      have f183 : m181 79 26 = m167 79 26 := by rw [hm181]; exact zm_ne (Or.inl (by decide))
      have f184 : m181 79 27 = m167 79 27 := by rw [hm181]; exact zm_ne (Or.inl (by decide))
      have f185 : m181 79 28 = m167 79 28 := by rw [hm181]; exact zm_ne (Or.inl (by decide))
      have f186 : m181 79 29 = m167 79 29 := by rw [hm181]; exact zm_ne (Or.inl (by decide))
      have f187 : m181 79 30 = m167 79 30 := by rw [hm181]; exact zm_ne (Or.inl (by decide))
      have f188 : m181 79 6 = m167 79 6 := by rw [hm181]; exact zm_ne (Or.inl (by decide))
      have f189 : m181 79 53 = m167 79 53 := by rw [hm181]; exact zm_ne (Or.inl (by decide))
      have f190 : m181 92 (15 * x3 + 4).toNat = m167 92 (15 * x3 + 4).toNat := by rw [hm181]; exact zm_ne (by omega)
      have f191 : m181 79 48 = m167 79 48 := by rw [hm181]; exact zm_ne (Or.inl (by decide))
      have tk192 : zD9 (fun p i => 79 ≤ p ∧ p ≤ 105 ∧ p ≠ 80 ∧ (p ≠ 79 ∨ i ≠ 34)) m0 m181 := by rw [hm181]; exact zD9_up tk178 (by first | rfl | omega | (dsimp only; omega))
      have tk193 : zK m181 (m_142 79 29) := by rw [hm181]; exact zK_up tk179 (by decide)
      have tk194 : zS9 t9 m181 := by rw [hm181]; exact zS9_up tk180 (by decide)
      clear tk178 tk179 tk180
      refine zW.step (st1 := (348, [(some (.ref 79)), (some (.int (Int32.ofInt sort))), (some (.int (Int32.ofInt x2))), (some (.int (Int32.ofInt x3))), (some (.int (Int32.ofInt x4_142)))], [], z_hup (zk c m167) 92 (.inl (0, 178, .inl (upd (fun j => Int32.ofInt (m167 92 j)) ((((Int8.ofInt 15).toInt32) * (Int32.ofInt x3)) + ((Int8.ofInt 14).toInt32)).toNatClampNeg (Int32.ofInt (-1))))))) (st2 := (348, [(some (.ref 79)), (some (.int (Int32.ofInt sort))), (some (.int (Int32.ofInt x2))), (some (.int (Int32.ofInt x3))), (some (.int (Int32.ofInt x4_142)))], [], zk c m181)) ⟨[zo, zo, zo, zo, zo, zo, zo, zo, (false, 0, none, zh0, some (.inl (0, 178, .inl (fun j => Int32.ofInt (m167 92 j)))))], _, rfl, ⟨trivial, (Nat.lt_of_lt_of_le (Nat.le_of_ble_eq_true rfl) hN), trivial, trivial, trivial, trivial, trivial, trivial, ⟨zk_ra c m167 zA_92 (Nat.lt_of_lt_of_le (Nat.le_of_ble_eq_true rfl) hN), zi_in (zi_add (zi_mul (by decide : (Int8.ofInt 15).toInt32 = Int32.ofInt 15) rfl) (by decide : (Int8.ofInt 14).toInt32 = Int32.ofInt 14)) (by omega) (by omega) (by omega)⟩, trivial⟩⟩ (z_steq rfl rfl ((zk_ias c m167 zA_92 (zi_add (zi_mul (by decide : (Int8.ofInt 15).toInt32 = Int32.ofInt 15) rfl) (by decide : (Int8.ofInt 14).toInt32 = Int32.ofInt 14)) (by unfold zR; omega) rfl).trans (by rw [hm181]))) ?_
      clear em167
      refine zW.step (st1 := (244, [(some (.ref 79)), (some (.int (Int32.ofInt sort))), (some (.int (Int32.ofInt x2))), (some (.int ((Int32.ofInt x3) + Int32.ofInt 1))), (some (.int (Int32.ofInt x4_142)))], [], zk c m181)) (st2 := (244, [(some (.ref 79)), (some (.int (Int32.ofInt sort))), (some (.int (Int32.ofInt x2))), (some (.int (Int32.ofInt (x3 + 1)))), (some (.int (Int32.ofInt x4_142)))], [], zk c m181)) ⟨[zo, zo], _, rfl, ⟨trivial, trivial, trivial⟩⟩ (z_steq (z_c1 rfl (z_c1 rfl (z_c1 rfl (z_c1 (z_si (zi_add rfl rfl)) rfl)))) rfl rfl) ?_
      exact ih _ (by omega) (x3 + 1) (some (.int (Int32.ofInt x4_142))) m181 hIm181 (by omega) (by exact zqT_n (zqT_eq t2_142 hm153 (by unfold zsen; omega)) hm167 hm181 (by omega) (by omega)) (by omega) (by omega) (by omega) tk192 (zK_cg tk193 (by omega)) tk194 rfl
    · refine zW.step (st1 := (322, [(some (.ref 79)), (some (.int (Int32.ofInt sort))), (some (.int (Int32.ofInt x2))), (some (.int (Int32.ofInt x3))), (some (.int (Int32.ofInt x4_142)))], [], zk c m_142)) (st2 := (322, [(some (.ref 79)), (some (.int (Int32.ofInt sort))), (some (.int (Int32.ofInt x2))), (some (.int (Int32.ofInt x3))), (some (.int (Int32.ofInt x4_142)))], [], zk c m_142)) ⟨[zo, zo, zo, zo, zo, zo, zo, (false, 0, none, zh0, some (.inl (0, 178, .inl (fun j => Int32.ofInt (m_142 92 j))))), zo, zt], _, rfl, ⟨trivial, (Nat.lt_of_lt_of_le (Nat.le_of_ble_eq_true rfl) hN), trivial, trivial, trivial, trivial, trivial, ⟨zk_ra c m_142 zA_92 (Nat.lt_of_lt_of_le (Nat.le_of_ble_eq_true rfl) hN), zi_in (zi_add (zi_mul (by decide : (Int8.ofInt 15).toInt32 = Int32.ofInt 15) rfl) (by decide : (Int8.ofInt 6).toInt32 = Int32.ofInt 6)) (by omega) (by omega) (by omega)⟩, trivial, zbt (fun q => b152 ((zi_eq ((zk_rd (f := m_142 92) (zi_add (zi_mul (by decide : (Int8.ofInt 15).toInt32 = Int32.ofInt 15) rfl) (by decide : (Int8.ofInt 6).toInt32 = Int32.ofInt 6)) (by unfold zR; omega)).trans rfl : Int32.ofInt (m_142 92 ((((Int8.ofInt 15).toInt32) * (Int32.ofInt x3)) + ((Int8.ofInt 6).toInt32)).toNatClampNeg) = Int32.ofInt (m_142 92 (((15 * x3) + 6).toNat))) (by decide : (Int8.ofInt 6).toInt32 = Int32.ofInt 6) (by unfold zR; omega) (⟨by decide, by decide⟩ : zR 6)).mp q)), trivial⟩⟩ rfl ?_
      obtain ⟨m195, hm195⟩ : ∃ q, q = zm_up m_142 92 (((15 * x3) + 7).toNat) 1 := ⟨_, rfl⟩
      have hIm195 := zJ_upE hIm_142 hm195 (by unfold zOj zsen; omega) (zvw_7 zV_92 (c := x3) (by omega) (show (0 : Int) ≤ 1 ∧ 1 ≤ 1 by omega))
      have em195 : m195 92 (((15 * x3) + 7).toNat) = 1 := by rw [hm195]; exact zm_eq
      have f196 : m195 92 (((15 * x3) + 6).toNat) = m_142 92 (((15 * x3) + 6).toNat) := by rw [hm195]; exact zm_ne (by omega)
      have f197 : m195 79 7 = m_142 79 7 := by rw [hm195]; exact zm_ne (Or.inl (by decide))
      have f198 : m195 79 26 = m_142 79 26 := by rw [hm195]; exact zm_ne (Or.inl (by decide))
      have f199 : m195 79 27 = m_142 79 27 := by rw [hm195]; exact zm_ne (Or.inl (by decide))
      have f200 : m195 79 28 = m_142 79 28 := by rw [hm195]; exact zm_ne (Or.inl (by decide))
      have f201 : m195 79 29 = m_142 79 29 := by rw [hm195]; exact zm_ne (Or.inl (by decide))
      have f202 : m195 79 30 = m_142 79 30 := by rw [hm195]; exact zm_ne (Or.inl (by decide))
      have f203 : m195 79 6 = m_142 79 6 := by rw [hm195]; exact zm_ne (Or.inl (by decide))
      have f204 : m195 79 53 = m_142 79 53 := by rw [hm195]; exact zm_ne (Or.inl (by decide))
      have f205 : m195 92 (15 * x3 + 4).toNat = m_142 92 (15 * x3 + 4).toNat := by rw [hm195]; exact zm_ne (by omega)
      have f206 : m195 79 48 = m_142 79 48 := by rw [hm195]; exact zm_ne (Or.inl (by decide))
      have tk207 : zD9 (fun p i => 79 ≤ p ∧ p ≤ 105 ∧ p ≠ 80 ∧ (p ≠ 79 ∨ i ≠ 34)) m0 m195 := by rw [hm195]; exact zD9_up tD_142 (by first | rfl | omega | (dsimp only; omega))
      have tk208 : zK m195 (m_142 79 29) := by rw [hm195]; exact zK_up tK_142 (by decide)
      have tk209 : zS9 t9 m195 := by rw [hm195]; exact zS9_up tI_142 (by decide)
      refine zW.step (st1 := (335, [(some (.ref 79)), (some (.int (Int32.ofInt sort))), (some (.int (Int32.ofInt x2))), (some (.int (Int32.ofInt x3))), (some (.int (Int32.ofInt x4_142)))], [], z_hup (zk c m_142) 92 (.inl (0, 178, .inl (upd (fun j => Int32.ofInt (m_142 92 j)) ((((Int8.ofInt 15).toInt32) * (Int32.ofInt x3)) + ((Int8.ofInt 7).toInt32)).toNatClampNeg (Int32.ofInt 1)))))) (st2 := (335, [(some (.ref 79)), (some (.int (Int32.ofInt sort))), (some (.int (Int32.ofInt x2))), (some (.int (Int32.ofInt x3))), (some (.int (Int32.ofInt x4_142)))], [], zk c m195)) ⟨[zo, zo, zo, zo, zo, zo, zo, zo, (false, 0, none, zh0, some (.inl (0, 178, .inl (fun j => Int32.ofInt (m_142 92 j)))))], _, rfl, ⟨trivial, (Nat.lt_of_lt_of_le (Nat.le_of_ble_eq_true rfl) hN), trivial, trivial, trivial, trivial, trivial, trivial, ⟨zk_ra c m_142 zA_92 (Nat.lt_of_lt_of_le (Nat.le_of_ble_eq_true rfl) hN), zi_in (zi_add (zi_mul (by decide : (Int8.ofInt 15).toInt32 = Int32.ofInt 15) rfl) (by decide : (Int8.ofInt 7).toInt32 = Int32.ofInt 7)) (by omega) (by omega) (by omega)⟩, trivial⟩⟩ (z_steq rfl rfl ((zk_ias c m_142 zA_92 (zi_add (zi_mul (by decide : (Int8.ofInt 15).toInt32 = Int32.ofInt 15) rfl) (by decide : (Int8.ofInt 7).toInt32 = Int32.ofInt 7)) (by unfold zR; omega) rfl).trans (by rw [hm195]))) ?_
      obtain ⟨m210, hm210⟩ : ∃ q, q = zm_up m195 92 (((15 * x3) + 14).toNat) (-1) := ⟨_, rfl⟩
      have hIm210 := zJ_upE hIm195 hm210 (by unfold zOj zsen; omega) (zvw_14n zV_92 (c := x3) (by omega) (Or.inl rfl))
      have em210 : m210 92 (((15 * x3) + 14).toNat) = (-1) := by rw [hm210]; exact zm_eq
      have f211 : m210 92 (((15 * x3) + 6).toNat) = m195 92 (((15 * x3) + 6).toNat) := by rw [hm210]; exact zm_ne (by omega)
      have f212 : m210 79 7 = m195 79 7 := by rw [hm210]; exact zm_ne (Or.inl (by decide))
      have f213 : m210 79 26 = m195 79 26 := by rw [hm210]; exact zm_ne (Or.inl (by decide))
      have f214 : m210 79 27 = m195 79 27 := by rw [hm210]; exact zm_ne (Or.inl (by decide))
      have f215 : m210 79 28 = m195 79 28 := by rw [hm210]; exact zm_ne (Or.inl (by decide))
      have f216 : m210 79 29 = m195 79 29 := by rw [hm210]; exact zm_ne (Or.inl (by decide))
      have f217 : m210 79 30 = m195 79 30 := by rw [hm210]; exact zm_ne (Or.inl (by decide))
      have f218 : m210 79 6 = m195 79 6 := by rw [hm210]; exact zm_ne (Or.inl (by decide))
      have f219 : m210 79 53 = m195 79 53 := by rw [hm210]; exact zm_ne (Or.inl (by decide))
      have f220 : m210 92 (15 * x3 + 4).toNat = m195 92 (15 * x3 + 4).toNat := by rw [hm210]; exact zm_ne (by omega)
      have f221 : m210 79 48 = m195 79 48 := by rw [hm210]; exact zm_ne (Or.inl (by decide))
      have tk222 : zD9 (fun p i => 79 ≤ p ∧ p ≤ 105 ∧ p ≠ 80 ∧ (p ≠ 79 ∨ i ≠ 34)) m0 m210 := by rw [hm210]; exact zD9_up tk207 (by first | rfl | omega | (dsimp only; omega))
      have tk223 : zK m210 (m_142 79 29) := by rw [hm210]; exact zK_up tk208 (by decide)
      have tk224 : zS9 t9 m210 := by rw [hm210]; exact zS9_up tk209 (by decide)
      clear tk207 tk208 tk209
      refine zW.step (st1 := (348, [(some (.ref 79)), (some (.int (Int32.ofInt sort))), (some (.int (Int32.ofInt x2))), (some (.int (Int32.ofInt x3))), (some (.int (Int32.ofInt x4_142)))], [], z_hup (zk c m195) 92 (.inl (0, 178, .inl (upd (fun j => Int32.ofInt (m195 92 j)) ((((Int8.ofInt 15).toInt32) * (Int32.ofInt x3)) + ((Int8.ofInt 14).toInt32)).toNatClampNeg (Int32.ofInt (-1))))))) (st2 := (348, [(some (.ref 79)), (some (.int (Int32.ofInt sort))), (some (.int (Int32.ofInt x2))), (some (.int (Int32.ofInt x3))), (some (.int (Int32.ofInt x4_142)))], [], zk c m210)) ⟨[zo, zo, zo, zo, zo, zo, zo, zo, (false, 0, none, zh0, some (.inl (0, 178, .inl (fun j => Int32.ofInt (m195 92 j)))))], _, rfl, ⟨trivial, (Nat.lt_of_lt_of_le (Nat.le_of_ble_eq_true rfl) hN), trivial, trivial, trivial, trivial, trivial, trivial, ⟨zk_ra c m195 zA_92 (Nat.lt_of_lt_of_le (Nat.le_of_ble_eq_true rfl) hN), zi_in (zi_add (zi_mul (by decide : (Int8.ofInt 15).toInt32 = Int32.ofInt 15) rfl) (by decide : (Int8.ofInt 14).toInt32 = Int32.ofInt 14)) (by omega) (by omega) (by omega)⟩, trivial⟩⟩ (z_steq rfl rfl ((zk_ias c m195 zA_92 (zi_add (zi_mul (by decide : (Int8.ofInt 15).toInt32 = Int32.ofInt 15) rfl) (by decide : (Int8.ofInt 14).toInt32 = Int32.ofInt 14)) (by unfold zR; omega) rfl).trans (by rw [hm210]))) ?_
      clear em195
      refine zW.step (st1 := (244, [(some (.ref 79)), (some (.int (Int32.ofInt sort))), (some (.int (Int32.ofInt x2))), (some (.int ((Int32.ofInt x3) + Int32.ofInt 1))), (some (.int (Int32.ofInt x4_142)))], [], zk c m210)) (st2 := (244, [(some (.ref 79)), (some (.int (Int32.ofInt sort))), (some (.int (Int32.ofInt x2))), (some (.int (Int32.ofInt (x3 + 1)))), (some (.int (Int32.ofInt x4_142)))], [], zk c m210)) ⟨[zo, zo], _, rfl, ⟨trivial, trivial, trivial⟩⟩ (z_steq (z_c1 rfl (z_c1 rfl (z_c1 rfl (z_c1 (z_si (zi_add rfl rfl)) rfl)))) rfl rfl) ?_
      exact ih _ (by omega) (x3 + 1) (some (.int (Int32.ofInt x4_142))) m210 hIm210 (by omega) (by exact zqT_n t2_142 hm195 hm210 (by omega) (by omega)) (by omega) (by omega) (by omega) tk222 (zK_cg tk223 (by omega)) tk224 rfl

set_option maxRecDepth 100000 in
set_option maxHeartbeats 4000000 in
theorem L_X12_text_356 (zn : Bool) (d : Nat) {c : Nat × Nat} {mC : zM} {t9 : Int} (hN : 107 ≤ c.1) (hC : c.1 < z_RO) (sort : Int) (r_sort : -2147483648 ≤ sort ∧ sort ≤ 2147483647) (ht : 0 ≤ t9 ∧ t9 ≤ 999990000) (x2 : Int) (y29 : Int) (m0 : zM) (Q : Option Value → z_H → Prop) (K : ∀ (x3 : Int) (o4 : Option Value) (m : zM), zJ mC t9 99 m → 0 ≤ x3 ∧ x3 ≤ 6 → zqP (m 92) 0 → 1 ≤ m 79 29 ∧ 0 ≤ sort ∧ sort ≤ 0 → m 79 6 = 0 ∧ m 79 7 = m0 79 7 ∧ m 79 53 = m0 79 53 → 0 < m 79 26 ∧ m 79 29 = y29 → zD9 (fun p i => 79 ≤ p ∧ p ≤ 105 ∧ p ≠ 80 ∧ (p ≠ 79 ∨ i ≠ 34)) m0 m → zS9 t9 m → zW zn (d + 33) 288 c (423, [(some (.ref 79)), (some (.int (Int32.ofInt sort))), (some (.int (Int32.ofInt x2))), (some (.int (Int32.ofInt x3))), o4], [], zk c m) Q) :
    ∀ (w : Nat) (x3 : Int) (o4 : Option Value) (m : zM), zJ mC t9 99 m → 0 ≤ x3 ∧ x3 ≤ 6 → zqP (m 92) 0 → 1 ≤ m 79 29 ∧ 0 ≤ sort ∧ sort ≤ 0 → m 79 6 = 0 ∧ m 79 7 = m0 79 7 ∧ m 79 53 = m0 79 53 → 0 < m 79 26 ∧ m 79 29 = y29 → zD9 (fun p i => 79 ≤ p ∧ p ≤ 105 ∧ p ≠ 80 ∧ (p ≠ 79 ∨ i ≠ 34)) m0 m → zS9 t9 m → w = (6 - x3).toNat → zW zn (d + 33) 288 c (356, [(some (.ref 79)), (some (.int (Int32.ofInt sort))), (some (.int (Int32.ofInt x2))), (some (.int (Int32.ofInt x3))), o4], [], zk c m) Q := by
  intro w
  induction w using Nat.strongRecOn with | _ w ih => ?_
  intro x3 o4 m hIm i1 p3 i29 v6 v8 tD tI hw
  have f225 : (0 : Int) ≤ m 79 7 ∧ m 79 7 ≤ 4 := hIm.1 79 7
  have f226 : (0 : Int) ≤ m 79 26 ∧ m 79 26 ≤ 5 := hIm.1 79 26
  have f227 : (0 : Int) ≤ m 79 27 ∧ m 79 27 ≤ 6 := hIm.1 79 27
  have f228 : (0 : Int) ≤ m 79 28 ∧ m 79 28 ≤ 5 := hIm.1 79 28
  have f229 : (0 : Int) ≤ m 79 29 ∧ m 79 29 ≤ 6 := hIm.1 79 29
  have f230 : (0 : Int) ≤ m 79 30 ∧ m 79 30 ≤ 6 := hIm.1 79 30
  have f231 : (0 : Int) ≤ m 79 6 ∧ m 79 6 ≤ 240 := hIm.1 79 6
  have f232 : (0 : Int) ≤ m 79 53 ∧ m 79 53 ≤ 6 := hIm.1 79 53
  by_cases b233 : (m 79 27) ≤ x3
  · refine zW.step (st1 := (423, [(some (.ref 79)), (some (.int (Int32.ofInt sort))), (some (.int (Int32.ofInt x2))), (some (.int (Int32.ofInt x3))), o4], [], zk c m)) (st2 := (423, [(some (.ref 79)), (some (.int (Int32.ofInt sort))), (some (.int (Int32.ofInt x2))), (some (.int (Int32.ofInt x3))), o4], [], zk c m)) ⟨[zo, zo, zo, zt], _, rfl, ⟨trivial, trivial, (Nat.lt_of_lt_of_le (Nat.le_of_ble_eq_true rfl) hN), zbt ((zi_le rfl rfl (by unfold zR; omega) (by unfold zR; omega)).mpr b233), trivial⟩⟩ rfl ?_
    exact K x3 o4 m hIm (by omega) (by exact p3) (by omega) (by omega) (by omega) tD tI
  · refine zW.step (st1 := (364, [(some (.ref 79)), (some (.int (Int32.ofInt sort))), (some (.int (Int32.ofInt x2))), (some (.int (Int32.ofInt x3))), o4], [], zk c m)) (st2 := (364, [(some (.ref 79)), (some (.int (Int32.ofInt sort))), (some (.int (Int32.ofInt x2))), (some (.int (Int32.ofInt x3))), o4], [], zk c m)) ⟨[zo, zo, zo, zo], _, rfl, ⟨trivial, trivial, (Nat.lt_of_lt_of_le (Nat.le_of_ble_eq_true rfl) hN), zbf (fun q => b233 ((zi_le rfl rfl (by unfold zR; omega) (by unfold zR; omega)).mp q)), trivial⟩⟩ rfl ?_
    have f234 : (-2147483648 : Int) ≤ m 87 ((2 * x3).toNat) ∧ m 87 ((2 * x3).toNat) ≤ 2147483647 := hIm.1 87 ((2 * x3).toNat)
    obtain ⟨m235, hm235⟩ : ∃ q, q = zm_up m 92 ((150 + (4 * x3)).toNat) (m 87 ((2 * x3).toNat)) := ⟨_, rfl⟩
    have hIm235 := zJ_upE hIm hm235 (by unfold zOj zsen; omega) (zvw_p0 zV_92 (c := x3) (by omega) (show (-2147483648 : Int) ≤ (m 87 ((2 * x3).toNat)) ∧ (m 87 ((2 * x3).toNat)) ≤ 2147483647 by omega))
    have em235 : m235 92 ((150 + (4 * x3)).toNat) = (m 87 ((2 * x3).toNat)) := by rw [hm235]; exact zm_eq
    have f236 : m235 79 27 = m 79 27 := by rw [hm235]; exact zm_ne (Or.inl (by decide))
    have f237 : m235 79 7 = m 79 7 := by rw [hm235]; exact zm_ne (Or.inl (by decide))
    have f238 : m235 79 26 = m 79 26 := by rw [hm235]; exact zm_ne (Or.inl (by decide))
    have f239 : m235 79 28 = m 79 28 := by rw [hm235]; exact zm_ne (Or.inl (by decide))
    have f240 : m235 79 29 = m 79 29 := by rw [hm235]; exact zm_ne (Or.inl (by decide))
    have f241 : m235 79 30 = m 79 30 := by rw [hm235]; exact zm_ne (Or.inl (by decide))
    have f242 : m235 79 6 = m 79 6 := by rw [hm235]; exact zm_ne (Or.inl (by decide))
    have f243 : m235 79 53 = m 79 53 := by rw [hm235]; exact zm_ne (Or.inl (by decide))
    have f244 : m235 79 48 = m 79 48 := by rw [hm235]; exact zm_ne (Or.inl (by decide))
    have tk245 : zD9 (fun p i => 79 ≤ p ∧ p ≤ 105 ∧ p ≠ 80 ∧ (p ≠ 79 ∨ i ≠ 34)) m0 m235 := by rw [hm235]; exact zD9_up tD (by first | rfl | omega | (dsimp only; omega))
    have tk246 : zS9 t9 m235 := by rw [hm235]; exact zS9_up tI (by decide)
    refine zW.step (st1 := (388, [(some (.ref 79)), (some (.int (Int32.ofInt sort))), (some (.int (Int32.ofInt x2))), (some (.int (Int32.ofInt x3))), (some (.int (((Int16.ofInt 150).toInt32) + ((Int32.ofInt 4) * (Int32.ofInt x3)))))], [], z_hup (zk c m) 92 (.inl (0, 178, .inl (upd (fun j => Int32.ofInt (m 92 j)) (((Int16.ofInt 150).toInt32) + ((Int32.ofInt 4) * (Int32.ofInt x3))).toNatClampNeg (Int32.ofInt (m 87 ((Int32.ofInt 2) * (Int32.ofInt x3)).toNatClampNeg))))))) (st2 := (388, [(some (.ref 79)), (some (.int (Int32.ofInt sort))), (some (.int (Int32.ofInt x2))), (some (.int (Int32.ofInt x3))), (some (.int (Int32.ofInt (150 + (4 * x3)))))], [], zk c m235)) ⟨[zo, zo, zo, zo, zo, zo, zo, zo, zo, zo, zo, zo, zo, zo, (false, 0, none, zh0, some (.inl (0, 12, .inl (fun j => Int32.ofInt (m 87 j))))), (false, 0, none, zh0, some (.inl (0, 178, .inl (fun j => Int32.ofInt (m 92 j)))))], _, rfl, ⟨trivial, trivial, trivial, trivial, trivial, trivial, trivial, (Nat.lt_of_lt_of_le (Nat.le_of_ble_eq_true rfl) hN), trivial, trivial, (Nat.lt_of_lt_of_le (Nat.le_of_ble_eq_true rfl) hN), trivial, trivial, trivial, ⟨zk_ra c m zA_87 (Nat.lt_of_lt_of_le (Nat.le_of_ble_eq_true rfl) hN), zi_in (zi_mul rfl rfl) (by omega) (by omega) (by omega)⟩, ⟨zk_ra c m zA_92 (Nat.lt_of_lt_of_le (Nat.le_of_ble_eq_true rfl) hN), zi_in (zi_add (by decide : (Int16.ofInt 150).toInt32 = Int32.ofInt 150) (zi_mul rfl rfl)) (by omega) (by omega) (by omega)⟩, trivial⟩⟩ (z_steq (z_c1 rfl (z_c1 rfl (z_c1 rfl (z_c1 rfl (z_c1 (z_si (zi_add (by decide : (Int16.ofInt 150).toInt32 = Int32.ofInt 150) (zi_mul rfl rfl))) rfl))))) rfl ((zk_ias c m zA_92 (zi_add (by decide : (Int16.ofInt 150).toInt32 = Int32.ofInt 150) (zi_mul rfl rfl)) (by unfold zR; omega) ((zk_rd (f := m 87) (zi_mul rfl rfl) (by unfold zR; omega)).trans rfl : Int32.ofInt (m 87 ((Int32.ofInt 2) * (Int32.ofInt x3)).toNatClampNeg) = Int32.ofInt (m 87 ((2 * x3).toNat)))).trans (by rw [hm235]))) ?_
    clear f234 em235
    have f247 : (-2147483648 : Int) ≤ m235 87 (((2 * x3) + 1).toNat) ∧ m235 87 (((2 * x3) + 1).toNat) ≤ 2147483647 := hIm235.1 87 (((2 * x3) + 1).toNat)
    obtain ⟨m248, hm248⟩ : ∃ q, q = zm_up m235 92 (((150 + (4 * x3)) + 1).toNat) (m235 87 (((2 * x3) + 1).toNat)) := ⟨_, rfl⟩
    have hIm248 := zJ_upE hIm235 hm248 (by unfold zOj zsen; omega) (zvw_p1 zV_92 (c := x3) (by omega) (show (-2147483648 : Int) ≤ (m235 87 (((2 * x3) + 1).toNat)) ∧ (m235 87 (((2 * x3) + 1).toNat)) ≤ 2147483647 by omega))
    have em248 : m248 92 (((150 + (4 * x3)) + 1).toNat) = (m235 87 (((2 * x3) + 1).toNat)) := by rw [hm248]; exact zm_eq
    have f249 : m248 79 27 = m235 79 27 := by rw [hm248]; exact zm_ne (Or.inl (by decide))
    have f250 : m248 79 7 = m235 79 7 := by rw [hm248]; exact zm_ne (Or.inl (by decide))
    have f251 : m248 79 26 = m235 79 26 := by rw [hm248]; exact zm_ne (Or.inl (by decide))
    have f252 : m248 79 28 = m235 79 28 := by rw [hm248]; exact zm_ne (Or.inl (by decide))
    have f253 : m248 79 29 = m235 79 29 := by rw [hm248]; exact zm_ne (Or.inl (by decide))
    have f254 : m248 79 30 = m235 79 30 := by rw [hm248]; exact zm_ne (Or.inl (by decide))
    have f255 : m248 79 6 = m235 79 6 := by rw [hm248]; exact zm_ne (Or.inl (by decide))
    have f256 : m248 79 53 = m235 79 53 := by rw [hm248]; exact zm_ne (Or.inl (by decide))
    have f257 : m248 79 48 = m235 79 48 := by rw [hm248]; exact zm_ne (Or.inl (by decide))
    have tk258 : zD9 (fun p i => 79 ≤ p ∧ p ≤ 105 ∧ p ≠ 80 ∧ (p ≠ 79 ∨ i ≠ 34)) m0 m248 := by rw [hm248]; exact zD9_up tk245 (by first | rfl | omega | (dsimp only; omega))
    have tk259 : zS9 t9 m248 := by rw [hm248]; exact zS9_up tk246 (by decide)
    clear tk245 tk246
    refine zW.step (st1 := (407, [(some (.ref 79)), (some (.int (Int32.ofInt sort))), (some (.int (Int32.ofInt x2))), (some (.int (Int32.ofInt x3))), (some (.int (Int32.ofInt (150 + (4 * x3)))))], [], z_hup (zk c m235) 92 (.inl (0, 178, .inl (upd (fun j => Int32.ofInt (m235 92 j)) ((Int32.ofInt (150 + (4 * x3))) + (Int32.ofInt 1)).toNatClampNeg (Int32.ofInt (m235 87 (((Int32.ofInt 2) * (Int32.ofInt x3)) + (Int32.ofInt 1)).toNatClampNeg))))))) (st2 := (407, [(some (.ref 79)), (some (.int (Int32.ofInt sort))), (some (.int (Int32.ofInt x2))), (some (.int (Int32.ofInt x3))), (some (.int (Int32.ofInt (150 + (4 * x3)))))], [], zk c m248)) ⟨[zo, zo, zo, zo, zo, zo, zo, zo, zo, zo, zo, zo, (false, 0, none, zh0, some (.inl (0, 12, .inl (fun j => Int32.ofInt (m235 87 j))))), (false, 0, none, zh0, some (.inl (0, 178, .inl (fun j => Int32.ofInt (m235 92 j)))))], _, rfl, ⟨trivial, (Nat.lt_of_lt_of_le (Nat.le_of_ble_eq_true rfl) hN), trivial, trivial, trivial, trivial, (Nat.lt_of_lt_of_le (Nat.le_of_ble_eq_true rfl) hN), trivial, trivial, trivial, trivial, trivial, ⟨zk_ra c m235 zA_87 (Nat.lt_of_lt_of_le (Nat.le_of_ble_eq_true rfl) hN), zi_in (zi_add (zi_mul rfl rfl) rfl) (by omega) (by omega) (by omega)⟩, ⟨zk_ra c m235 zA_92 (Nat.lt_of_lt_of_le (Nat.le_of_ble_eq_true rfl) hN), zi_in (zi_add rfl rfl) (by omega) (by omega) (by omega)⟩, trivial⟩⟩ (z_steq rfl rfl ((zk_ias c m235 zA_92 (zi_add rfl rfl) (by unfold zR; omega) ((zk_rd (f := m235 87) (zi_add (zi_mul rfl rfl) rfl) (by unfold zR; omega)).trans rfl : Int32.ofInt (m235 87 (((Int32.ofInt 2) * (Int32.ofInt x3)) + (Int32.ofInt 1)).toNatClampNeg) = Int32.ofInt (m235 87 (((2 * x3) + 1).toNat)))).trans (by rw [hm248]))) ?_
    clear f247 em248
    obtain ⟨m260, hm260⟩ : ∃ q, q = zm_up m248 92 (((150 + (4 * x3)) + 3).toNat) (-1) := ⟨_, rfl⟩
    have hIm260 := zJ_upE hIm248 hm260 (by unfold zOj zsen; omega) (zvw_p3 zV_92 (c := x3) (by omega) (show (-1 : Int) ≤ (-1) ∧ (-1) ≤ 4 by omega))
    have em260 : m260 92 (((150 + (4 * x3)) + 3).toNat) = (-1) := by rw [hm260]; exact zm_eq
    have f261 : m260 79 27 = m248 79 27 := by rw [hm260]; exact zm_ne (Or.inl (by decide))
    have f262 : m260 79 7 = m248 79 7 := by rw [hm260]; exact zm_ne (Or.inl (by decide))
    have f263 : m260 79 26 = m248 79 26 := by rw [hm260]; exact zm_ne (Or.inl (by decide))
    have f264 : m260 79 28 = m248 79 28 := by rw [hm260]; exact zm_ne (Or.inl (by decide))
    have f265 : m260 79 29 = m248 79 29 := by rw [hm260]; exact zm_ne (Or.inl (by decide))
    have f266 : m260 79 30 = m248 79 30 := by rw [hm260]; exact zm_ne (Or.inl (by decide))
    have f267 : m260 79 6 = m248 79 6 := by rw [hm260]; exact zm_ne (Or.inl (by decide))
    have f268 : m260 79 53 = m248 79 53 := by rw [hm260]; exact zm_ne (Or.inl (by decide))
    have f269 : m260 79 48 = m248 79 48 := by rw [hm260]; exact zm_ne (Or.inl (by decide))
    have tk270 : zD9 (fun p i => 79 ≤ p ∧ p ≤ 105 ∧ p ≠ 80 ∧ (p ≠ 79 ∨ i ≠ 34)) m0 m260 := by rw [hm260]; exact zD9_up tk258 (by first | rfl | omega | (dsimp only; omega))
    have tk271 : zS9 t9 m260 := by rw [hm260]; exact zS9_up tk259 (by decide)
    clear tk258 tk259
    refine zW.step (st1 := (417, [(some (.ref 79)), (some (.int (Int32.ofInt sort))), (some (.int (Int32.ofInt x2))), (some (.int (Int32.ofInt x3))), (some (.int (Int32.ofInt (150 + (4 * x3)))))], [], z_hup (zk c m248) 92 (.inl (0, 178, .inl (upd (fun j => Int32.ofInt (m248 92 j)) ((Int32.ofInt (150 + (4 * x3))) + (Int32.ofInt 3)).toNatClampNeg (Int32.ofInt (-1))))))) (st2 := (417, [(some (.ref 79)), (some (.int (Int32.ofInt sort))), (some (.int (Int32.ofInt x2))), (some (.int (Int32.ofInt x3))), (some (.int (Int32.ofInt (150 + (4 * x3)))))], [], zk c m260)) ⟨[zo, zo, zo, zo, zo, zo, (false, 0, none, zh0, some (.inl (0, 178, .inl (fun j => Int32.ofInt (m248 92 j)))))], _, rfl, ⟨trivial, (Nat.lt_of_lt_of_le (Nat.le_of_ble_eq_true rfl) hN), trivial, trivial, trivial, trivial, ⟨zk_ra c m248 zA_92 (Nat.lt_of_lt_of_le (Nat.le_of_ble_eq_true rfl) hN), zi_in (zi_add rfl rfl) (by omega) (by omega) (by omega)⟩, trivial⟩⟩ (z_steq rfl rfl ((zk_ias c m248 zA_92 (zi_add rfl rfl) (by unfold zR; omega) rfl).trans (by rw [hm260]))) ?_
    refine zW.step (st1 := (356, [(some (.ref 79)), (some (.int (Int32.ofInt sort))), (some (.int (Int32.ofInt x2))), (some (.int ((Int32.ofInt x3) + Int32.ofInt 1))), (some (.int (Int32.ofInt (150 + (4 * x3)))))], [], zk c m260)) (st2 := (356, [(some (.ref 79)), (some (.int (Int32.ofInt sort))), (some (.int (Int32.ofInt x2))), (some (.int (Int32.ofInt (x3 + 1)))), (some (.int (Int32.ofInt (150 + (4 * x3)))))], [], zk c m260)) ⟨[zo, zo], _, rfl, ⟨trivial, trivial, trivial⟩⟩ (z_steq (z_c1 rfl (z_c1 rfl (z_c1 rfl (z_c1 (z_si (zi_add rfl rfl)) rfl)))) rfl rfl) ?_
    exact ih _ (by omega) (x3 + 1) (some (.int (Int32.ofInt (150 + (4 * x3))))) m260 hIm260 (by omega) (by exact (zP_upE (zP_upE (zP_upE p3 hm235 (by unfold zsen; omega)) hm248 (by unfold zsen; omega)) hm260 (by unfold zsen; omega))) (by omega) (by omega) (by omega) tk270 tk271 rfl

set_option maxRecDepth 100000 in
set_option maxHeartbeats 4000000 in
theorem S_X12_text (zn : Bool) (d : Nat) {c : Nat × Nat} {mC : zM} {t9 : Int} (hN : 107 ≤ c.1) (hC : c.1 < z_RO) (sort : Int) (m : zM) (hIm : zJ mC t9 0 m) (r_sort : -2147483648 ≤ sort ∧ sort ≤ 2147483647) (ht : 0 ≤ t9 ∧ t9 ≤ 999990000) : zCi zn (d + 34) 288 [.ref 79, .int (Int32.ofInt sort)] c m (fun (r : Int) (m1 : zM) => zJ m1 t9 0 m1 ∧ (-2147483648 ≤ r ∧ r ≤ 2147483647) ∧ ((sort = 0 ∧ zhF (zbT mC) (mC 79 6) = -1) → r = ((zhs (zbT mC) (mC 79 6)).2.2 79 29) ∧ m1 79 6 = 0 ∧ m1 79 53 = 0 ∧ 0 < m1 79 26 ∧ m1 79 7 = mC 79 7) ∧ ((sort = 1 ∧ zt_fault (zbT mC) (mC 79 6) = -1 ∧ mC 79 7 < 4) → r = mC 79 7 ∧ m1 79 6 = 0 ∧ m1 79 53 = mC 79 53 ∧ m1 79 26 = mC 79 26 ∧ m1 79 7 = mC 79 7 + 1) ∧ (¬ (sort = 0 ∧ zhF (zbT mC) (mC 79 6) = -1) ∧ ¬ (sort = 1 ∧ zt_fault (zbT mC) (mC 79 6) = -1 ∧ mC 79 7 < 4) → r = -1 ∧ m1 79 6 = mC 79 6 ∧ m1 79 53 = mC 79 53 ∧ m1 79 26 = mC 79 26 ∧ m1 79 7 = mC 79 7) ∧ zD9 (fun p i => 79 ≤ p ∧ p ≤ 105 ∧ p ≠ 80 ∧ (p ≠ 79 ∨ i ≠ 34)) m m1) := by
  refine zCi.of zu_X12_text hC (Nat.le_of_ble_eq_true rfl) ?_
  show zW zn (d + 33) 288 c (0, [(some (.ref 79)), (some (.int (Int32.ofInt sort))), none, none, none], [], zk c m) (fun v h1 => ∃ (r : Int) (m1 : zM), v = some (.int (Int32.ofInt r)) ∧ h1 = zk c m1 ∧ zJ m1 t9 0 m1 ∧ (-2147483648 ≤ r ∧ r ≤ 2147483647) ∧ ((sort = 0 ∧ zhF (zbT mC) (mC 79 6) = -1) → r = ((zhs (zbT mC) (mC 79 6)).2.2 79 29) ∧ m1 79 6 = 0 ∧ m1 79 53 = 0 ∧ 0 < m1 79 26 ∧ m1 79 7 = mC 79 7) ∧ ((sort = 1 ∧ zt_fault (zbT mC) (mC 79 6) = -1 ∧ mC 79 7 < 4) → r = mC 79 7 ∧ m1 79 6 = 0 ∧ m1 79 53 = mC 79 53 ∧ m1 79 26 = mC 79 26 ∧ m1 79 7 = mC 79 7 + 1) ∧ (¬ (sort = 0 ∧ zhF (zbT mC) (mC 79 6) = -1) ∧ ¬ (sort = 1 ∧ zt_fault (zbT mC) (mC 79 6) = -1 ∧ mC 79 7 < 4) → r = -1 ∧ m1 79 6 = mC 79 6 ∧ m1 79 53 = mC 79 53 ∧ m1 79 26 = mC 79 26 ∧ m1 79 7 = mC 79 7) ∧ zD9 (fun p i => 79 ≤ p ∧ p ≤ 105 ∧ p ≠ 80 ∧ (p ≠ 79 ∨ i ≠ 34)) m m1)
  have f272 : (0 : Int) ≤ m 79 7 ∧ m 79 7 ≤ 4 := hIm.1 79 7
  have f273 : (0 : Int) ≤ m 79 26 ∧ m 79 26 ≤ 5 := hIm.1 79 26
  have f274 : (0 : Int) ≤ m 79 27 ∧ m 79 27 ≤ 6 := hIm.1 79 27
  have f275 : (0 : Int) ≤ m 79 28 ∧ m 79 28 ≤ 5 := hIm.1 79 28
  have f276 : (0 : Int) ≤ m 79 29 ∧ m 79 29 ≤ 6 := hIm.1 79 29
  have f277 : (0 : Int) ≤ m 79 30 ∧ m 79 30 ≤ 6 := hIm.1 79 30
  have f278 : (0 : Int) ≤ m 79 6 ∧ m 79 6 ≤ 240 := hIm.1 79 6
  have f279 : (0 : Int) ≤ m 79 53 ∧ m 79 53 ≤ 6 := hIm.1 79 53
  have q280 := zn_t hIm
  obtain ⟨m281, hm281⟩ : ∃ q, q = zm_up m 79 0 0 := ⟨_, rfl⟩
  have hIm281 := zJ_upE hIm hm281 (zOj_79 (by decide)) (show (0 : Int) ≤ 0 ∧ 0 ≤ 1 by omega)
  have em281 : m281 79 0 = 0 := by rw [hm281]; exact zm_eq
  have f282 : m281 79 7 = m 79 7 := by rw [hm281]; exact zm_ne (Or.inr (by decide))
  have f283 : m281 79 26 = m 79 26 := by rw [hm281]; exact zm_ne (Or.inr (by decide))
  have f284 : m281 79 27 = m 79 27 := by rw [hm281]; exact zm_ne (Or.inr (by decide))
  have f285 : m281 79 28 = m 79 28 := by rw [hm281]; exact zm_ne (Or.inr (by decide))
  have f286 : m281 79 29 = m 79 29 := by rw [hm281]; exact zm_ne (Or.inr (by decide))
  have f287 : m281 79 30 = m 79 30 := by rw [hm281]; exact zm_ne (Or.inr (by decide))
  have f288 : m281 79 6 = m 79 6 := by rw [hm281]; exact zm_ne (Or.inr (by decide))
  have f289 : m281 79 53 = m 79 53 := by rw [hm281]; exact zm_ne (Or.inr (by decide))
  have f290 : m281 79 48 = m 79 48 := by rw [hm281]; exact zm_ne (Or.inr (by decide))
  have tk291 : zD9 (fun p i => 79 ≤ p ∧ p ≤ 105 ∧ p ≠ 80 ∧ (p ≠ 79 ∨ i ≠ 34)) m m281 := by rw [hm281]; exact zD9_up zD9_rf (by first | rfl | omega | (dsimp only; omega))
  refine zW.step (st1 := (5, [(some (.ref 79)), (some (.int (Int32.ofInt sort))), none, none, none], [], z_hup (zk c m) 79 (.inr (12, (.int (Int32.ofInt 0) :: .ref 80 :: .ref 81 :: .ref 82 :: .ref 83 :: zm_rf (m 79 5) :: .int (Int32.ofInt (m 79 6)) :: .int (Int32.ofInt (m 79 7)) :: .int (Int32.ofInt (m 79 8)) :: .int (Int32.ofInt (m 79 9)) :: .int (Int32.ofInt (m 79 10)) :: .int (Int32.ofInt (m 79 11)) :: .int (Int32.ofInt (m 79 12)) :: .int (Int32.ofInt (m 79 13)) :: .int (Int32.ofInt (m 79 14)) :: .ref (z_RO + 5) :: .ref (z_RO + 3) :: .int (Int32.ofInt (m 79 17)) :: .ref 84 :: .ref 85 :: .ref 86 :: .ref 87 :: .ref 88 :: .ref 89 :: .ref 90 :: .ref 91 :: .int (Int32.ofInt (m 79 26)) :: .int (Int32.ofInt (m 79 27)) :: .int (Int32.ofInt (m 79 28)) :: .int (Int32.ofInt (m 79 29)) :: .int (Int32.ofInt (m 79 30)) :: .ref 92 :: .ref 93 :: .int (Int32.ofInt (m 79 33)) :: .int (Int32.ofInt (m 79 34)) :: .ref 94 :: .ref 95 :: .int (Int32.ofInt (m 79 37)) :: .int (Int32.ofInt (m 79 38)) :: .int (Int32.ofInt (m 79 39)) :: .int (Int32.ofInt (m 79 40)) :: .int (Int32.ofInt (m 79 41)) :: .int (Int32.ofInt (m 79 42)) :: .ref 96 :: .ref 97 :: .ref 98 :: .ref 99 :: .ref 100 :: .int (Int32.ofInt (m 79 48)) :: .int (Int32.ofInt (m 79 49)) :: .long (Int64.ofInt (m 79 50)) :: .ref 101 :: .ref 102 :: .int (Int32.ofInt (m 79 53)) :: .ref 103 :: .ref 104 :: .ref 105 :: .int (Int32.ofInt (m 79 57)) :: []))))) (st2 := (5, [(some (.ref 79)), (some (.int (Int32.ofInt sort))), none, none, none], [], zk c m281)) ⟨[zo, zo, zo], _, rfl, ⟨trivial, trivial, ⟨(Nat.lt_of_lt_of_le (Nat.le_of_ble_eq_true rfl) hN), rfl, rfl⟩, trivial⟩⟩ (z_steq rfl rfl ((zk_up c m 79 0 0 _ rfl).trans (by rw [hm281]))) ?_
  refine zW.step (st1 := (9, [(some (.ref 79)), (some (.int (Int32.ofInt sort))), none, none, none], [.long (Int64.ofNat 1), .long (Int64.ofNat 0), .long ((Int32.ofInt sort).toInt64)], zk c m281)) (st2 := (9, [(some (.ref 79)), (some (.int (Int32.ofInt sort))), none, none, none], [.long (Int64.ofInt 1), .long (Int64.ofInt 0), .long (Int64.ofInt sort)], zk c m281)) ⟨[zo, zo, zo, zo], _, rfl, ⟨trivial, trivial, trivial, trivial, trivial⟩⟩ (z_steq rfl (z_c1 (z_vl (by decide : Int64.ofNat 1 = Int64.ofInt 1)) (z_c1 (z_vl (by decide : Int64.ofNat 0 = Int64.ofInt 0)) (z_c1 (z_vl (zi_i2l rfl (by unfold zR; omega))) rfl))) rfl) ?_
  obtain ⟨r292, hs292, z_292, q_292⟩ := S_X12_isIn zn (d + 32) hN hC sort 0 1 m281 hIm281 (by omega) (by omega) (by omega)
  refine zW.step (st1 := (12, [(some (.ref 79)), (some (.int (Int32.ofInt sort))), none, none, none], [.int (Int32.ofInt r292)], zk c m281)) ⟨[zc (some (.int (Int32.ofInt r292))) (zk c m281)], _, rfl, ⟨⟨(Nat.le_of_ble_eq_true rfl), hs292, (Nat.le_of_ble_eq_true rfl), Nat.le_refl _, Nat.le_refl _, Nat.le_refl _, Nat.le_refl _⟩, trivial⟩⟩ rfl ?_
  by_cases b293 : r292 = 0
  · refine zW.step (st1 := (37, [(some (.ref 79)), (some (.int (Int32.ofInt sort))), none, none, none], [], zk c m281)) (st2 := (37, [(some (.ref 79)), (some (.int (Int32.ofInt sort))), none, none, none], [], zk c m281)) ⟨[zt], _, rfl, ⟨zbt ((zi_eq rfl (rfl : (0 : Int32) = Int32.ofInt 0) (by unfold zR; omega) (⟨by decide, by decide⟩ : zR 0)).mpr b293), trivial⟩⟩ rfl ?_
    have f294 : (0 : Int) ≤ m281 79 7 ∧ m281 79 7 ≤ 4 := hIm281.1 79 7
    have f295 : (0 : Int) ≤ m281 79 26 ∧ m281 79 26 ≤ 5 := hIm281.1 79 26
    have f296 : (0 : Int) ≤ m281 79 27 ∧ m281 79 27 ≤ 6 := hIm281.1 79 27
    have f297 : (0 : Int) ≤ m281 79 28 ∧ m281 79 28 ≤ 5 := hIm281.1 79 28
    have f298 : (0 : Int) ≤ m281 79 29 ∧ m281 79 29 ≤ 6 := hIm281.1 79 29
    have f299 : (0 : Int) ≤ m281 79 30 ∧ m281 79 30 ≤ 6 := hIm281.1 79 30
    have f300 : (0 : Int) ≤ m281 79 6 ∧ m281 79 6 ≤ 240 := hIm281.1 79 6
    have f301 : (0 : Int) ≤ m281 79 53 ∧ m281 79 53 ≤ 6 := hIm281.1 79 53
    refine zW.step (st1 := (38, [(some (.ref 79)), (some (.int (Int32.ofInt sort))), none, none, none], [.int (Int32.ofInt (-1))], zk c m281)) (st2 := (38, [(some (.ref 79)), (some (.int (Int32.ofInt sort))), none, none, none], [.int (Int32.ofInt (-1))], zk c m281)) ⟨[zo], _, rfl, ⟨trivial, trivial⟩⟩ rfl ?_
    exact zW.fin (zfin_i rfl rfl rfl) ⟨(-1), m281, rfl, rfl, (zJ_self hIm281), (by omega), (by omega), (by omega), (by omega), tk291⟩
  · refine zW.step (st1 := (15, [(some (.ref 79)), (some (.int (Int32.ofInt sort))), none, none, none], [], zk c m281)) (st2 := (15, [(some (.ref 79)), (some (.int (Int32.ofInt sort))), none, none, none], [], zk c m281)) ⟨[zo], _, rfl, ⟨zbf (fun q => b293 ((zi_eq rfl (rfl : (0 : Int32) = Int32.ofInt 0) (by unfold zR; omega) (⟨by decide, by decide⟩ : zR 0)).mp q)), trivial⟩⟩ rfl ?_
    have f302 : (0 : Int) ≤ m281 79 7 ∧ m281 79 7 ≤ 4 := hIm281.1 79 7
    have f303 : (0 : Int) ≤ m281 79 26 ∧ m281 79 26 ≤ 5 := hIm281.1 79 26
    have f304 : (0 : Int) ≤ m281 79 27 ∧ m281 79 27 ≤ 6 := hIm281.1 79 27
    have f305 : (0 : Int) ≤ m281 79 28 ∧ m281 79 28 ≤ 5 := hIm281.1 79 28
    have f306 : (0 : Int) ≤ m281 79 29 ∧ m281 79 29 ≤ 6 := hIm281.1 79 29
    have f307 : (0 : Int) ≤ m281 79 30 ∧ m281 79 30 ≤ 6 := hIm281.1 79 30
    have f308 : (0 : Int) ≤ m281 79 6 ∧ m281 79 6 ≤ 240 := hIm281.1 79 6
    have f309 : (0 : Int) ≤ m281 79 53 ∧ m281 79 53 ≤ 6 := hIm281.1 79 53
    by_cases b310 : sort = 1
    · refine zW.step (st1 := (20, [(some (.ref 79)), (some (.int (Int32.ofInt sort))), none, none, none], [], zk c m281)) (st2 := (20, [(some (.ref 79)), (some (.int (Int32.ofInt sort))), none, none, none], [], zk c m281)) ⟨[zo, zo, zo], _, rfl, ⟨trivial, trivial, zbf (fun q => q ((zi_eq rfl rfl (by unfold zR; omega) (⟨by decide, by decide⟩ : zR 1)).mpr b310)), trivial⟩⟩ rfl ?_
      by_cases b311 : (m281 79 7) = 4
      · refine zW.step (st1 := (37, [(some (.ref 79)), (some (.int (Int32.ofInt sort))), none, none, none], [], zk c m281)) (st2 := (37, [(some (.ref 79)), (some (.int (Int32.ofInt sort))), none, none, none], [], zk c m281)) ⟨[zo, zo, zo, zt], _, rfl, ⟨trivial, (Nat.lt_of_lt_of_le (Nat.le_of_ble_eq_true rfl) hN), trivial, zbt ((zi_eq rfl rfl (by unfold zR; omega) (⟨by decide, by decide⟩ : zR 4)).mpr b311), trivial⟩⟩ rfl ?_
        refine zW.step (st1 := (38, [(some (.ref 79)), (some (.int (Int32.ofInt sort))), none, none, none], [.int (Int32.ofInt (-1))], zk c m281)) (st2 := (38, [(some (.ref 79)), (some (.int (Int32.ofInt sort))), none, none, none], [.int (Int32.ofInt (-1))], zk c m281)) ⟨[zo], _, rfl, ⟨trivial, trivial⟩⟩ rfl ?_
        exact zW.fin (zfin_i rfl rfl rfl) ⟨(-1), m281, rfl, rfl, (zJ_self hIm281), (by omega), (by omega), (by omega), (by omega), tk291⟩
      · refine zW.step (st1 := (28, [(some (.ref 79)), (some (.int (Int32.ofInt sort))), none, none, none], [], zk c m281)) (st2 := (28, [(some (.ref 79)), (some (.int (Int32.ofInt sort))), none, none, none], [], zk c m281)) ⟨[zo, zo, zo, zo], _, rfl, ⟨trivial, (Nat.lt_of_lt_of_le (Nat.le_of_ble_eq_true rfl) hN), trivial, zbf (fun q => b311 ((zi_eq rfl rfl (by unfold zR; omega) (⟨by decide, by decide⟩ : zR 4)).mp q)), trivial⟩⟩ rfl ?_
        refine zW.step (st1 := (30, [(some (.ref 79)), (some (.int (Int32.ofInt sort))), none, none, none], [.int (Int32.ofInt sort), .ref 79], zk c m281)) (st2 := (30, [(some (.ref 79)), (some (.int (Int32.ofInt sort))), none, none, none], [.int (Int32.ofInt sort), .ref 79], zk c m281)) ⟨[zo, zo], _, rfl, ⟨trivial, trivial, trivial⟩⟩ rfl ?_
        obtain ⟨r312, m312, hs312, hIm312, q_312, hs_312, kk_312, f0_312, f1_312, f2_312, s_312, kV_312⟩ := S_X12_fault_F zn (d + 0) hN hC sort m281 hIm281 (by omega)
        refine zW.step (st1 := (33, [(some (.ref 79)), (some (.int (Int32.ofInt sort))), none, none, none], [.int (Int32.ofInt r312)], zk c m312)) ⟨[zc (some (.int (Int32.ofInt r312))) (zk c m312)], _, rfl, ⟨⟨⟨(Nat.lt_of_lt_of_le (Nat.le_of_ble_eq_true rfl) hN), (Nat.le_of_ble_eq_true rfl)⟩, hs312, (Nat.le_of_ble_eq_true rfl), Nat.le_refl _, Nat.le_refl _, Nat.le_refl _, Nat.le_refl _⟩, trivial⟩⟩ rfl ?_
        have f313 : (0 : Int) ≤ m312 79 7 ∧ m312 79 7 ≤ 4 := hIm312.1 79 7
        have f314 : m312 79 7 = m281 79 7 := kV_312 79 7 (by omega)
        have f315 : (0 : Int) ≤ m312 79 26 ∧ m312 79 26 ≤ 5 := hIm312.1 79 26
        have f316 : m312 79 26 = m281 79 26 := kV_312 79 26 (by omega)
        have f317 : (0 : Int) ≤ m312 79 27 ∧ m312 79 27 ≤ 6 := hIm312.1 79 27
        have f318 : m312 79 27 = m281 79 27 := kV_312 79 27 (by omega)
        have f319 : (0 : Int) ≤ m312 79 28 ∧ m312 79 28 ≤ 5 := hIm312.1 79 28
        have f320 : (0 : Int) ≤ m312 79 29 ∧ m312 79 29 ≤ 6 := hIm312.1 79 29
        have f321 : (0 : Int) ≤ m312 79 30 ∧ m312 79 30 ≤ 6 := hIm312.1 79 30
        have f322 : (0 : Int) ≤ m312 79 6 ∧ m312 79 6 ≤ 240 := hIm312.1 79 6
        have f323 : (0 : Int) ≤ m312 79 53 ∧ m312 79 53 ≤ 6 := hIm312.1 79 53
        have tk324 : zD9 (fun p i => 79 ≤ p ∧ p ≤ 105 ∧ p ≠ 80 ∧ (p ≠ 79 ∨ i ≠ 34)) m m312 := zD9_tr tk291 (zD9_J hIm281 hIm312)
        have q325 := zn_t hIm312
        by_cases b326 : r312 = (-1)
        · refine zW.step (st1 := (39, [(some (.ref 79)), (some (.int (Int32.ofInt sort))), none, none, none], [], zk c m312)) (st2 := (39, [(some (.ref 79)), (some (.int (Int32.ofInt sort))), none, none, none], [], zk c m312)) ⟨[zo, zt], _, rfl, ⟨trivial, zbt ((zi_eq rfl rfl (by unfold zR; omega) (⟨by decide, by decide⟩ : zR (-1))).mpr b326), trivial⟩⟩ rfl ?_
          obtain ⟨m327, hm327⟩ : ∃ q, q = zm_up m312 79 6 0 := ⟨_, rfl⟩
          have hIm327 := zJ_upS hIm312 hm327 (by unfold zOjb; omega) (show (0 : Int) ≤ 0 ∧ 0 ≤ 240 by omega)
          have em327 : m327 79 6 = 0 := by rw [hm327]; exact zm_eq
          have f328 : m327 79 7 = m312 79 7 := by rw [hm327]; exact zm_ne (Or.inr (by decide))
          have f329 : m327 79 26 = m312 79 26 := by rw [hm327]; exact zm_ne (Or.inr (by decide))
          have f330 : m327 79 27 = m312 79 27 := by rw [hm327]; exact zm_ne (Or.inr (by decide))
          have f331 : m327 79 28 = m312 79 28 := by rw [hm327]; exact zm_ne (Or.inr (by decide))
          have f332 : m327 79 29 = m312 79 29 := by rw [hm327]; exact zm_ne (Or.inr (by decide))
          have f333 : m327 79 30 = m312 79 30 := by rw [hm327]; exact zm_ne (Or.inr (by decide))
          have f334 : m327 79 53 = m312 79 53 := by rw [hm327]; exact zm_ne (Or.inr (by decide))
          have f335 : m327 79 48 = m312 79 48 := by rw [hm327]; exact zm_ne (Or.inr (by decide))
          have tk336 : zD9 (fun p i => 79 ≤ p ∧ p ≤ 105 ∧ p ≠ 80 ∧ (p ≠ 79 ∨ i ≠ 34)) m m327 := by rw [hm327]; exact zD9_up tk324 (by first | rfl | omega | (dsimp only; omega))
          clear tk324
          refine zW.step (st1 := (49, [(some (.ref 79)), (some (.int (Int32.ofInt sort))), (some (.int (Int32.ofInt (m312 79 6)))), none, none], [], z_hup (zk c m312) 79 (.inr (12, (.int (Int32.ofInt (m312 79 0)) :: .ref 80 :: .ref 81 :: .ref 82 :: .ref 83 :: zm_rf (m312 79 5) :: .int (Int32.ofInt 0) :: .int (Int32.ofInt (m312 79 7)) :: .int (Int32.ofInt (m312 79 8)) :: .int (Int32.ofInt (m312 79 9)) :: .int (Int32.ofInt (m312 79 10)) :: .int (Int32.ofInt (m312 79 11)) :: .int (Int32.ofInt (m312 79 12)) :: .int (Int32.ofInt (m312 79 13)) :: .int (Int32.ofInt (m312 79 14)) :: .ref (z_RO + 5) :: .ref (z_RO + 3) :: .int (Int32.ofInt (m312 79 17)) :: .ref 84 :: .ref 85 :: .ref 86 :: .ref 87 :: .ref 88 :: .ref 89 :: .ref 90 :: .ref 91 :: .int (Int32.ofInt (m312 79 26)) :: .int (Int32.ofInt (m312 79 27)) :: .int (Int32.ofInt (m312 79 28)) :: .int (Int32.ofInt (m312 79 29)) :: .int (Int32.ofInt (m312 79 30)) :: .ref 92 :: .ref 93 :: .int (Int32.ofInt (m312 79 33)) :: .int (Int32.ofInt (m312 79 34)) :: .ref 94 :: .ref 95 :: .int (Int32.ofInt (m312 79 37)) :: .int (Int32.ofInt (m312 79 38)) :: .int (Int32.ofInt (m312 79 39)) :: .int (Int32.ofInt (m312 79 40)) :: .int (Int32.ofInt (m312 79 41)) :: .int (Int32.ofInt (m312 79 42)) :: .ref 96 :: .ref 97 :: .ref 98 :: .ref 99 :: .ref 100 :: .int (Int32.ofInt (m312 79 48)) :: .int (Int32.ofInt (m312 79 49)) :: .long (Int64.ofInt (m312 79 50)) :: .ref 101 :: .ref 102 :: .int (Int32.ofInt (m312 79 53)) :: .ref 103 :: .ref 104 :: .ref 105 :: .int (Int32.ofInt (m312 79 57)) :: []))))) (st2 := (49, [(some (.ref 79)), (some (.int (Int32.ofInt sort))), (some (.int (Int32.ofInt (m312 79 6)))), none, none], [], zk c m327)) ⟨[zo, zo, zo, zo, zo, zo], _, rfl, ⟨trivial, (Nat.lt_of_lt_of_le (Nat.le_of_ble_eq_true rfl) hN), trivial, trivial, trivial, ⟨(Nat.lt_of_lt_of_le (Nat.le_of_ble_eq_true rfl) hN), rfl, rfl⟩, trivial⟩⟩ (z_steq rfl rfl ((zk_up c m312 79 6 0 _ rfl).trans (by rw [hm327]))) ?_
          by_cases b337 : sort = 1
          · refine zW.step (st1 := (54, [(some (.ref 79)), (some (.int (Int32.ofInt sort))), (some (.int (Int32.ofInt (m312 79 6)))), none, none], [], zk c m327)) (st2 := (54, [(some (.ref 79)), (some (.int (Int32.ofInt sort))), (some (.int (Int32.ofInt (m312 79 6)))), none, none], [], zk c m327)) ⟨[zo, zo, zo], _, rfl, ⟨trivial, trivial, zbf (fun q => q ((zi_eq rfl rfl (by unfold zR; omega) (⟨by decide, by decide⟩ : zR 1)).mpr b337)), trivial⟩⟩ rfl ?_
            have f338 : (0 : Int) ≤ m327 79 7 ∧ m327 79 7 ≤ 4 := hIm327.1 79 7
            have f339 : (0 : Int) ≤ m327 79 26 ∧ m327 79 26 ≤ 5 := hIm327.1 79 26
            have f340 : (0 : Int) ≤ m327 79 27 ∧ m327 79 27 ≤ 6 := hIm327.1 79 27
            have f341 : (0 : Int) ≤ m327 79 28 ∧ m327 79 28 ≤ 5 := hIm327.1 79 28
            have f342 : (0 : Int) ≤ m327 79 29 ∧ m327 79 29 ≤ 6 := hIm327.1 79 29
            have f343 : (0 : Int) ≤ m327 79 30 ∧ m327 79 30 ≤ 6 := hIm327.1 79 30
            have f344 : (0 : Int) ≤ m327 79 6 ∧ m327 79 6 ≤ 240 := hIm327.1 79 6
            have f345 : (0 : Int) ≤ m327 79 53 ∧ m327 79 53 ≤ 6 := hIm327.1 79 53
            refine zW.step (st1 := (56, [(some (.ref 79)), (some (.int (Int32.ofInt sort))), (some (.int (Int32.ofInt (m312 79 6)))), (some (.int (Int32.ofInt 0))), none], [], zk c m327)) (st2 := (56, [(some (.ref 79)), (some (.int (Int32.ofInt sort))), (some (.int (Int32.ofInt (m312 79 6)))), (some (.int (Int32.ofInt 0))), none], [], zk c m327)) ⟨[zo, zo], _, rfl, ⟨trivial, trivial, trivial⟩⟩ rfl ?_
            refine L_X12_text_56 zn _ hN hC sort r_sort ht (m312 79 6) m _ (fun x3_346 m_346 hIm_346 i1_346 i7_346 v6_346 v2_346 tD_346 => ?_) _ 0 m327 hIm327 (by omega) (by omega) (by omega) (by omega) tk336 rfl
            have f347 : (0 : Int) ≤ m_346 79 7 ∧ m_346 79 7 ≤ 4 := hIm_346.1 79 7
            have f348 : (0 : Int) ≤ m_346 79 26 ∧ m_346 79 26 ≤ 5 := hIm_346.1 79 26
            have f349 : (0 : Int) ≤ m_346 79 27 ∧ m_346 79 27 ≤ 6 := hIm_346.1 79 27
            have f350 : (0 : Int) ≤ m_346 79 28 ∧ m_346 79 28 ≤ 5 := hIm_346.1 79 28
            have f351 : (0 : Int) ≤ m_346 79 29 ∧ m_346 79 29 ≤ 6 := hIm_346.1 79 29
            have f352 : (0 : Int) ≤ m_346 79 30 ∧ m_346 79 30 ≤ 6 := hIm_346.1 79 30
            have f353 : (0 : Int) ≤ m_346 79 6 ∧ m_346 79 6 ≤ 240 := hIm_346.1 79 6
            have f354 : (0 : Int) ≤ m_346 79 53 ∧ m_346 79 53 ≤ 6 := hIm_346.1 79 53
            obtain ⟨m355, hm355⟩ : ∃ q, q = zm_up m_346 82 ((m_346 79 7).toNat) (m312 79 6) := ⟨_, rfl⟩
            have hIm355 := zJ_upE hIm_346 hm355 (zOj_p (by decide)) (show (0 : Int) ≤ (m312 79 6) ∧ (m312 79 6) ≤ 240 by omega)
            have em355 : m355 82 ((m_346 79 7).toNat) = (m312 79 6) := by rw [hm355]; exact zm_eq
            have f356 : m355 79 7 = m_346 79 7 := by rw [hm355]; exact zm_ne (Or.inl (by decide))
            have f357 : m355 79 26 = m_346 79 26 := by rw [hm355]; exact zm_ne (Or.inl (by decide))
            have f358 : m355 79 27 = m_346 79 27 := by rw [hm355]; exact zm_ne (Or.inl (by decide))
            have f359 : m355 79 28 = m_346 79 28 := by rw [hm355]; exact zm_ne (Or.inl (by decide))
            have f360 : m355 79 29 = m_346 79 29 := by rw [hm355]; exact zm_ne (Or.inl (by decide))
            have f361 : m355 79 30 = m_346 79 30 := by rw [hm355]; exact zm_ne (Or.inl (by decide))
            have f362 : m355 79 6 = m_346 79 6 := by rw [hm355]; exact zm_ne (Or.inl (by decide))
            have f363 : m355 79 53 = m_346 79 53 := by rw [hm355]; exact zm_ne (Or.inl (by decide))
            have f364 : m355 79 48 = m_346 79 48 := by rw [hm355]; exact zm_ne (Or.inl (by decide))
            have tk365 : zD9 (fun p i => 79 ≤ p ∧ p ≤ 105 ∧ p ≠ 80 ∧ (p ≠ 79 ∨ i ≠ 34)) m m355 := by rw [hm355]; exact zD9_up tD_346 (by first | rfl | omega | (dsimp only; omega))
            refine zW.step (st1 := (98, [(some (.ref 79)), (some (.int (Int32.ofInt sort))), (some (.int (Int32.ofInt (m312 79 6)))), (some (.int (Int32.ofInt x3_346))), none], [], z_hup (zk c m_346) 82 (.inl (0, 4, .inl (upd (fun j => Int32.ofInt (m_346 82 j)) (Int32.ofInt (m_346 79 7)).toNatClampNeg (Int32.ofInt (m312 79 6))))))) (st2 := (98, [(some (.ref 79)), (some (.int (Int32.ofInt sort))), (some (.int (Int32.ofInt (m312 79 6)))), (some (.int (Int32.ofInt x3_346))), none], [], zk c m355)) ⟨[zo, zo, zo, zo, zo, (false, 0, none, zh0, some (.inl (0, 4, .inl (fun j => Int32.ofInt (m_346 82 j)))))], _, rfl, ⟨trivial, (Nat.lt_of_lt_of_le (Nat.le_of_ble_eq_true rfl) hN), trivial, (Nat.lt_of_lt_of_le (Nat.le_of_ble_eq_true rfl) hN), trivial, ⟨zk_ra c m_346 zA_82 (Nat.lt_of_lt_of_le (Nat.le_of_ble_eq_true rfl) hN), zi_in rfl (by omega) (by omega) (by omega)⟩, trivial⟩⟩ (z_steq rfl rfl ((zk_ias c m_346 zA_82 rfl (by unfold zR; omega) rfl).trans (by rw [hm355]))) ?_
            have f366 : (0 : Int) ≤ m355 79 7 ∧ m355 79 7 ≤ 4 := hIm355.1 79 7
            obtain ⟨m367, hm367⟩ : ∃ q, q = zm_up m355 79 7 ((m355 79 7) + 1) := ⟨_, rfl⟩
            have hIm367 := zJ_upS hIm355 hm367 (by unfold zOjb; omega) (show (0 : Int) ≤ ((m355 79 7) + 1) ∧ ((m355 79 7) + 1) ≤ 4 by omega)
            have em367 : m367 79 7 = ((m355 79 7) + 1) := by rw [hm367]; exact zm_eq
            have f368 : m367 79 26 = m355 79 26 := by rw [hm367]; exact zm_ne (Or.inr (by decide))
            have f369 : m367 79 27 = m355 79 27 := by rw [hm367]; exact zm_ne (Or.inr (by decide))
            have f370 : m367 79 28 = m355 79 28 := by rw [hm367]; exact zm_ne (Or.inr (by decide))
            have f371 : m367 79 29 = m355 79 29 := by rw [hm367]; exact zm_ne (Or.inr (by decide))
            have f372 : m367 79 30 = m355 79 30 := by rw [hm367]; exact zm_ne (Or.inr (by decide))
            have f373 : m367 79 6 = m355 79 6 := by rw [hm367]; exact zm_ne (Or.inr (by decide))
            have f374 : m367 79 53 = m355 79 53 := by rw [hm367]; exact zm_ne (Or.inr (by decide))
            have f375 : m367 79 48 = m355 79 48 := by rw [hm367]; exact zm_ne (Or.inr (by decide))
            have tk376 : zD9 (fun p i => 79 ≤ p ∧ p ≤ 105 ∧ p ≠ 80 ∧ (p ≠ 79 ∨ i ≠ 34)) m m367 := by rw [hm367]; exact zD9_up tk365 (by first | rfl | omega | (dsimp only; omega))
            clear tk365
            refine zW.step (st1 := (108, [(some (.ref 79)), (some (.int (Int32.ofInt sort))), (some (.int (Int32.ofInt (m312 79 6)))), (some (.int (Int32.ofInt x3_346))), none], [], z_hup (zk c m355) 79 (.inr (12, (.int (Int32.ofInt (m355 79 0)) :: .ref 80 :: .ref 81 :: .ref 82 :: .ref 83 :: zm_rf (m355 79 5) :: .int (Int32.ofInt (m355 79 6)) :: .int ((Int32.ofInt (m355 79 7)) + (Int32.ofInt 1)) :: .int (Int32.ofInt (m355 79 8)) :: .int (Int32.ofInt (m355 79 9)) :: .int (Int32.ofInt (m355 79 10)) :: .int (Int32.ofInt (m355 79 11)) :: .int (Int32.ofInt (m355 79 12)) :: .int (Int32.ofInt (m355 79 13)) :: .int (Int32.ofInt (m355 79 14)) :: .ref (z_RO + 5) :: .ref (z_RO + 3) :: .int (Int32.ofInt (m355 79 17)) :: .ref 84 :: .ref 85 :: .ref 86 :: .ref 87 :: .ref 88 :: .ref 89 :: .ref 90 :: .ref 91 :: .int (Int32.ofInt (m355 79 26)) :: .int (Int32.ofInt (m355 79 27)) :: .int (Int32.ofInt (m355 79 28)) :: .int (Int32.ofInt (m355 79 29)) :: .int (Int32.ofInt (m355 79 30)) :: .ref 92 :: .ref 93 :: .int (Int32.ofInt (m355 79 33)) :: .int (Int32.ofInt (m355 79 34)) :: .ref 94 :: .ref 95 :: .int (Int32.ofInt (m355 79 37)) :: .int (Int32.ofInt (m355 79 38)) :: .int (Int32.ofInt (m355 79 39)) :: .int (Int32.ofInt (m355 79 40)) :: .int (Int32.ofInt (m355 79 41)) :: .int (Int32.ofInt (m355 79 42)) :: .ref 96 :: .ref 97 :: .ref 98 :: .ref 99 :: .ref 100 :: .int (Int32.ofInt (m355 79 48)) :: .int (Int32.ofInt (m355 79 49)) :: .long (Int64.ofInt (m355 79 50)) :: .ref 101 :: .ref 102 :: .int (Int32.ofInt (m355 79 53)) :: .ref 103 :: .ref 104 :: .ref 105 :: .int (Int32.ofInt (m355 79 57)) :: []))))) (st2 := (108, [(some (.ref 79)), (some (.int (Int32.ofInt sort))), (some (.int (Int32.ofInt (m312 79 6)))), (some (.int (Int32.ofInt x3_346))), none], [], zk c m367)) ⟨[zo, zo, zo, zo, zo, zo], _, rfl, ⟨trivial, trivial, (Nat.lt_of_lt_of_le (Nat.le_of_ble_eq_true rfl) hN), trivial, trivial, ⟨(Nat.lt_of_lt_of_le (Nat.le_of_ble_eq_true rfl) hN), rfl, rfl⟩, trivial⟩⟩ (z_steq rfl rfl ((zk_up c m355 79 7 ((m355 79 7) + 1) _ ((congrArg (fun q => (.inr (12, (.int (Int32.ofInt (m355 79 0)) :: .ref 80 :: .ref 81 :: .ref 82 :: .ref 83 :: zm_rf (m355 79 5) :: .int (Int32.ofInt (m355 79 6)) :: .int q :: .int (Int32.ofInt (m355 79 8)) :: .int (Int32.ofInt (m355 79 9)) :: .int (Int32.ofInt (m355 79 10)) :: .int (Int32.ofInt (m355 79 11)) :: .int (Int32.ofInt (m355 79 12)) :: .int (Int32.ofInt (m355 79 13)) :: .int (Int32.ofInt (m355 79 14)) :: .ref (z_RO + 5) :: .ref (z_RO + 3) :: .int (Int32.ofInt (m355 79 17)) :: .ref 84 :: .ref 85 :: .ref 86 :: .ref 87 :: .ref 88 :: .ref 89 :: .ref 90 :: .ref 91 :: .int (Int32.ofInt (m355 79 26)) :: .int (Int32.ofInt (m355 79 27)) :: .int (Int32.ofInt (m355 79 28)) :: .int (Int32.ofInt (m355 79 29)) :: .int (Int32.ofInt (m355 79 30)) :: .ref 92 :: .ref 93 :: .int (Int32.ofInt (m355 79 33)) :: .int (Int32.ofInt (m355 79 34)) :: .ref 94 :: .ref 95 :: .int (Int32.ofInt (m355 79 37)) :: .int (Int32.ofInt (m355 79 38)) :: .int (Int32.ofInt (m355 79 39)) :: .int (Int32.ofInt (m355 79 40)) :: .int (Int32.ofInt (m355 79 41)) :: .int (Int32.ofInt (m355 79 42)) :: .ref 96 :: .ref 97 :: .ref 98 :: .ref 99 :: .ref 100 :: .int (Int32.ofInt (m355 79 48)) :: .int (Int32.ofInt (m355 79 49)) :: .long (Int64.ofInt (m355 79 50)) :: .ref 101 :: .ref 102 :: .int (Int32.ofInt (m355 79 53)) :: .ref 103 :: .ref 104 :: .ref 105 :: .int (Int32.ofInt (m355 79 57)) :: [])) : z_E)) (zi_add rfl rfl)).trans rfl)).trans (by rw [hm367]))) ?_
            have f377 : (0 : Int) ≤ m367 79 7 ∧ m367 79 7 ≤ 4 := hIm367.1 79 7
            refine zW.step (st1 := (114, [(some (.ref 79)), (some (.int (Int32.ofInt sort))), (some (.int (Int32.ofInt (m312 79 6)))), (some (.int (Int32.ofInt x3_346))), none], [.int ((Int32.ofInt (m367 79 7)) - (Int32.ofInt 1))], zk c m367)) (st2 := (114, [(some (.ref 79)), (some (.int (Int32.ofInt sort))), (some (.int (Int32.ofInt (m312 79 6)))), (some (.int (Int32.ofInt x3_346))), none], [.int (Int32.ofInt ((m367 79 7) - 1))], zk c m367)) ⟨[zo, zo, zo, zo], _, rfl, ⟨trivial, (Nat.lt_of_lt_of_le (Nat.le_of_ble_eq_true rfl) hN), trivial, trivial, trivial⟩⟩ (z_steq rfl (z_c1 (z_vi (zi_sub rfl rfl)) rfl) rfl) ?_
            exact zW.fin (zfin_i rfl rfl rfl) ⟨(m367 79 7) - 1, m367, rfl, rfl, (zJ_self hIm367), (by omega), (by omega), (by omega), (by omega), tk376⟩
          · refine zW.step (st1 := (115, [(some (.ref 79)), (some (.int (Int32.ofInt sort))), (some (.int (Int32.ofInt (m312 79 6)))), none, none], [], zk c m327)) (st2 := (115, [(some (.ref 79)), (some (.int (Int32.ofInt sort))), (some (.int (Int32.ofInt (m312 79 6)))), none, none], [], zk c m327)) ⟨[zo, zo, zt], _, rfl, ⟨trivial, trivial, zbt (fun q => b337 ((zi_eq rfl rfl (by unfold zR; omega) (⟨by decide, by decide⟩ : zR 1)).mp q)), trivial⟩⟩ rfl ?_
            have f378 : (0 : Int) ≤ m327 79 7 ∧ m327 79 7 ≤ 4 := hIm327.1 79 7
            have f379 : (0 : Int) ≤ m327 79 26 ∧ m327 79 26 ≤ 5 := hIm327.1 79 26
            have f380 : (0 : Int) ≤ m327 79 27 ∧ m327 79 27 ≤ 6 := hIm327.1 79 27
            have f381 : (0 : Int) ≤ m327 79 28 ∧ m327 79 28 ≤ 5 := hIm327.1 79 28
            have f382 : (0 : Int) ≤ m327 79 29 ∧ m327 79 29 ≤ 6 := hIm327.1 79 29
            have f383 : (0 : Int) ≤ m327 79 30 ∧ m327 79 30 ≤ 6 := hIm327.1 79 30
            have f384 : (0 : Int) ≤ m327 79 6 ∧ m327 79 6 ≤ 240 := hIm327.1 79 6
            have f385 : (0 : Int) ≤ m327 79 53 ∧ m327 79 53 ≤ 6 := hIm327.1 79 53
            obtain ⟨m386, hm386⟩ : ∃ q, q = zm_up m327 79 26 (m327 79 28) := ⟨_, rfl⟩
            have hIm386 := zJ_up26 hIm327 hm386 (by omega)
            have em386 : m386 79 26 = (m327 79 28) := by rw [hm386]; exact zm_eq
            have f387 : m386 79 6 = m327 79 6 := by rw [hm386]; exact zm_ne (Or.inr (by decide))
            have f388 : m386 79 7 = m327 79 7 := by rw [hm386]; exact zm_ne (Or.inr (by decide))
            have f389 : m386 79 27 = m327 79 27 := by rw [hm386]; exact zm_ne (Or.inr (by decide))
            have f390 : m386 79 28 = m327 79 28 := by rw [hm386]; exact zm_ne (Or.inr (by decide))
            have f391 : m386 79 29 = m327 79 29 := by rw [hm386]; exact zm_ne (Or.inr (by decide))
            have f392 : m386 79 30 = m327 79 30 := by rw [hm386]; exact zm_ne (Or.inr (by decide))
            have f393 : m386 79 53 = m327 79 53 := by rw [hm386]; exact zm_ne (Or.inr (by decide))
            have f394 : m386 79 48 = m327 79 48 := by rw [hm386]; exact zm_ne (Or.inr (by decide))
            have tk395 : zD9 (fun p i => 79 ≤ p ∧ p ≤ 105 ∧ p ≠ 80 ∧ (p ≠ 79 ∨ i ≠ 34)) m m386 := by rw [hm386]; exact zD9_up tk336 (by first | rfl | omega | (dsimp only; omega))
            clear tk336
            refine zW.step (st1 := (123, [(some (.ref 79)), (some (.int (Int32.ofInt sort))), (some (.int (Int32.ofInt (m312 79 6)))), none, none], [], z_hup (zk c m327) 79 (.inr (12, (.int (Int32.ofInt (m327 79 0)) :: .ref 80 :: .ref 81 :: .ref 82 :: .ref 83 :: zm_rf (m327 79 5) :: .int (Int32.ofInt (m327 79 6)) :: .int (Int32.ofInt (m327 79 7)) :: .int (Int32.ofInt (m327 79 8)) :: .int (Int32.ofInt (m327 79 9)) :: .int (Int32.ofInt (m327 79 10)) :: .int (Int32.ofInt (m327 79 11)) :: .int (Int32.ofInt (m327 79 12)) :: .int (Int32.ofInt (m327 79 13)) :: .int (Int32.ofInt (m327 79 14)) :: .ref (z_RO + 5) :: .ref (z_RO + 3) :: .int (Int32.ofInt (m327 79 17)) :: .ref 84 :: .ref 85 :: .ref 86 :: .ref 87 :: .ref 88 :: .ref 89 :: .ref 90 :: .ref 91 :: .int (Int32.ofInt (m327 79 28)) :: .int (Int32.ofInt (m327 79 27)) :: .int (Int32.ofInt (m327 79 28)) :: .int (Int32.ofInt (m327 79 29)) :: .int (Int32.ofInt (m327 79 30)) :: .ref 92 :: .ref 93 :: .int (Int32.ofInt (m327 79 33)) :: .int (Int32.ofInt (m327 79 34)) :: .ref 94 :: .ref 95 :: .int (Int32.ofInt (m327 79 37)) :: .int (Int32.ofInt (m327 79 38)) :: .int (Int32.ofInt (m327 79 39)) :: .int (Int32.ofInt (m327 79 40)) :: .int (Int32.ofInt (m327 79 41)) :: .int (Int32.ofInt (m327 79 42)) :: .ref 96 :: .ref 97 :: .ref 98 :: .ref 99 :: .ref 100 :: .int (Int32.ofInt (m327 79 48)) :: .int (Int32.ofInt (m327 79 49)) :: .long (Int64.ofInt (m327 79 50)) :: .ref 101 :: .ref 102 :: .int (Int32.ofInt (m327 79 53)) :: .ref 103 :: .ref 104 :: .ref 105 :: .int (Int32.ofInt (m327 79 57)) :: []))))) (st2 := (123, [(some (.ref 79)), (some (.int (Int32.ofInt sort))), (some (.int (Int32.ofInt (m312 79 6)))), none, none], [], zk c m386)) ⟨[zo, zo, zo, zo], _, rfl, ⟨trivial, trivial, (Nat.lt_of_lt_of_le (Nat.le_of_ble_eq_true rfl) hN), ⟨(Nat.lt_of_lt_of_le (Nat.le_of_ble_eq_true rfl) hN), rfl, rfl⟩, trivial⟩⟩ (z_steq rfl rfl ((zk_up c m327 79 26 (m327 79 28) _ rfl).trans (by rw [hm386]))) ?_
            have f396 : (0 : Int) ≤ m386 79 30 ∧ m386 79 30 ≤ 6 := hIm386.1 79 30
            obtain ⟨m397, hm397⟩ : ∃ q, q = zm_up m386 79 27 (m386 79 30) := ⟨_, rfl⟩
            have hIm397 := zJ_up27 hIm386 hm397 (by omega) (by omega)
            have em397 : m397 79 27 = (m386 79 30) := by rw [hm397]; exact zm_eq
            have f398 : m397 79 26 = m386 79 26 := by rw [hm397]; exact zm_ne (Or.inr (by decide))
            have f399 : m397 79 6 = m386 79 6 := by rw [hm397]; exact zm_ne (Or.inr (by decide))
            have f400 : m397 79 7 = m386 79 7 := by rw [hm397]; exact zm_ne (Or.inr (by decide))
            have f401 : m397 79 28 = m386 79 28 := by rw [hm397]; exact zm_ne (Or.inr (by decide))
            have f402 : m397 79 29 = m386 79 29 := by rw [hm397]; exact zm_ne (Or.inr (by decide))
            have f403 : m397 79 30 = m386 79 30 := by rw [hm397]; exact zm_ne (Or.inr (by decide))
            have f404 : m397 79 53 = m386 79 53 := by rw [hm397]; exact zm_ne (Or.inr (by decide))
            have f405 : m397 79 48 = m386 79 48 := by rw [hm397]; exact zm_ne (Or.inr (by decide))
            have tk406 : zD9 (fun p i => 79 ≤ p ∧ p ≤ 105 ∧ p ≠ 80 ∧ (p ≠ 79 ∨ i ≠ 34)) m m397 := by rw [hm397]; exact zD9_up tk395 (by first | rfl | omega | (dsimp only; omega))
            clear tk395
            refine zW.step (st1 := (131, [(some (.ref 79)), (some (.int (Int32.ofInt sort))), (some (.int (Int32.ofInt (m312 79 6)))), none, none], [], z_hup (zk c m386) 79 (.inr (12, (.int (Int32.ofInt (m386 79 0)) :: .ref 80 :: .ref 81 :: .ref 82 :: .ref 83 :: zm_rf (m386 79 5) :: .int (Int32.ofInt (m386 79 6)) :: .int (Int32.ofInt (m386 79 7)) :: .int (Int32.ofInt (m386 79 8)) :: .int (Int32.ofInt (m386 79 9)) :: .int (Int32.ofInt (m386 79 10)) :: .int (Int32.ofInt (m386 79 11)) :: .int (Int32.ofInt (m386 79 12)) :: .int (Int32.ofInt (m386 79 13)) :: .int (Int32.ofInt (m386 79 14)) :: .ref (z_RO + 5) :: .ref (z_RO + 3) :: .int (Int32.ofInt (m386 79 17)) :: .ref 84 :: .ref 85 :: .ref 86 :: .ref 87 :: .ref 88 :: .ref 89 :: .ref 90 :: .ref 91 :: .int (Int32.ofInt (m386 79 26)) :: .int (Int32.ofInt (m386 79 30)) :: .int (Int32.ofInt (m386 79 28)) :: .int (Int32.ofInt (m386 79 29)) :: .int (Int32.ofInt (m386 79 30)) :: .ref 92 :: .ref 93 :: .int (Int32.ofInt (m386 79 33)) :: .int (Int32.ofInt (m386 79 34)) :: .ref 94 :: .ref 95 :: .int (Int32.ofInt (m386 79 37)) :: .int (Int32.ofInt (m386 79 38)) :: .int (Int32.ofInt (m386 79 39)) :: .int (Int32.ofInt (m386 79 40)) :: .int (Int32.ofInt (m386 79 41)) :: .int (Int32.ofInt (m386 79 42)) :: .ref 96 :: .ref 97 :: .ref 98 :: .ref 99 :: .ref 100 :: .int (Int32.ofInt (m386 79 48)) :: .int (Int32.ofInt (m386 79 49)) :: .long (Int64.ofInt (m386 79 50)) :: .ref 101 :: .ref 102 :: .int (Int32.ofInt (m386 79 53)) :: .ref 103 :: .ref 104 :: .ref 105 :: .int (Int32.ofInt (m386 79 57)) :: []))))) (st2 := (131, [(some (.ref 79)), (some (.int (Int32.ofInt sort))), (some (.int (Int32.ofInt (m312 79 6)))), none, none], [], zk c m397)) ⟨[zo, zo, zo, zo], _, rfl, ⟨trivial, trivial, (Nat.lt_of_lt_of_le (Nat.le_of_ble_eq_true rfl) hN), ⟨(Nat.lt_of_lt_of_le (Nat.le_of_ble_eq_true rfl) hN), rfl, rfl⟩, trivial⟩⟩ (z_steq rfl rfl ((zk_up c m386 79 27 (m386 79 30) _ rfl).trans (by rw [hm397]))) ?_
            refine zW.step (st1 := (133, [(some (.ref 79)), (some (.int (Int32.ofInt sort))), (some (.int (Int32.ofInt (m312 79 6)))), (some (.int (Int32.ofInt 0))), none], [], zk c m397)) (st2 := (133, [(some (.ref 79)), (some (.int (Int32.ofInt sort))), (some (.int (Int32.ofInt (m312 79 6)))), (some (.int (Int32.ofInt 0))), none], [], zk c m397)) ⟨[zo, zo], _, rfl, ⟨trivial, trivial, trivial⟩⟩ rfl ?_
            refine L_X12_text_133 zn _ hN hC sort r_sort ht (m312 79 6) (m397 79 29) m _ (fun x3_407 m_407 hIm_407 i1_407 i29_407 v6_407 v8_407 tD_407 tK_407 => ?_) _ 0 m397 hIm397 (by omega) (by omega) (by omega) (by omega) tk406 (zK_cg (zK_upE (zK_upE (zK_upE (kk_312 (by omega)) hm327 (by decide)) hm386 (by decide)) hm397 (by decide)) (by omega)) rfl
            have f408 : (0 : Int) ≤ m_407 79 7 ∧ m_407 79 7 ≤ 4 := hIm_407.1 79 7
            have f409 : (0 : Int) ≤ m_407 79 26 ∧ m_407 79 26 ≤ 5 := hIm_407.1 79 26
            have f410 : (0 : Int) ≤ m_407 79 27 ∧ m_407 79 27 ≤ 6 := hIm_407.1 79 27
            have f411 : (0 : Int) ≤ m_407 79 28 ∧ m_407 79 28 ≤ 5 := hIm_407.1 79 28
            have f412 : (0 : Int) ≤ m_407 79 29 ∧ m_407 79 29 ≤ 6 := hIm_407.1 79 29
            have f413 : (0 : Int) ≤ m_407 79 30 ∧ m_407 79 30 ≤ 6 := hIm_407.1 79 30
            have f414 : (0 : Int) ≤ m_407 79 6 ∧ m_407 79 6 ≤ 240 := hIm_407.1 79 6
            have f415 : (0 : Int) ≤ m_407 79 53 ∧ m_407 79 53 ≤ 6 := hIm_407.1 79 53
            refine zW.step (st1 := (158, [(some (.ref 79)), (some (.int (Int32.ofInt sort))), (some (.int (Int32.ofInt (m312 79 6)))), (some (.int (Int32.ofInt 0))), none], [], zk c m_407)) (st2 := (158, [(some (.ref 79)), (some (.int (Int32.ofInt sort))), (some (.int (Int32.ofInt (m312 79 6)))), (some (.int (Int32.ofInt 0))), none], [], zk c m_407)) ⟨[zo, zo], _, rfl, ⟨trivial, trivial, trivial⟩⟩ rfl ?_
            refine L_X12_text_158 zn _ hN hC sort r_sort ht (m312 79 6) (m_407 79 29) m _ (fun x3_416 m_416 hIm_416 i1_416 i29_416 v6_416 v8_416 tD_416 tK_416 => ?_) _ 0 m_407 hIm_407 (by omega) (by omega) (by omega) (by omega) tD_407 (zK_cg tK_407 (by omega)) rfl
            have f417 : (0 : Int) ≤ m_416 79 7 ∧ m_416 79 7 ≤ 4 := hIm_416.1 79 7
            have f418 : (0 : Int) ≤ m_416 79 26 ∧ m_416 79 26 ≤ 5 := hIm_416.1 79 26
            have f419 : (0 : Int) ≤ m_416 79 27 ∧ m_416 79 27 ≤ 6 := hIm_416.1 79 27
            have f420 : (0 : Int) ≤ m_416 79 28 ∧ m_416 79 28 ≤ 5 := hIm_416.1 79 28
            have f421 : (0 : Int) ≤ m_416 79 29 ∧ m_416 79 29 ≤ 6 := hIm_416.1 79 29
            have f422 : (0 : Int) ≤ m_416 79 30 ∧ m_416 79 30 ≤ 6 := hIm_416.1 79 30
            have f423 : (0 : Int) ≤ m_416 79 6 ∧ m_416 79 6 ≤ 240 := hIm_416.1 79 6
            have f424 : (0 : Int) ≤ m_416 79 53 ∧ m_416 79 53 ≤ 6 := hIm_416.1 79 53
            refine zW.step (st1 := (184, [(some (.ref 79)), (some (.int (Int32.ofInt sort))), (some (.int (Int32.ofInt (m312 79 6)))), (some (.int (Int32.ofInt 0))), none], [], zk c m_416)) (st2 := (184, [(some (.ref 79)), (some (.int (Int32.ofInt sort))), (some (.int (Int32.ofInt (m312 79 6)))), (some (.int (Int32.ofInt 0))), none], [], zk c m_416)) ⟨[zo, zo], _, rfl, ⟨trivial, trivial, trivial⟩⟩ rfl ?_
            refine L_X12_text_184 zn _ hN hC sort r_sort ht (m312 79 6) (m_416 79 29) m _ (fun x3_425 m_425 hIm_425 i1_425 i29_425 v6_425 v8_425 tD_425 tK_425 => ?_) _ 0 m_416 hIm_416 (by omega) (by omega) (by omega) (by omega) tD_416 (zK_cg tK_416 (by omega)) rfl
            have f426 : (0 : Int) ≤ m_425 79 7 ∧ m_425 79 7 ≤ 4 := hIm_425.1 79 7
            have f427 : (0 : Int) ≤ m_425 79 26 ∧ m_425 79 26 ≤ 5 := hIm_425.1 79 26
            have f428 : (0 : Int) ≤ m_425 79 27 ∧ m_425 79 27 ≤ 6 := hIm_425.1 79 27
            have f429 : (0 : Int) ≤ m_425 79 28 ∧ m_425 79 28 ≤ 5 := hIm_425.1 79 28
            have f430 : (0 : Int) ≤ m_425 79 29 ∧ m_425 79 29 ≤ 6 := hIm_425.1 79 29
            have f431 : (0 : Int) ≤ m_425 79 30 ∧ m_425 79 30 ≤ 6 := hIm_425.1 79 30
            have f432 : (0 : Int) ≤ m_425 79 6 ∧ m_425 79 6 ≤ 240 := hIm_425.1 79 6
            have f433 : (0 : Int) ≤ m_425 79 53 ∧ m_425 79 53 ≤ 6 := hIm_425.1 79 53
            refine zW.step (st1 := (210, [(some (.ref 79)), (some (.int (Int32.ofInt sort))), (some (.int (Int32.ofInt (m312 79 6)))), (some (.int (Int32.ofInt 0))), none], [], zk c m_425)) (st2 := (210, [(some (.ref 79)), (some (.int (Int32.ofInt sort))), (some (.int (Int32.ofInt (m312 79 6)))), (some (.int (Int32.ofInt 0))), none], [], zk c m_425)) ⟨[zo, zo], _, rfl, ⟨trivial, trivial, trivial⟩⟩ rfl ?_
            refine L_X12_text_210 zn _ hN hC sort r_sort ht (m312 79 6) (m_425 79 29) m _ (fun x3_434 m_434 hIm_434 i1_434 z_434 i29_434 v6_434 v8_434 tD_434 tK_434 tI_434 e_434 => ?_) _ 0 m_425 (zJ_99 hIm_425) (by omega) (by intro j hj; omega) (by omega) (by omega) (by omega) tD_425 (zK_cg tK_425 (by omega)) (zS9_of hIm_425) rfl
            have f435 : (0 : Int) ≤ m_434 79 7 ∧ m_434 79 7 ≤ 4 := hIm_434.1 79 7
            have f436 : (0 : Int) ≤ m_434 79 26 ∧ m_434 79 26 ≤ 5 := hIm_434.1 79 26
            have f437 : (0 : Int) ≤ m_434 79 27 ∧ m_434 79 27 ≤ 6 := hIm_434.1 79 27
            have f438 : (0 : Int) ≤ m_434 79 28 ∧ m_434 79 28 ≤ 5 := hIm_434.1 79 28
            have f439 : (0 : Int) ≤ m_434 79 29 ∧ m_434 79 29 ≤ 6 := hIm_434.1 79 29
            have f440 : (0 : Int) ≤ m_434 79 30 ∧ m_434 79 30 ≤ 6 := hIm_434.1 79 30
            have f441 : (0 : Int) ≤ m_434 79 6 ∧ m_434 79 6 ≤ 240 := hIm_434.1 79 6
            have f442 : (0 : Int) ≤ m_434 79 53 ∧ m_434 79 53 ≤ 6 := hIm_434.1 79 53
            obtain ⟨m443, hm443⟩ : ∃ q, q = zm_up m_434 92 174 (m_434 79 29) := ⟨_, rfl⟩
            have hIm443 := zJ_upE hIm_434 hm443 (by unfold zOj zsen; omega) (zvw_174 zV_92 (show (0 : Int) ≤ (m_434 79 29) ∧ (m_434 79 29) ≤ 10 by omega))
            have em443 : m443 92 174 = (m_434 79 29) := by rw [hm443]; exact zm_eq
            have f444 : m443 79 7 = m_434 79 7 := by rw [hm443]; exact zm_ne (Or.inl (by decide))
            have f445 : m443 79 26 = m_434 79 26 := by rw [hm443]; exact zm_ne (Or.inl (by decide))
            have f446 : m443 79 27 = m_434 79 27 := by rw [hm443]; exact zm_ne (Or.inl (by decide))
            have f447 : m443 79 28 = m_434 79 28 := by rw [hm443]; exact zm_ne (Or.inl (by decide))
            have f448 : m443 79 29 = m_434 79 29 := by rw [hm443]; exact zm_ne (Or.inl (by decide))
            have f449 : m443 79 30 = m_434 79 30 := by rw [hm443]; exact zm_ne (Or.inl (by decide))
            have f450 : m443 79 6 = m_434 79 6 := by rw [hm443]; exact zm_ne (Or.inl (by decide))
            have f451 : m443 79 53 = m_434 79 53 := by rw [hm443]; exact zm_ne (Or.inl (by decide))
            have f452 : m443 79 48 = m_434 79 48 := by rw [hm443]; exact zm_ne (Or.inl (by decide))
            have tk453 : zD9 (fun p i => 79 ≤ p ∧ p ≤ 105 ∧ p ≠ 80 ∧ (p ≠ 79 ∨ i ≠ 34)) m m443 := by rw [hm443]; exact zD9_up tD_434 (by first | rfl | omega | (dsimp only; omega))
            have tk454 : zK m443 (m_434 79 29) := by rw [hm443]; exact zK_up tK_434 (by decide)
            have tk455 : zS9 t9 m443 := by rw [hm443]; exact zS9_up tI_434 (by decide)
            refine zW.step (st1 := (242, [(some (.ref 79)), (some (.int (Int32.ofInt sort))), (some (.int (Int32.ofInt (m312 79 6)))), (some (.int (Int32.ofInt x3_434))), none], [], z_hup (zk c m_434) 92 (.inl (0, 178, .inl (upd (fun j => Int32.ofInt (m_434 92 j)) ((Int16.ofInt 174).toInt32).toNatClampNeg (Int32.ofInt (m_434 79 29))))))) (st2 := (242, [(some (.ref 79)), (some (.int (Int32.ofInt sort))), (some (.int (Int32.ofInt (m312 79 6)))), (some (.int (Int32.ofInt x3_434))), none], [], zk c m443)) ⟨[zo, zo, zo, zo, zo, (false, 0, none, zh0, some (.inl (0, 178, .inl (fun j => Int32.ofInt (m_434 92 j)))))], _, rfl, ⟨trivial, (Nat.lt_of_lt_of_le (Nat.le_of_ble_eq_true rfl) hN), trivial, trivial, (Nat.lt_of_lt_of_le (Nat.le_of_ble_eq_true rfl) hN), ⟨zk_ra c m_434 zA_92 (Nat.lt_of_lt_of_le (Nat.le_of_ble_eq_true rfl) hN), zi_in (by decide : (Int16.ofInt 174).toInt32 = Int32.ofInt 174) (by omega) (by omega) (by omega)⟩, trivial⟩⟩ (z_steq rfl rfl ((zk_ias c m_434 zA_92 (by decide : (Int16.ofInt 174).toInt32 = Int32.ofInt 174) (⟨by decide, by decide⟩ : zR 174) rfl).trans (by rw [hm443]; rfl))) ?_
            refine zW.step (st1 := (244, [(some (.ref 79)), (some (.int (Int32.ofInt sort))), (some (.int (Int32.ofInt (m312 79 6)))), (some (.int (Int32.ofInt 0))), none], [], zk c m443)) (st2 := (244, [(some (.ref 79)), (some (.int (Int32.ofInt sort))), (some (.int (Int32.ofInt (m312 79 6)))), (some (.int (Int32.ofInt 0))), none], [], zk c m443)) ⟨[zo, zo], _, rfl, ⟨trivial, trivial, trivial⟩⟩ rfl ?_
            refine L_X12_text_244 zn _ hN hC sort r_sort ht (m312 79 6) (m443 79 29) m _ (fun x3_456 o4_456 m_456 hIm_456 i1_456 t_456 i29_456 v6_456 v8_456 tD_456 tK_456 tI_456 e_456 => ?_) _ 0 none m443 hIm443 (by omega) (by exact zqT_0 (fun j hj => z_434 j (by omega)) hm443) (by omega) (by omega) (by omega) tk453 (zK_cg tk454 (by omega)) tk455 rfl
            have f457 : (0 : Int) ≤ m_456 79 7 ∧ m_456 79 7 ≤ 4 := hIm_456.1 79 7
            have f458 : (0 : Int) ≤ m_456 79 26 ∧ m_456 79 26 ≤ 5 := hIm_456.1 79 26
            have f459 : (0 : Int) ≤ m_456 79 27 ∧ m_456 79 27 ≤ 6 := hIm_456.1 79 27
            have f460 : (0 : Int) ≤ m_456 79 28 ∧ m_456 79 28 ≤ 5 := hIm_456.1 79 28
            have f461 : (0 : Int) ≤ m_456 79 29 ∧ m_456 79 29 ≤ 6 := hIm_456.1 79 29
            have f462 : (0 : Int) ≤ m_456 79 30 ∧ m_456 79 30 ≤ 6 := hIm_456.1 79 30
            have f463 : (0 : Int) ≤ m_456 79 6 ∧ m_456 79 6 ≤ 240 := hIm_456.1 79 6
            have f464 : (0 : Int) ≤ m_456 79 53 ∧ m_456 79 53 ≤ 6 := hIm_456.1 79 53
            refine zW.step (st1 := (356, [(some (.ref 79)), (some (.int (Int32.ofInt sort))), (some (.int (Int32.ofInt (m312 79 6)))), (some (.int (Int32.ofInt 0))), o4_456], [], zk c m_456)) (st2 := (356, [(some (.ref 79)), (some (.int (Int32.ofInt sort))), (some (.int (Int32.ofInt (m312 79 6)))), (some (.int (Int32.ofInt 0))), o4_456], [], zk c m_456)) ⟨[zo, zo], _, rfl, ⟨trivial, trivial, trivial⟩⟩ rfl ?_
            refine L_X12_text_356 zn _ hN hC sort r_sort ht (m312 79 6) (m_456 79 29) m _ (fun x3_465 o4_465 m_465 hIm_465 i1_465 p3_465 i29_465 v6_465 v8_465 tD_465 tI_465 => ?_) _ 0 o4_456 m_456 hIm_456 (by omega) (by exact zqT_P t_456 (by omega)) (by omega) (by omega) (by omega) tD_456 tI_456 rfl
            have f466 : (0 : Int) ≤ m_465 79 7 ∧ m_465 79 7 ≤ 4 := hIm_465.1 79 7
            have f467 : (0 : Int) ≤ m_465 79 26 ∧ m_465 79 26 ≤ 5 := hIm_465.1 79 26
            have f468 : (0 : Int) ≤ m_465 79 27 ∧ m_465 79 27 ≤ 6 := hIm_465.1 79 27
            have f469 : (0 : Int) ≤ m_465 79 28 ∧ m_465 79 28 ≤ 5 := hIm_465.1 79 28
            have f470 : (0 : Int) ≤ m_465 79 29 ∧ m_465 79 29 ≤ 6 := hIm_465.1 79 29
            have f471 : (0 : Int) ≤ m_465 79 30 ∧ m_465 79 30 ≤ 6 := hIm_465.1 79 30
            have f472 : (0 : Int) ≤ m_465 79 6 ∧ m_465 79 6 ≤ 240 := hIm_465.1 79 6
            have f473 : (0 : Int) ≤ m_465 79 53 ∧ m_465 79 53 ≤ 6 := hIm_465.1 79 53
            obtain ⟨m474, hm474⟩ : ∃ q, q = zm_up m_465 79 53 0 := ⟨_, rfl⟩
            have hIm474 := zJ_upS hIm_465 hm474 (by unfold zOjb; omega) (show (0 : Int) ≤ 0 ∧ 0 ≤ 6 by omega)
            have em474 : m474 79 53 = 0 := by rw [hm474]; exact zm_eq
            have f475 : m474 79 7 = m_465 79 7 := by rw [hm474]; exact zm_ne (Or.inr (by decide))
            have f476 : m474 79 26 = m_465 79 26 := by rw [hm474]; exact zm_ne (Or.inr (by decide))
            have f477 : m474 79 27 = m_465 79 27 := by rw [hm474]; exact zm_ne (Or.inr (by decide))
            have f478 : m474 79 28 = m_465 79 28 := by rw [hm474]; exact zm_ne (Or.inr (by decide))
            have f479 : m474 79 29 = m_465 79 29 := by rw [hm474]; exact zm_ne (Or.inr (by decide))
            have f480 : m474 79 30 = m_465 79 30 := by rw [hm474]; exact zm_ne (Or.inr (by decide))
            have f481 : m474 79 6 = m_465 79 6 := by rw [hm474]; exact zm_ne (Or.inr (by decide))
            have f482 : m474 79 48 = m_465 79 48 := by rw [hm474]; exact zm_ne (Or.inr (by decide))
            have tk483 : zD9 (fun p i => 79 ≤ p ∧ p ≤ 105 ∧ p ≠ 80 ∧ (p ≠ 79 ∨ i ≠ 34)) m m474 := by rw [hm474]; exact zD9_up tD_465 (by first | rfl | omega | (dsimp only; omega))
            have tk484 : zS9 t9 m474 := by rw [hm474]; exact zS9_up tI_465 (by decide)
            have tk485 : zqP (m474 92) 0 := by rw [hm474]; exact zP_up (p3_465) (Or.inl (by decide))
            refine zW.step (st1 := (428, [(some (.ref 79)), (some (.int (Int32.ofInt sort))), (some (.int (Int32.ofInt (m312 79 6)))), (some (.int (Int32.ofInt x3_465))), o4_465], [], z_hup (zk c m_465) 79 (.inr (12, (.int (Int32.ofInt (m_465 79 0)) :: .ref 80 :: .ref 81 :: .ref 82 :: .ref 83 :: zm_rf (m_465 79 5) :: .int (Int32.ofInt (m_465 79 6)) :: .int (Int32.ofInt (m_465 79 7)) :: .int (Int32.ofInt (m_465 79 8)) :: .int (Int32.ofInt (m_465 79 9)) :: .int (Int32.ofInt (m_465 79 10)) :: .int (Int32.ofInt (m_465 79 11)) :: .int (Int32.ofInt (m_465 79 12)) :: .int (Int32.ofInt (m_465 79 13)) :: .int (Int32.ofInt (m_465 79 14)) :: .ref (z_RO + 5) :: .ref (z_RO + 3) :: .int (Int32.ofInt (m_465 79 17)) :: .ref 84 :: .ref 85 :: .ref 86 :: .ref 87 :: .ref 88 :: .ref 89 :: .ref 90 :: .ref 91 :: .int (Int32.ofInt (m_465 79 26)) :: .int (Int32.ofInt (m_465 79 27)) :: .int (Int32.ofInt (m_465 79 28)) :: .int (Int32.ofInt (m_465 79 29)) :: .int (Int32.ofInt (m_465 79 30)) :: .ref 92 :: .ref 93 :: .int (Int32.ofInt (m_465 79 33)) :: .int (Int32.ofInt (m_465 79 34)) :: .ref 94 :: .ref 95 :: .int (Int32.ofInt (m_465 79 37)) :: .int (Int32.ofInt (m_465 79 38)) :: .int (Int32.ofInt (m_465 79 39)) :: .int (Int32.ofInt (m_465 79 40)) :: .int (Int32.ofInt (m_465 79 41)) :: .int (Int32.ofInt (m_465 79 42)) :: .ref 96 :: .ref 97 :: .ref 98 :: .ref 99 :: .ref 100 :: .int (Int32.ofInt (m_465 79 48)) :: .int (Int32.ofInt (m_465 79 49)) :: .long (Int64.ofInt (m_465 79 50)) :: .ref 101 :: .ref 102 :: .int (Int32.ofInt 0) :: .ref 103 :: .ref 104 :: .ref 105 :: .int (Int32.ofInt (m_465 79 57)) :: []))))) (st2 := (428, [(some (.ref 79)), (some (.int (Int32.ofInt sort))), (some (.int (Int32.ofInt (m312 79 6)))), (some (.int (Int32.ofInt x3_465))), o4_465], [], zk c m474)) ⟨[zo, zo, zo], _, rfl, ⟨trivial, trivial, ⟨(Nat.lt_of_lt_of_le (Nat.le_of_ble_eq_true rfl) hN), rfl, rfl⟩, trivial⟩⟩ (z_steq rfl rfl ((zk_up c m_465 79 53 0 _ rfl).trans (by rw [hm474]))) ?_
            obtain ⟨m486, hm486⟩ : ∃ q, q = zm_up m474 79 48 0 := ⟨_, rfl⟩
            have hIm486 := zJ_upE hIm474 hm486 (by unfold zOj; omega) (show (0 : Int) ≤ 0 ∧ 0 ≤ 40 by omega)
            have em486 : m486 79 48 = 0 := by rw [hm486]; exact zm_eq
            have f487 : m486 79 53 = m474 79 53 := by rw [hm486]; exact zm_ne (Or.inr (by decide))
            have f488 : m486 79 7 = m474 79 7 := by rw [hm486]; exact zm_ne (Or.inr (by decide))
            have f489 : m486 79 26 = m474 79 26 := by rw [hm486]; exact zm_ne (Or.inr (by decide))
            have f490 : m486 79 27 = m474 79 27 := by rw [hm486]; exact zm_ne (Or.inr (by decide))
            have f491 : m486 79 28 = m474 79 28 := by rw [hm486]; exact zm_ne (Or.inr (by decide))
            have f492 : m486 79 29 = m474 79 29 := by rw [hm486]; exact zm_ne (Or.inr (by decide))
            have f493 : m486 79 30 = m474 79 30 := by rw [hm486]; exact zm_ne (Or.inr (by decide))
            have f494 : m486 79 6 = m474 79 6 := by rw [hm486]; exact zm_ne (Or.inr (by decide))
            have tk495 : zD9 (fun p i => 79 ≤ p ∧ p ≤ 105 ∧ p ≠ 80 ∧ (p ≠ 79 ∨ i ≠ 34)) m m486 := by rw [hm486]; exact zD9_up tk483 (by first | rfl | omega | (dsimp only; omega))
            have tk496 : zS9 t9 m486 := by rw [hm486]; exact zS9_up tk484 (by decide)
            have tk497 : zqP (m486 92) 0 := by rw [hm486]; exact zP_up tk485 (Or.inl (by decide))
            clear tk483 tk484 tk485
            refine zW.step (st1 := (433, [(some (.ref 79)), (some (.int (Int32.ofInt sort))), (some (.int (Int32.ofInt (m312 79 6)))), (some (.int (Int32.ofInt x3_465))), o4_465], [], z_hup (zk c m474) 79 (.inr (12, (.int (Int32.ofInt (m474 79 0)) :: .ref 80 :: .ref 81 :: .ref 82 :: .ref 83 :: zm_rf (m474 79 5) :: .int (Int32.ofInt (m474 79 6)) :: .int (Int32.ofInt (m474 79 7)) :: .int (Int32.ofInt (m474 79 8)) :: .int (Int32.ofInt (m474 79 9)) :: .int (Int32.ofInt (m474 79 10)) :: .int (Int32.ofInt (m474 79 11)) :: .int (Int32.ofInt (m474 79 12)) :: .int (Int32.ofInt (m474 79 13)) :: .int (Int32.ofInt (m474 79 14)) :: .ref (z_RO + 5) :: .ref (z_RO + 3) :: .int (Int32.ofInt (m474 79 17)) :: .ref 84 :: .ref 85 :: .ref 86 :: .ref 87 :: .ref 88 :: .ref 89 :: .ref 90 :: .ref 91 :: .int (Int32.ofInt (m474 79 26)) :: .int (Int32.ofInt (m474 79 27)) :: .int (Int32.ofInt (m474 79 28)) :: .int (Int32.ofInt (m474 79 29)) :: .int (Int32.ofInt (m474 79 30)) :: .ref 92 :: .ref 93 :: .int (Int32.ofInt (m474 79 33)) :: .int (Int32.ofInt (m474 79 34)) :: .ref 94 :: .ref 95 :: .int (Int32.ofInt (m474 79 37)) :: .int (Int32.ofInt (m474 79 38)) :: .int (Int32.ofInt (m474 79 39)) :: .int (Int32.ofInt (m474 79 40)) :: .int (Int32.ofInt (m474 79 41)) :: .int (Int32.ofInt (m474 79 42)) :: .ref 96 :: .ref 97 :: .ref 98 :: .ref 99 :: .ref 100 :: .int (Int32.ofInt 0) :: .int (Int32.ofInt (m474 79 49)) :: .long (Int64.ofInt (m474 79 50)) :: .ref 101 :: .ref 102 :: .int (Int32.ofInt (m474 79 53)) :: .ref 103 :: .ref 104 :: .ref 105 :: .int (Int32.ofInt (m474 79 57)) :: []))))) (st2 := (433, [(some (.ref 79)), (some (.int (Int32.ofInt sort))), (some (.int (Int32.ofInt (m312 79 6)))), (some (.int (Int32.ofInt x3_465))), o4_465], [], zk c m486)) ⟨[zo, zo, zo], _, rfl, ⟨trivial, trivial, ⟨(Nat.lt_of_lt_of_le (Nat.le_of_ble_eq_true rfl) hN), rfl, rfl⟩, trivial⟩⟩ (z_steq rfl rfl ((zk_up c m474 79 48 0 _ rfl).trans (by rw [hm486]))) ?_
            obtain ⟨m498, hm498⟩ : ∃ q, q = zm_up m486 79 49 0 := ⟨_, rfl⟩
            have hIm498 := zJ_upE hIm486 hm498 (by unfold zOj; omega) (show (0 : Int) ≤ 0 ∧ 0 ≤ 60 by omega)
            have em498 : m498 79 49 = 0 := by rw [hm498]; exact zm_eq
            have f499 : m498 79 48 = m486 79 48 := by rw [hm498]; exact zm_ne (Or.inr (by decide))
            have f500 : m498 79 53 = m486 79 53 := by rw [hm498]; exact zm_ne (Or.inr (by decide))
            have f501 : m498 79 7 = m486 79 7 := by rw [hm498]; exact zm_ne (Or.inr (by decide))
            have f502 : m498 79 26 = m486 79 26 := by rw [hm498]; exact zm_ne (Or.inr (by decide))
            have f503 : m498 79 27 = m486 79 27 := by rw [hm498]; exact zm_ne (Or.inr (by decide))
            have f504 : m498 79 28 = m486 79 28 := by rw [hm498]; exact zm_ne (Or.inr (by decide))
            have f505 : m498 79 29 = m486 79 29 := by rw [hm498]; exact zm_ne (Or.inr (by decide))
            have f506 : m498 79 30 = m486 79 30 := by rw [hm498]; exact zm_ne (Or.inr (by decide))
            have f507 : m498 79 6 = m486 79 6 := by rw [hm498]; exact zm_ne (Or.inr (by decide))
            have tk508 : zD9 (fun p i => 79 ≤ p ∧ p ≤ 105 ∧ p ≠ 80 ∧ (p ≠ 79 ∨ i ≠ 34)) m m498 := by rw [hm498]; exact zD9_up tk495 (by first | rfl | omega | (dsimp only; omega))
            have tk509 : zS9 t9 m498 := by rw [hm498]; exact zS9_up tk496 (by decide)
            have tk510 : zqP (m498 92) 0 := by rw [hm498]; exact zP_up tk497 (Or.inl (by decide))
            clear tk495 tk496 tk497
            refine zW.step (st1 := (438, [(some (.ref 79)), (some (.int (Int32.ofInt sort))), (some (.int (Int32.ofInt (m312 79 6)))), (some (.int (Int32.ofInt x3_465))), o4_465], [], z_hup (zk c m486) 79 (.inr (12, (.int (Int32.ofInt (m486 79 0)) :: .ref 80 :: .ref 81 :: .ref 82 :: .ref 83 :: zm_rf (m486 79 5) :: .int (Int32.ofInt (m486 79 6)) :: .int (Int32.ofInt (m486 79 7)) :: .int (Int32.ofInt (m486 79 8)) :: .int (Int32.ofInt (m486 79 9)) :: .int (Int32.ofInt (m486 79 10)) :: .int (Int32.ofInt (m486 79 11)) :: .int (Int32.ofInt (m486 79 12)) :: .int (Int32.ofInt (m486 79 13)) :: .int (Int32.ofInt (m486 79 14)) :: .ref (z_RO + 5) :: .ref (z_RO + 3) :: .int (Int32.ofInt (m486 79 17)) :: .ref 84 :: .ref 85 :: .ref 86 :: .ref 87 :: .ref 88 :: .ref 89 :: .ref 90 :: .ref 91 :: .int (Int32.ofInt (m486 79 26)) :: .int (Int32.ofInt (m486 79 27)) :: .int (Int32.ofInt (m486 79 28)) :: .int (Int32.ofInt (m486 79 29)) :: .int (Int32.ofInt (m486 79 30)) :: .ref 92 :: .ref 93 :: .int (Int32.ofInt (m486 79 33)) :: .int (Int32.ofInt (m486 79 34)) :: .ref 94 :: .ref 95 :: .int (Int32.ofInt (m486 79 37)) :: .int (Int32.ofInt (m486 79 38)) :: .int (Int32.ofInt (m486 79 39)) :: .int (Int32.ofInt (m486 79 40)) :: .int (Int32.ofInt (m486 79 41)) :: .int (Int32.ofInt (m486 79 42)) :: .ref 96 :: .ref 97 :: .ref 98 :: .ref 99 :: .ref 100 :: .int (Int32.ofInt (m486 79 48)) :: .int (Int32.ofInt 0) :: .long (Int64.ofInt (m486 79 50)) :: .ref 101 :: .ref 102 :: .int (Int32.ofInt (m486 79 53)) :: .ref 103 :: .ref 104 :: .ref 105 :: .int (Int32.ofInt (m486 79 57)) :: []))))) (st2 := (438, [(some (.ref 79)), (some (.int (Int32.ofInt sort))), (some (.int (Int32.ofInt (m312 79 6)))), (some (.int (Int32.ofInt x3_465))), o4_465], [], zk c m498)) ⟨[zo, zo, zo], _, rfl, ⟨trivial, trivial, ⟨(Nat.lt_of_lt_of_le (Nat.le_of_ble_eq_true rfl) hN), rfl, rfl⟩, trivial⟩⟩ (z_steq rfl rfl ((zk_up c m486 79 49 0 _ rfl).trans (by rw [hm498]))) ?_
            obtain ⟨m511, hm511⟩ : ∃ q, q = zm_up m498 79 57 0 := ⟨_, rfl⟩
            have hIm511 := zJ_upE hIm498 hm511 (zOj_79 (by decide)) (show (0 : Int) ≤ 0 ∧ 0 ≤ 1 by omega)
            have em511 : m511 79 57 = 0 := by rw [hm511]; exact zm_eq
            have f512 : m511 79 48 = m498 79 48 := by rw [hm511]; exact zm_ne (Or.inr (by decide))
            have f513 : m511 79 53 = m498 79 53 := by rw [hm511]; exact zm_ne (Or.inr (by decide))
            have f514 : m511 79 7 = m498 79 7 := by rw [hm511]; exact zm_ne (Or.inr (by decide))
            have f515 : m511 79 26 = m498 79 26 := by rw [hm511]; exact zm_ne (Or.inr (by decide))
            have f516 : m511 79 27 = m498 79 27 := by rw [hm511]; exact zm_ne (Or.inr (by decide))
            have f517 : m511 79 28 = m498 79 28 := by rw [hm511]; exact zm_ne (Or.inr (by decide))
            have f518 : m511 79 29 = m498 79 29 := by rw [hm511]; exact zm_ne (Or.inr (by decide))
            have f519 : m511 79 30 = m498 79 30 := by rw [hm511]; exact zm_ne (Or.inr (by decide))
            have f520 : m511 79 6 = m498 79 6 := by rw [hm511]; exact zm_ne (Or.inr (by decide))
            have tk521 : zD9 (fun p i => 79 ≤ p ∧ p ≤ 105 ∧ p ≠ 80 ∧ (p ≠ 79 ∨ i ≠ 34)) m m511 := by rw [hm511]; exact zD9_up tk508 (by first | rfl | omega | (dsimp only; omega))
            have tk522 : zS9 t9 m511 := by rw [hm511]; exact zS9_up tk509 (by decide)
            have tk523 : zqP (m511 92) 0 := by rw [hm511]; exact zP_up tk510 (Or.inl (by decide))
            clear tk508 tk509 tk510
            refine zW.step (st1 := (443, [(some (.ref 79)), (some (.int (Int32.ofInt sort))), (some (.int (Int32.ofInt (m312 79 6)))), (some (.int (Int32.ofInt x3_465))), o4_465], [], z_hup (zk c m498) 79 (.inr (12, (.int (Int32.ofInt (m498 79 0)) :: .ref 80 :: .ref 81 :: .ref 82 :: .ref 83 :: zm_rf (m498 79 5) :: .int (Int32.ofInt (m498 79 6)) :: .int (Int32.ofInt (m498 79 7)) :: .int (Int32.ofInt (m498 79 8)) :: .int (Int32.ofInt (m498 79 9)) :: .int (Int32.ofInt (m498 79 10)) :: .int (Int32.ofInt (m498 79 11)) :: .int (Int32.ofInt (m498 79 12)) :: .int (Int32.ofInt (m498 79 13)) :: .int (Int32.ofInt (m498 79 14)) :: .ref (z_RO + 5) :: .ref (z_RO + 3) :: .int (Int32.ofInt (m498 79 17)) :: .ref 84 :: .ref 85 :: .ref 86 :: .ref 87 :: .ref 88 :: .ref 89 :: .ref 90 :: .ref 91 :: .int (Int32.ofInt (m498 79 26)) :: .int (Int32.ofInt (m498 79 27)) :: .int (Int32.ofInt (m498 79 28)) :: .int (Int32.ofInt (m498 79 29)) :: .int (Int32.ofInt (m498 79 30)) :: .ref 92 :: .ref 93 :: .int (Int32.ofInt (m498 79 33)) :: .int (Int32.ofInt (m498 79 34)) :: .ref 94 :: .ref 95 :: .int (Int32.ofInt (m498 79 37)) :: .int (Int32.ofInt (m498 79 38)) :: .int (Int32.ofInt (m498 79 39)) :: .int (Int32.ofInt (m498 79 40)) :: .int (Int32.ofInt (m498 79 41)) :: .int (Int32.ofInt (m498 79 42)) :: .ref 96 :: .ref 97 :: .ref 98 :: .ref 99 :: .ref 100 :: .int (Int32.ofInt (m498 79 48)) :: .int (Int32.ofInt (m498 79 49)) :: .long (Int64.ofInt (m498 79 50)) :: .ref 101 :: .ref 102 :: .int (Int32.ofInt (m498 79 53)) :: .ref 103 :: .ref 104 :: .ref 105 :: .int (Int32.ofInt 0) :: []))))) (st2 := (443, [(some (.ref 79)), (some (.int (Int32.ofInt sort))), (some (.int (Int32.ofInt (m312 79 6)))), (some (.int (Int32.ofInt x3_465))), o4_465], [], zk c m511)) ⟨[zo, zo, zo], _, rfl, ⟨trivial, trivial, ⟨(Nat.lt_of_lt_of_le (Nat.le_of_ble_eq_true rfl) hN), (z_narZ rfl (by omega)), rfl⟩, trivial⟩⟩ (z_steq rfl rfl ((zk_up c m498 79 57 0 _ rfl).trans (by rw [hm511]))) ?_
            have f524 : (0 : Int) ≤ m511 79 29 ∧ m511 79 29 ≤ 6 := hIm511.1 79 29
            refine zW.step (st1 := (447, [(some (.ref 79)), (some (.int (Int32.ofInt sort))), (some (.int (Int32.ofInt (m312 79 6)))), (some (.int (Int32.ofInt x3_465))), o4_465], [.int (Int32.ofInt (m511 79 29))], zk c m511)) (st2 := (447, [(some (.ref 79)), (some (.int (Int32.ofInt sort))), (some (.int (Int32.ofInt (m312 79 6)))), (some (.int (Int32.ofInt x3_465))), o4_465], [.int (Int32.ofInt (m511 79 29))], zk c m511)) ⟨[zo, zo], _, rfl, ⟨trivial, (Nat.lt_of_lt_of_le (Nat.le_of_ble_eq_true rfl) hN), trivial⟩⟩ rfl ?_
            exact zW.fin (zfin_i rfl rfl rfl) ⟨m511 79 29, m511, rfl, rfl, (zJ_self (zJ_text hIm511 tk523 (by omega) tk522 (by omega))), (by omega), (by omega), (by omega), (by omega), tk521⟩
        · refine zW.step (st1 := (37, [(some (.ref 79)), (some (.int (Int32.ofInt sort))), none, none, none], [], zk c m312)) (st2 := (37, [(some (.ref 79)), (some (.int (Int32.ofInt sort))), none, none, none], [], zk c m312)) ⟨[zo, zo], _, rfl, ⟨trivial, zbf (fun q => b326 ((zi_eq rfl rfl (by unfold zR; omega) (⟨by decide, by decide⟩ : zR (-1))).mp q)), trivial⟩⟩ rfl ?_
          refine zW.step (st1 := (38, [(some (.ref 79)), (some (.int (Int32.ofInt sort))), none, none, none], [.int (Int32.ofInt (-1))], zk c m312)) (st2 := (38, [(some (.ref 79)), (some (.int (Int32.ofInt sort))), none, none, none], [.int (Int32.ofInt (-1))], zk c m312)) ⟨[zo], _, rfl, ⟨trivial, trivial⟩⟩ rfl ?_
          exact zW.fin (zfin_i rfl rfl rfl) ⟨(-1), m312, rfl, rfl, (zJ_self hIm312), (by omega), (by omega), (by omega), (by omega), tk324⟩
    · refine zW.step (st1 := (28, [(some (.ref 79)), (some (.int (Int32.ofInt sort))), none, none, none], [], zk c m281)) (st2 := (28, [(some (.ref 79)), (some (.int (Int32.ofInt sort))), none, none, none], [], zk c m281)) ⟨[zo, zo, zt], _, rfl, ⟨trivial, trivial, zbt (fun q => b310 ((zi_eq rfl rfl (by unfold zR; omega) (⟨by decide, by decide⟩ : zR 1)).mp q)), trivial⟩⟩ rfl ?_
      refine zW.step (st1 := (30, [(some (.ref 79)), (some (.int (Int32.ofInt sort))), none, none, none], [.int (Int32.ofInt sort), .ref 79], zk c m281)) (st2 := (30, [(some (.ref 79)), (some (.int (Int32.ofInt sort))), none, none, none], [.int (Int32.ofInt sort), .ref 79], zk c m281)) ⟨[zo, zo], _, rfl, ⟨trivial, trivial, trivial⟩⟩ rfl ?_
      obtain ⟨r525, m525, hs525, hIm525, q_525, hs_525, kk_525, f0_525, f1_525, f2_525, s_525, kV_525⟩ := S_X12_fault_F zn (d + 0) hN hC sort m281 hIm281 (by omega)
      refine zW.step (st1 := (33, [(some (.ref 79)), (some (.int (Int32.ofInt sort))), none, none, none], [.int (Int32.ofInt r525)], zk c m525)) ⟨[zc (some (.int (Int32.ofInt r525))) (zk c m525)], _, rfl, ⟨⟨⟨(Nat.lt_of_lt_of_le (Nat.le_of_ble_eq_true rfl) hN), (Nat.le_of_ble_eq_true rfl)⟩, hs525, (Nat.le_of_ble_eq_true rfl), Nat.le_refl _, Nat.le_refl _, Nat.le_refl _, Nat.le_refl _⟩, trivial⟩⟩ rfl ?_
      have f526 : (0 : Int) ≤ m525 79 7 ∧ m525 79 7 ≤ 4 := hIm525.1 79 7
      have f527 : m525 79 7 = m281 79 7 := kV_525 79 7 (by omega)
      have f528 : (0 : Int) ≤ m525 79 26 ∧ m525 79 26 ≤ 5 := hIm525.1 79 26
      have f529 : m525 79 26 = m281 79 26 := kV_525 79 26 (by omega)
      have f530 : (0 : Int) ≤ m525 79 27 ∧ m525 79 27 ≤ 6 := hIm525.1 79 27
      have f531 : m525 79 27 = m281 79 27 := kV_525 79 27 (by omega)
      have f532 : (0 : Int) ≤ m525 79 28 ∧ m525 79 28 ≤ 5 := hIm525.1 79 28
      have f533 : (0 : Int) ≤ m525 79 29 ∧ m525 79 29 ≤ 6 := hIm525.1 79 29
      have f534 : (0 : Int) ≤ m525 79 30 ∧ m525 79 30 ≤ 6 := hIm525.1 79 30
      have f535 : (0 : Int) ≤ m525 79 6 ∧ m525 79 6 ≤ 240 := hIm525.1 79 6
      have f536 : (0 : Int) ≤ m525 79 53 ∧ m525 79 53 ≤ 6 := hIm525.1 79 53
      have tk537 : zD9 (fun p i => 79 ≤ p ∧ p ≤ 105 ∧ p ≠ 80 ∧ (p ≠ 79 ∨ i ≠ 34)) m m525 := zD9_tr tk291 (zD9_J hIm281 hIm525)
      have q538 := zn_t hIm525
      by_cases b539 : r525 = (-1)
      · refine zW.step (st1 := (39, [(some (.ref 79)), (some (.int (Int32.ofInt sort))), none, none, none], [], zk c m525)) (st2 := (39, [(some (.ref 79)), (some (.int (Int32.ofInt sort))), none, none, none], [], zk c m525)) ⟨[zo, zt], _, rfl, ⟨trivial, zbt ((zi_eq rfl rfl (by unfold zR; omega) (⟨by decide, by decide⟩ : zR (-1))).mpr b539), trivial⟩⟩ rfl ?_
        obtain ⟨m540, hm540⟩ : ∃ q, q = zm_up m525 79 6 0 := ⟨_, rfl⟩
        have hIm540 := zJ_upS hIm525 hm540 (by unfold zOjb; omega) (show (0 : Int) ≤ 0 ∧ 0 ≤ 240 by omega)
        have em540 : m540 79 6 = 0 := by rw [hm540]; exact zm_eq
        have f541 : m540 79 7 = m525 79 7 := by rw [hm540]; exact zm_ne (Or.inr (by decide))
        have f542 : m540 79 26 = m525 79 26 := by rw [hm540]; exact zm_ne (Or.inr (by decide))
        have f543 : m540 79 27 = m525 79 27 := by rw [hm540]; exact zm_ne (Or.inr (by decide))
        have f544 : m540 79 28 = m525 79 28 := by rw [hm540]; exact zm_ne (Or.inr (by decide))
        have f545 : m540 79 29 = m525 79 29 := by rw [hm540]; exact zm_ne (Or.inr (by decide))
        have f546 : m540 79 30 = m525 79 30 := by rw [hm540]; exact zm_ne (Or.inr (by decide))
        have f547 : m540 79 53 = m525 79 53 := by rw [hm540]; exact zm_ne (Or.inr (by decide))
        have f548 : m540 79 48 = m525 79 48 := by rw [hm540]; exact zm_ne (Or.inr (by decide))
        have tk549 : zD9 (fun p i => 79 ≤ p ∧ p ≤ 105 ∧ p ≠ 80 ∧ (p ≠ 79 ∨ i ≠ 34)) m m540 := by rw [hm540]; exact zD9_up tk537 (by first | rfl | omega | (dsimp only; omega))
        clear tk537
        refine zW.step (st1 := (49, [(some (.ref 79)), (some (.int (Int32.ofInt sort))), (some (.int (Int32.ofInt (m525 79 6)))), none, none], [], z_hup (zk c m525) 79 (.inr (12, (.int (Int32.ofInt (m525 79 0)) :: .ref 80 :: .ref 81 :: .ref 82 :: .ref 83 :: zm_rf (m525 79 5) :: .int (Int32.ofInt 0) :: .int (Int32.ofInt (m525 79 7)) :: .int (Int32.ofInt (m525 79 8)) :: .int (Int32.ofInt (m525 79 9)) :: .int (Int32.ofInt (m525 79 10)) :: .int (Int32.ofInt (m525 79 11)) :: .int (Int32.ofInt (m525 79 12)) :: .int (Int32.ofInt (m525 79 13)) :: .int (Int32.ofInt (m525 79 14)) :: .ref (z_RO + 5) :: .ref (z_RO + 3) :: .int (Int32.ofInt (m525 79 17)) :: .ref 84 :: .ref 85 :: .ref 86 :: .ref 87 :: .ref 88 :: .ref 89 :: .ref 90 :: .ref 91 :: .int (Int32.ofInt (m525 79 26)) :: .int (Int32.ofInt (m525 79 27)) :: .int (Int32.ofInt (m525 79 28)) :: .int (Int32.ofInt (m525 79 29)) :: .int (Int32.ofInt (m525 79 30)) :: .ref 92 :: .ref 93 :: .int (Int32.ofInt (m525 79 33)) :: .int (Int32.ofInt (m525 79 34)) :: .ref 94 :: .ref 95 :: .int (Int32.ofInt (m525 79 37)) :: .int (Int32.ofInt (m525 79 38)) :: .int (Int32.ofInt (m525 79 39)) :: .int (Int32.ofInt (m525 79 40)) :: .int (Int32.ofInt (m525 79 41)) :: .int (Int32.ofInt (m525 79 42)) :: .ref 96 :: .ref 97 :: .ref 98 :: .ref 99 :: .ref 100 :: .int (Int32.ofInt (m525 79 48)) :: .int (Int32.ofInt (m525 79 49)) :: .long (Int64.ofInt (m525 79 50)) :: .ref 101 :: .ref 102 :: .int (Int32.ofInt (m525 79 53)) :: .ref 103 :: .ref 104 :: .ref 105 :: .int (Int32.ofInt (m525 79 57)) :: []))))) (st2 := (49, [(some (.ref 79)), (some (.int (Int32.ofInt sort))), (some (.int (Int32.ofInt (m525 79 6)))), none, none], [], zk c m540)) ⟨[zo, zo, zo, zo, zo, zo], _, rfl, ⟨trivial, (Nat.lt_of_lt_of_le (Nat.le_of_ble_eq_true rfl) hN), trivial, trivial, trivial, ⟨(Nat.lt_of_lt_of_le (Nat.le_of_ble_eq_true rfl) hN), rfl, rfl⟩, trivial⟩⟩ (z_steq rfl rfl ((zk_up c m525 79 6 0 _ rfl).trans (by rw [hm540]))) ?_
        by_cases b550 : sort = 1
        · refine zW.step (st1 := (54, [(some (.ref 79)), (some (.int (Int32.ofInt sort))), (some (.int (Int32.ofInt (m525 79 6)))), none, none], [], zk c m540)) (st2 := (54, [(some (.ref 79)), (some (.int (Int32.ofInt sort))), (some (.int (Int32.ofInt (m525 79 6)))), none, none], [], zk c m540)) ⟨[zo, zo, zo], _, rfl, ⟨trivial, trivial, zbf (fun q => q ((zi_eq rfl rfl (by unfold zR; omega) (⟨by decide, by decide⟩ : zR 1)).mpr b550)), trivial⟩⟩ rfl ?_
          have f551 : (0 : Int) ≤ m540 79 7 ∧ m540 79 7 ≤ 4 := hIm540.1 79 7
          have f552 : (0 : Int) ≤ m540 79 26 ∧ m540 79 26 ≤ 5 := hIm540.1 79 26
          have f553 : (0 : Int) ≤ m540 79 27 ∧ m540 79 27 ≤ 6 := hIm540.1 79 27
          have f554 : (0 : Int) ≤ m540 79 28 ∧ m540 79 28 ≤ 5 := hIm540.1 79 28
          have f555 : (0 : Int) ≤ m540 79 29 ∧ m540 79 29 ≤ 6 := hIm540.1 79 29
          have f556 : (0 : Int) ≤ m540 79 30 ∧ m540 79 30 ≤ 6 := hIm540.1 79 30
          have f557 : (0 : Int) ≤ m540 79 6 ∧ m540 79 6 ≤ 240 := hIm540.1 79 6
          have f558 : (0 : Int) ≤ m540 79 53 ∧ m540 79 53 ≤ 6 := hIm540.1 79 53
          refine zW.step (st1 := (56, [(some (.ref 79)), (some (.int (Int32.ofInt sort))), (some (.int (Int32.ofInt (m525 79 6)))), (some (.int (Int32.ofInt 0))), none], [], zk c m540)) (st2 := (56, [(some (.ref 79)), (some (.int (Int32.ofInt sort))), (some (.int (Int32.ofInt (m525 79 6)))), (some (.int (Int32.ofInt 0))), none], [], zk c m540)) ⟨[zo, zo], _, rfl, ⟨trivial, trivial, trivial⟩⟩ rfl ?_
          refine L_X12_text_56 zn _ hN hC sort r_sort ht (m525 79 6) m _ (fun x3_559 m_559 hIm_559 i1_559 i7_559 v6_559 v2_559 tD_559 => ?_) _ 0 m540 hIm540 (by omega) (by omega) (by omega) (by omega) tk549 rfl
          have f560 : (0 : Int) ≤ m_559 79 7 ∧ m_559 79 7 ≤ 4 := hIm_559.1 79 7
          have f561 : (0 : Int) ≤ m_559 79 26 ∧ m_559 79 26 ≤ 5 := hIm_559.1 79 26
          have f562 : (0 : Int) ≤ m_559 79 27 ∧ m_559 79 27 ≤ 6 := hIm_559.1 79 27
          have f563 : (0 : Int) ≤ m_559 79 28 ∧ m_559 79 28 ≤ 5 := hIm_559.1 79 28
          have f564 : (0 : Int) ≤ m_559 79 29 ∧ m_559 79 29 ≤ 6 := hIm_559.1 79 29
          have f565 : (0 : Int) ≤ m_559 79 30 ∧ m_559 79 30 ≤ 6 := hIm_559.1 79 30
          have f566 : (0 : Int) ≤ m_559 79 6 ∧ m_559 79 6 ≤ 240 := hIm_559.1 79 6
          have f567 : (0 : Int) ≤ m_559 79 53 ∧ m_559 79 53 ≤ 6 := hIm_559.1 79 53
          obtain ⟨m568, hm568⟩ : ∃ q, q = zm_up m_559 82 ((m_559 79 7).toNat) (m525 79 6) := ⟨_, rfl⟩
          have hIm568 := zJ_upE hIm_559 hm568 (zOj_p (by decide)) (show (0 : Int) ≤ (m525 79 6) ∧ (m525 79 6) ≤ 240 by omega)
          have em568 : m568 82 ((m_559 79 7).toNat) = (m525 79 6) := by rw [hm568]; exact zm_eq
          have f569 : m568 79 7 = m_559 79 7 := by rw [hm568]; exact zm_ne (Or.inl (by decide))
          have f570 : m568 79 26 = m_559 79 26 := by rw [hm568]; exact zm_ne (Or.inl (by decide))
          have f571 : m568 79 27 = m_559 79 27 := by rw [hm568]; exact zm_ne (Or.inl (by decide))
          have f572 : m568 79 28 = m_559 79 28 := by rw [hm568]; exact zm_ne (Or.inl (by decide))
          have f573 : m568 79 29 = m_559 79 29 := by rw [hm568]; exact zm_ne (Or.inl (by decide))
          have f574 : m568 79 30 = m_559 79 30 := by rw [hm568]; exact zm_ne (Or.inl (by decide))
          have f575 : m568 79 6 = m_559 79 6 := by rw [hm568]; exact zm_ne (Or.inl (by decide))
          have f576 : m568 79 53 = m_559 79 53 := by rw [hm568]; exact zm_ne (Or.inl (by decide))
          have f577 : m568 79 48 = m_559 79 48 := by rw [hm568]; exact zm_ne (Or.inl (by decide))
          have tk578 : zD9 (fun p i => 79 ≤ p ∧ p ≤ 105 ∧ p ≠ 80 ∧ (p ≠ 79 ∨ i ≠ 34)) m m568 := by rw [hm568]; exact zD9_up tD_559 (by first | rfl | omega | (dsimp only; omega))
          refine zW.step (st1 := (98, [(some (.ref 79)), (some (.int (Int32.ofInt sort))), (some (.int (Int32.ofInt (m525 79 6)))), (some (.int (Int32.ofInt x3_559))), none], [], z_hup (zk c m_559) 82 (.inl (0, 4, .inl (upd (fun j => Int32.ofInt (m_559 82 j)) (Int32.ofInt (m_559 79 7)).toNatClampNeg (Int32.ofInt (m525 79 6))))))) (st2 := (98, [(some (.ref 79)), (some (.int (Int32.ofInt sort))), (some (.int (Int32.ofInt (m525 79 6)))), (some (.int (Int32.ofInt x3_559))), none], [], zk c m568)) ⟨[zo, zo, zo, zo, zo, (false, 0, none, zh0, some (.inl (0, 4, .inl (fun j => Int32.ofInt (m_559 82 j)))))], _, rfl, ⟨trivial, (Nat.lt_of_lt_of_le (Nat.le_of_ble_eq_true rfl) hN), trivial, (Nat.lt_of_lt_of_le (Nat.le_of_ble_eq_true rfl) hN), trivial, ⟨zk_ra c m_559 zA_82 (Nat.lt_of_lt_of_le (Nat.le_of_ble_eq_true rfl) hN), zi_in rfl (by omega) (by omega) (by omega)⟩, trivial⟩⟩ (z_steq rfl rfl ((zk_ias c m_559 zA_82 rfl (by unfold zR; omega) rfl).trans (by rw [hm568]))) ?_
          have f579 : (0 : Int) ≤ m568 79 7 ∧ m568 79 7 ≤ 4 := hIm568.1 79 7
          obtain ⟨m580, hm580⟩ : ∃ q, q = zm_up m568 79 7 ((m568 79 7) + 1) := ⟨_, rfl⟩
          have hIm580 := zJ_upS hIm568 hm580 (by unfold zOjb; omega) (show (0 : Int) ≤ ((m568 79 7) + 1) ∧ ((m568 79 7) + 1) ≤ 4 by omega)
          have em580 : m580 79 7 = ((m568 79 7) + 1) := by rw [hm580]; exact zm_eq
          have f581 : m580 79 26 = m568 79 26 := by rw [hm580]; exact zm_ne (Or.inr (by decide))
          have f582 : m580 79 27 = m568 79 27 := by rw [hm580]; exact zm_ne (Or.inr (by decide))
          have f583 : m580 79 28 = m568 79 28 := by rw [hm580]; exact zm_ne (Or.inr (by decide))
          have f584 : m580 79 29 = m568 79 29 := by rw [hm580]; exact zm_ne (Or.inr (by decide))
          have f585 : m580 79 30 = m568 79 30 := by rw [hm580]; exact zm_ne (Or.inr (by decide))
          have f586 : m580 79 6 = m568 79 6 := by rw [hm580]; exact zm_ne (Or.inr (by decide))
          have f587 : m580 79 53 = m568 79 53 := by rw [hm580]; exact zm_ne (Or.inr (by decide))
          have f588 : m580 79 48 = m568 79 48 := by rw [hm580]; exact zm_ne (Or.inr (by decide))
          have tk589 : zD9 (fun p i => 79 ≤ p ∧ p ≤ 105 ∧ p ≠ 80 ∧ (p ≠ 79 ∨ i ≠ 34)) m m580 := by rw [hm580]; exact zD9_up tk578 (by first | rfl | omega | (dsimp only; omega))
          clear tk578
          refine zW.step (st1 := (108, [(some (.ref 79)), (some (.int (Int32.ofInt sort))), (some (.int (Int32.ofInt (m525 79 6)))), (some (.int (Int32.ofInt x3_559))), none], [], z_hup (zk c m568) 79 (.inr (12, (.int (Int32.ofInt (m568 79 0)) :: .ref 80 :: .ref 81 :: .ref 82 :: .ref 83 :: zm_rf (m568 79 5) :: .int (Int32.ofInt (m568 79 6)) :: .int ((Int32.ofInt (m568 79 7)) + (Int32.ofInt 1)) :: .int (Int32.ofInt (m568 79 8)) :: .int (Int32.ofInt (m568 79 9)) :: .int (Int32.ofInt (m568 79 10)) :: .int (Int32.ofInt (m568 79 11)) :: .int (Int32.ofInt (m568 79 12)) :: .int (Int32.ofInt (m568 79 13)) :: .int (Int32.ofInt (m568 79 14)) :: .ref (z_RO + 5) :: .ref (z_RO + 3) :: .int (Int32.ofInt (m568 79 17)) :: .ref 84 :: .ref 85 :: .ref 86 :: .ref 87 :: .ref 88 :: .ref 89 :: .ref 90 :: .ref 91 :: .int (Int32.ofInt (m568 79 26)) :: .int (Int32.ofInt (m568 79 27)) :: .int (Int32.ofInt (m568 79 28)) :: .int (Int32.ofInt (m568 79 29)) :: .int (Int32.ofInt (m568 79 30)) :: .ref 92 :: .ref 93 :: .int (Int32.ofInt (m568 79 33)) :: .int (Int32.ofInt (m568 79 34)) :: .ref 94 :: .ref 95 :: .int (Int32.ofInt (m568 79 37)) :: .int (Int32.ofInt (m568 79 38)) :: .int (Int32.ofInt (m568 79 39)) :: .int (Int32.ofInt (m568 79 40)) :: .int (Int32.ofInt (m568 79 41)) :: .int (Int32.ofInt (m568 79 42)) :: .ref 96 :: .ref 97 :: .ref 98 :: .ref 99 :: .ref 100 :: .int (Int32.ofInt (m568 79 48)) :: .int (Int32.ofInt (m568 79 49)) :: .long (Int64.ofInt (m568 79 50)) :: .ref 101 :: .ref 102 :: .int (Int32.ofInt (m568 79 53)) :: .ref 103 :: .ref 104 :: .ref 105 :: .int (Int32.ofInt (m568 79 57)) :: []))))) (st2 := (108, [(some (.ref 79)), (some (.int (Int32.ofInt sort))), (some (.int (Int32.ofInt (m525 79 6)))), (some (.int (Int32.ofInt x3_559))), none], [], zk c m580)) ⟨[zo, zo, zo, zo, zo, zo], _, rfl, ⟨trivial, trivial, (Nat.lt_of_lt_of_le (Nat.le_of_ble_eq_true rfl) hN), trivial, trivial, ⟨(Nat.lt_of_lt_of_le (Nat.le_of_ble_eq_true rfl) hN), rfl, rfl⟩, trivial⟩⟩ (z_steq rfl rfl ((zk_up c m568 79 7 ((m568 79 7) + 1) _ ((congrArg (fun q => (.inr (12, (.int (Int32.ofInt (m568 79 0)) :: .ref 80 :: .ref 81 :: .ref 82 :: .ref 83 :: zm_rf (m568 79 5) :: .int (Int32.ofInt (m568 79 6)) :: .int q :: .int (Int32.ofInt (m568 79 8)) :: .int (Int32.ofInt (m568 79 9)) :: .int (Int32.ofInt (m568 79 10)) :: .int (Int32.ofInt (m568 79 11)) :: .int (Int32.ofInt (m568 79 12)) :: .int (Int32.ofInt (m568 79 13)) :: .int (Int32.ofInt (m568 79 14)) :: .ref (z_RO + 5) :: .ref (z_RO + 3) :: .int (Int32.ofInt (m568 79 17)) :: .ref 84 :: .ref 85 :: .ref 86 :: .ref 87 :: .ref 88 :: .ref 89 :: .ref 90 :: .ref 91 :: .int (Int32.ofInt (m568 79 26)) :: .int (Int32.ofInt (m568 79 27)) :: .int (Int32.ofInt (m568 79 28)) :: .int (Int32.ofInt (m568 79 29)) :: .int (Int32.ofInt (m568 79 30)) :: .ref 92 :: .ref 93 :: .int (Int32.ofInt (m568 79 33)) :: .int (Int32.ofInt (m568 79 34)) :: .ref 94 :: .ref 95 :: .int (Int32.ofInt (m568 79 37)) :: .int (Int32.ofInt (m568 79 38)) :: .int (Int32.ofInt (m568 79 39)) :: .int (Int32.ofInt (m568 79 40)) :: .int (Int32.ofInt (m568 79 41)) :: .int (Int32.ofInt (m568 79 42)) :: .ref 96 :: .ref 97 :: .ref 98 :: .ref 99 :: .ref 100 :: .int (Int32.ofInt (m568 79 48)) :: .int (Int32.ofInt (m568 79 49)) :: .long (Int64.ofInt (m568 79 50)) :: .ref 101 :: .ref 102 :: .int (Int32.ofInt (m568 79 53)) :: .ref 103 :: .ref 104 :: .ref 105 :: .int (Int32.ofInt (m568 79 57)) :: [])) : z_E)) (zi_add rfl rfl)).trans rfl)).trans (by rw [hm580]))) ?_
          have f590 : (0 : Int) ≤ m580 79 7 ∧ m580 79 7 ≤ 4 := hIm580.1 79 7
          refine zW.step (st1 := (114, [(some (.ref 79)), (some (.int (Int32.ofInt sort))), (some (.int (Int32.ofInt (m525 79 6)))), (some (.int (Int32.ofInt x3_559))), none], [.int ((Int32.ofInt (m580 79 7)) - (Int32.ofInt 1))], zk c m580)) (st2 := (114, [(some (.ref 79)), (some (.int (Int32.ofInt sort))), (some (.int (Int32.ofInt (m525 79 6)))), (some (.int (Int32.ofInt x3_559))), none], [.int (Int32.ofInt ((m580 79 7) - 1))], zk c m580)) ⟨[zo, zo, zo, zo], _, rfl, ⟨trivial, (Nat.lt_of_lt_of_le (Nat.le_of_ble_eq_true rfl) hN), trivial, trivial, trivial⟩⟩ (z_steq rfl (z_c1 (z_vi (zi_sub rfl rfl)) rfl) rfl) ?_
          exact zW.fin (zfin_i rfl rfl rfl) ⟨(m580 79 7) - 1, m580, rfl, rfl, (zJ_self hIm580), (by omega), (by omega), (by omega), (by omega), tk589⟩
        · refine zW.step (st1 := (115, [(some (.ref 79)), (some (.int (Int32.ofInt sort))), (some (.int (Int32.ofInt (m525 79 6)))), none, none], [], zk c m540)) (st2 := (115, [(some (.ref 79)), (some (.int (Int32.ofInt sort))), (some (.int (Int32.ofInt (m525 79 6)))), none, none], [], zk c m540)) ⟨[zo, zo, zt], _, rfl, ⟨trivial, trivial, zbt (fun q => b550 ((zi_eq rfl rfl (by unfold zR; omega) (⟨by decide, by decide⟩ : zR 1)).mp q)), trivial⟩⟩ rfl ?_
          have f591 : (0 : Int) ≤ m540 79 7 ∧ m540 79 7 ≤ 4 := hIm540.1 79 7
          have f592 : (0 : Int) ≤ m540 79 26 ∧ m540 79 26 ≤ 5 := hIm540.1 79 26
          have f593 : (0 : Int) ≤ m540 79 27 ∧ m540 79 27 ≤ 6 := hIm540.1 79 27
          have f594 : (0 : Int) ≤ m540 79 28 ∧ m540 79 28 ≤ 5 := hIm540.1 79 28
          have f595 : (0 : Int) ≤ m540 79 29 ∧ m540 79 29 ≤ 6 := hIm540.1 79 29
          have f596 : (0 : Int) ≤ m540 79 30 ∧ m540 79 30 ≤ 6 := hIm540.1 79 30
          have f597 : (0 : Int) ≤ m540 79 6 ∧ m540 79 6 ≤ 240 := hIm540.1 79 6
          have f598 : (0 : Int) ≤ m540 79 53 ∧ m540 79 53 ≤ 6 := hIm540.1 79 53
          obtain ⟨m599, hm599⟩ : ∃ q, q = zm_up m540 79 26 (m540 79 28) := ⟨_, rfl⟩
          have hIm599 := zJ_up26 hIm540 hm599 (by omega)
          have em599 : m599 79 26 = (m540 79 28) := by rw [hm599]; exact zm_eq
          have f600 : m599 79 6 = m540 79 6 := by rw [hm599]; exact zm_ne (Or.inr (by decide))
          have f601 : m599 79 7 = m540 79 7 := by rw [hm599]; exact zm_ne (Or.inr (by decide))
          have f602 : m599 79 27 = m540 79 27 := by rw [hm599]; exact zm_ne (Or.inr (by decide))
          have f603 : m599 79 28 = m540 79 28 := by rw [hm599]; exact zm_ne (Or.inr (by decide))
          have f604 : m599 79 29 = m540 79 29 := by rw [hm599]; exact zm_ne (Or.inr (by decide))
          have f605 : m599 79 30 = m540 79 30 := by rw [hm599]; exact zm_ne (Or.inr (by decide))
          have f606 : m599 79 53 = m540 79 53 := by rw [hm599]; exact zm_ne (Or.inr (by decide))
          have f607 : m599 79 48 = m540 79 48 := by rw [hm599]; exact zm_ne (Or.inr (by decide))
          have tk608 : zD9 (fun p i => 79 ≤ p ∧ p ≤ 105 ∧ p ≠ 80 ∧ (p ≠ 79 ∨ i ≠ 34)) m m599 := by rw [hm599]; exact zD9_up tk549 (by first | rfl | omega | (dsimp only; omega))
          clear tk549
          refine zW.step (st1 := (123, [(some (.ref 79)), (some (.int (Int32.ofInt sort))), (some (.int (Int32.ofInt (m525 79 6)))), none, none], [], z_hup (zk c m540) 79 (.inr (12, (.int (Int32.ofInt (m540 79 0)) :: .ref 80 :: .ref 81 :: .ref 82 :: .ref 83 :: zm_rf (m540 79 5) :: .int (Int32.ofInt (m540 79 6)) :: .int (Int32.ofInt (m540 79 7)) :: .int (Int32.ofInt (m540 79 8)) :: .int (Int32.ofInt (m540 79 9)) :: .int (Int32.ofInt (m540 79 10)) :: .int (Int32.ofInt (m540 79 11)) :: .int (Int32.ofInt (m540 79 12)) :: .int (Int32.ofInt (m540 79 13)) :: .int (Int32.ofInt (m540 79 14)) :: .ref (z_RO + 5) :: .ref (z_RO + 3) :: .int (Int32.ofInt (m540 79 17)) :: .ref 84 :: .ref 85 :: .ref 86 :: .ref 87 :: .ref 88 :: .ref 89 :: .ref 90 :: .ref 91 :: .int (Int32.ofInt (m540 79 28)) :: .int (Int32.ofInt (m540 79 27)) :: .int (Int32.ofInt (m540 79 28)) :: .int (Int32.ofInt (m540 79 29)) :: .int (Int32.ofInt (m540 79 30)) :: .ref 92 :: .ref 93 :: .int (Int32.ofInt (m540 79 33)) :: .int (Int32.ofInt (m540 79 34)) :: .ref 94 :: .ref 95 :: .int (Int32.ofInt (m540 79 37)) :: .int (Int32.ofInt (m540 79 38)) :: .int (Int32.ofInt (m540 79 39)) :: .int (Int32.ofInt (m540 79 40)) :: .int (Int32.ofInt (m540 79 41)) :: .int (Int32.ofInt (m540 79 42)) :: .ref 96 :: .ref 97 :: .ref 98 :: .ref 99 :: .ref 100 :: .int (Int32.ofInt (m540 79 48)) :: .int (Int32.ofInt (m540 79 49)) :: .long (Int64.ofInt (m540 79 50)) :: .ref 101 :: .ref 102 :: .int (Int32.ofInt (m540 79 53)) :: .ref 103 :: .ref 104 :: .ref 105 :: .int (Int32.ofInt (m540 79 57)) :: []))))) (st2 := (123, [(some (.ref 79)), (some (.int (Int32.ofInt sort))), (some (.int (Int32.ofInt (m525 79 6)))), none, none], [], zk c m599)) ⟨[zo, zo, zo, zo], _, rfl, ⟨trivial, trivial, (Nat.lt_of_lt_of_le (Nat.le_of_ble_eq_true rfl) hN), ⟨(Nat.lt_of_lt_of_le (Nat.le_of_ble_eq_true rfl) hN), rfl, rfl⟩, trivial⟩⟩ (z_steq rfl rfl ((zk_up c m540 79 26 (m540 79 28) _ rfl).trans (by rw [hm599]))) ?_
          have f609 : (0 : Int) ≤ m599 79 30 ∧ m599 79 30 ≤ 6 := hIm599.1 79 30
          obtain ⟨m610, hm610⟩ : ∃ q, q = zm_up m599 79 27 (m599 79 30) := ⟨_, rfl⟩
          have hIm610 := zJ_up27 hIm599 hm610 (by omega) (by omega)
          have em610 : m610 79 27 = (m599 79 30) := by rw [hm610]; exact zm_eq
          have f611 : m610 79 26 = m599 79 26 := by rw [hm610]; exact zm_ne (Or.inr (by decide))
          have f612 : m610 79 6 = m599 79 6 := by rw [hm610]; exact zm_ne (Or.inr (by decide))
          have f613 : m610 79 7 = m599 79 7 := by rw [hm610]; exact zm_ne (Or.inr (by decide))
          have f614 : m610 79 28 = m599 79 28 := by rw [hm610]; exact zm_ne (Or.inr (by decide))
          have f615 : m610 79 29 = m599 79 29 := by rw [hm610]; exact zm_ne (Or.inr (by decide))
          have f616 : m610 79 30 = m599 79 30 := by rw [hm610]; exact zm_ne (Or.inr (by decide))
          have f617 : m610 79 53 = m599 79 53 := by rw [hm610]; exact zm_ne (Or.inr (by decide))
          have f618 : m610 79 48 = m599 79 48 := by rw [hm610]; exact zm_ne (Or.inr (by decide))
          have tk619 : zD9 (fun p i => 79 ≤ p ∧ p ≤ 105 ∧ p ≠ 80 ∧ (p ≠ 79 ∨ i ≠ 34)) m m610 := by rw [hm610]; exact zD9_up tk608 (by first | rfl | omega | (dsimp only; omega))
          clear tk608
          refine zW.step (st1 := (131, [(some (.ref 79)), (some (.int (Int32.ofInt sort))), (some (.int (Int32.ofInt (m525 79 6)))), none, none], [], z_hup (zk c m599) 79 (.inr (12, (.int (Int32.ofInt (m599 79 0)) :: .ref 80 :: .ref 81 :: .ref 82 :: .ref 83 :: zm_rf (m599 79 5) :: .int (Int32.ofInt (m599 79 6)) :: .int (Int32.ofInt (m599 79 7)) :: .int (Int32.ofInt (m599 79 8)) :: .int (Int32.ofInt (m599 79 9)) :: .int (Int32.ofInt (m599 79 10)) :: .int (Int32.ofInt (m599 79 11)) :: .int (Int32.ofInt (m599 79 12)) :: .int (Int32.ofInt (m599 79 13)) :: .int (Int32.ofInt (m599 79 14)) :: .ref (z_RO + 5) :: .ref (z_RO + 3) :: .int (Int32.ofInt (m599 79 17)) :: .ref 84 :: .ref 85 :: .ref 86 :: .ref 87 :: .ref 88 :: .ref 89 :: .ref 90 :: .ref 91 :: .int (Int32.ofInt (m599 79 26)) :: .int (Int32.ofInt (m599 79 30)) :: .int (Int32.ofInt (m599 79 28)) :: .int (Int32.ofInt (m599 79 29)) :: .int (Int32.ofInt (m599 79 30)) :: .ref 92 :: .ref 93 :: .int (Int32.ofInt (m599 79 33)) :: .int (Int32.ofInt (m599 79 34)) :: .ref 94 :: .ref 95 :: .int (Int32.ofInt (m599 79 37)) :: .int (Int32.ofInt (m599 79 38)) :: .int (Int32.ofInt (m599 79 39)) :: .int (Int32.ofInt (m599 79 40)) :: .int (Int32.ofInt (m599 79 41)) :: .int (Int32.ofInt (m599 79 42)) :: .ref 96 :: .ref 97 :: .ref 98 :: .ref 99 :: .ref 100 :: .int (Int32.ofInt (m599 79 48)) :: .int (Int32.ofInt (m599 79 49)) :: .long (Int64.ofInt (m599 79 50)) :: .ref 101 :: .ref 102 :: .int (Int32.ofInt (m599 79 53)) :: .ref 103 :: .ref 104 :: .ref 105 :: .int (Int32.ofInt (m599 79 57)) :: []))))) (st2 := (131, [(some (.ref 79)), (some (.int (Int32.ofInt sort))), (some (.int (Int32.ofInt (m525 79 6)))), none, none], [], zk c m610)) ⟨[zo, zo, zo, zo], _, rfl, ⟨trivial, trivial, (Nat.lt_of_lt_of_le (Nat.le_of_ble_eq_true rfl) hN), ⟨(Nat.lt_of_lt_of_le (Nat.le_of_ble_eq_true rfl) hN), rfl, rfl⟩, trivial⟩⟩ (z_steq rfl rfl ((zk_up c m599 79 27 (m599 79 30) _ rfl).trans (by rw [hm610]))) ?_
          refine zW.step (st1 := (133, [(some (.ref 79)), (some (.int (Int32.ofInt sort))), (some (.int (Int32.ofInt (m525 79 6)))), (some (.int (Int32.ofInt 0))), none], [], zk c m610)) (st2 := (133, [(some (.ref 79)), (some (.int (Int32.ofInt sort))), (some (.int (Int32.ofInt (m525 79 6)))), (some (.int (Int32.ofInt 0))), none], [], zk c m610)) ⟨[zo, zo], _, rfl, ⟨trivial, trivial, trivial⟩⟩ rfl ?_
          refine L_X12_text_133 zn _ hN hC sort r_sort ht (m525 79 6) (m610 79 29) m _ (fun x3_620 m_620 hIm_620 i1_620 i29_620 v6_620 v8_620 tD_620 tK_620 => ?_) _ 0 m610 hIm610 (by omega) (by omega) (by omega) (by omega) tk619 (zK_cg (zK_upE (zK_upE (zK_upE (kk_525 (by omega)) hm540 (by decide)) hm599 (by decide)) hm610 (by decide)) (by omega)) rfl
          have f621 : (0 : Int) ≤ m_620 79 7 ∧ m_620 79 7 ≤ 4 := hIm_620.1 79 7
          have f622 : (0 : Int) ≤ m_620 79 26 ∧ m_620 79 26 ≤ 5 := hIm_620.1 79 26
          have f623 : (0 : Int) ≤ m_620 79 27 ∧ m_620 79 27 ≤ 6 := hIm_620.1 79 27
          have f624 : (0 : Int) ≤ m_620 79 28 ∧ m_620 79 28 ≤ 5 := hIm_620.1 79 28
          have f625 : (0 : Int) ≤ m_620 79 29 ∧ m_620 79 29 ≤ 6 := hIm_620.1 79 29
          have f626 : (0 : Int) ≤ m_620 79 30 ∧ m_620 79 30 ≤ 6 := hIm_620.1 79 30
          have f627 : (0 : Int) ≤ m_620 79 6 ∧ m_620 79 6 ≤ 240 := hIm_620.1 79 6
          have f628 : (0 : Int) ≤ m_620 79 53 ∧ m_620 79 53 ≤ 6 := hIm_620.1 79 53
          refine zW.step (st1 := (158, [(some (.ref 79)), (some (.int (Int32.ofInt sort))), (some (.int (Int32.ofInt (m525 79 6)))), (some (.int (Int32.ofInt 0))), none], [], zk c m_620)) (st2 := (158, [(some (.ref 79)), (some (.int (Int32.ofInt sort))), (some (.int (Int32.ofInt (m525 79 6)))), (some (.int (Int32.ofInt 0))), none], [], zk c m_620)) ⟨[zo, zo], _, rfl, ⟨trivial, trivial, trivial⟩⟩ rfl ?_
          refine L_X12_text_158 zn _ hN hC sort r_sort ht (m525 79 6) (m_620 79 29) m _ (fun x3_629 m_629 hIm_629 i1_629 i29_629 v6_629 v8_629 tD_629 tK_629 => ?_) _ 0 m_620 hIm_620 (by omega) (by omega) (by omega) (by omega) tD_620 (zK_cg tK_620 (by omega)) rfl
          have f630 : (0 : Int) ≤ m_629 79 7 ∧ m_629 79 7 ≤ 4 := hIm_629.1 79 7
          have f631 : (0 : Int) ≤ m_629 79 26 ∧ m_629 79 26 ≤ 5 := hIm_629.1 79 26
          have f632 : (0 : Int) ≤ m_629 79 27 ∧ m_629 79 27 ≤ 6 := hIm_629.1 79 27
          have f633 : (0 : Int) ≤ m_629 79 28 ∧ m_629 79 28 ≤ 5 := hIm_629.1 79 28
          have f634 : (0 : Int) ≤ m_629 79 29 ∧ m_629 79 29 ≤ 6 := hIm_629.1 79 29
          have f635 : (0 : Int) ≤ m_629 79 30 ∧ m_629 79 30 ≤ 6 := hIm_629.1 79 30
          have f636 : (0 : Int) ≤ m_629 79 6 ∧ m_629 79 6 ≤ 240 := hIm_629.1 79 6
          have f637 : (0 : Int) ≤ m_629 79 53 ∧ m_629 79 53 ≤ 6 := hIm_629.1 79 53
          refine zW.step (st1 := (184, [(some (.ref 79)), (some (.int (Int32.ofInt sort))), (some (.int (Int32.ofInt (m525 79 6)))), (some (.int (Int32.ofInt 0))), none], [], zk c m_629)) (st2 := (184, [(some (.ref 79)), (some (.int (Int32.ofInt sort))), (some (.int (Int32.ofInt (m525 79 6)))), (some (.int (Int32.ofInt 0))), none], [], zk c m_629)) ⟨[zo, zo], _, rfl, ⟨trivial, trivial, trivial⟩⟩ rfl ?_
          refine L_X12_text_184 zn _ hN hC sort r_sort ht (m525 79 6) (m_629 79 29) m _ (fun x3_638 m_638 hIm_638 i1_638 i29_638 v6_638 v8_638 tD_638 tK_638 => ?_) _ 0 m_629 hIm_629 (by omega) (by omega) (by omega) (by omega) tD_629 (zK_cg tK_629 (by omega)) rfl
          have f639 : (0 : Int) ≤ m_638 79 7 ∧ m_638 79 7 ≤ 4 := hIm_638.1 79 7
          have f640 : (0 : Int) ≤ m_638 79 26 ∧ m_638 79 26 ≤ 5 := hIm_638.1 79 26
          have f641 : (0 : Int) ≤ m_638 79 27 ∧ m_638 79 27 ≤ 6 := hIm_638.1 79 27
          have f642 : (0 : Int) ≤ m_638 79 28 ∧ m_638 79 28 ≤ 5 := hIm_638.1 79 28
          have f643 : (0 : Int) ≤ m_638 79 29 ∧ m_638 79 29 ≤ 6 := hIm_638.1 79 29
          have f644 : (0 : Int) ≤ m_638 79 30 ∧ m_638 79 30 ≤ 6 := hIm_638.1 79 30
          have f645 : (0 : Int) ≤ m_638 79 6 ∧ m_638 79 6 ≤ 240 := hIm_638.1 79 6
          have f646 : (0 : Int) ≤ m_638 79 53 ∧ m_638 79 53 ≤ 6 := hIm_638.1 79 53
          refine zW.step (st1 := (210, [(some (.ref 79)), (some (.int (Int32.ofInt sort))), (some (.int (Int32.ofInt (m525 79 6)))), (some (.int (Int32.ofInt 0))), none], [], zk c m_638)) (st2 := (210, [(some (.ref 79)), (some (.int (Int32.ofInt sort))), (some (.int (Int32.ofInt (m525 79 6)))), (some (.int (Int32.ofInt 0))), none], [], zk c m_638)) ⟨[zo, zo], _, rfl, ⟨trivial, trivial, trivial⟩⟩ rfl ?_
          refine L_X12_text_210 zn _ hN hC sort r_sort ht (m525 79 6) (m_638 79 29) m _ (fun x3_647 m_647 hIm_647 i1_647 z_647 i29_647 v6_647 v8_647 tD_647 tK_647 tI_647 e_647 => ?_) _ 0 m_638 (zJ_99 hIm_638) (by omega) (by intro j hj; omega) (by omega) (by omega) (by omega) tD_638 (zK_cg tK_638 (by omega)) (zS9_of hIm_638) rfl
          have f648 : (0 : Int) ≤ m_647 79 7 ∧ m_647 79 7 ≤ 4 := hIm_647.1 79 7
          have f649 : (0 : Int) ≤ m_647 79 26 ∧ m_647 79 26 ≤ 5 := hIm_647.1 79 26
          have f650 : (0 : Int) ≤ m_647 79 27 ∧ m_647 79 27 ≤ 6 := hIm_647.1 79 27
          have f651 : (0 : Int) ≤ m_647 79 28 ∧ m_647 79 28 ≤ 5 := hIm_647.1 79 28
          have f652 : (0 : Int) ≤ m_647 79 29 ∧ m_647 79 29 ≤ 6 := hIm_647.1 79 29
          have f653 : (0 : Int) ≤ m_647 79 30 ∧ m_647 79 30 ≤ 6 := hIm_647.1 79 30
          have f654 : (0 : Int) ≤ m_647 79 6 ∧ m_647 79 6 ≤ 240 := hIm_647.1 79 6
          have f655 : (0 : Int) ≤ m_647 79 53 ∧ m_647 79 53 ≤ 6 := hIm_647.1 79 53
          obtain ⟨m656, hm656⟩ : ∃ q, q = zm_up m_647 92 174 (m_647 79 29) := ⟨_, rfl⟩
          have hIm656 := zJ_upE hIm_647 hm656 (by unfold zOj zsen; omega) (zvw_174 zV_92 (show (0 : Int) ≤ (m_647 79 29) ∧ (m_647 79 29) ≤ 10 by omega))
          have em656 : m656 92 174 = (m_647 79 29) := by rw [hm656]; exact zm_eq
          have f657 : m656 79 7 = m_647 79 7 := by rw [hm656]; exact zm_ne (Or.inl (by decide))
          have f658 : m656 79 26 = m_647 79 26 := by rw [hm656]; exact zm_ne (Or.inl (by decide))
          have f659 : m656 79 27 = m_647 79 27 := by rw [hm656]; exact zm_ne (Or.inl (by decide))
          have f660 : m656 79 28 = m_647 79 28 := by rw [hm656]; exact zm_ne (Or.inl (by decide))
          have f661 : m656 79 29 = m_647 79 29 := by rw [hm656]; exact zm_ne (Or.inl (by decide))
          have f662 : m656 79 30 = m_647 79 30 := by rw [hm656]; exact zm_ne (Or.inl (by decide))
          have f663 : m656 79 6 = m_647 79 6 := by rw [hm656]; exact zm_ne (Or.inl (by decide))
          have f664 : m656 79 53 = m_647 79 53 := by rw [hm656]; exact zm_ne (Or.inl (by decide))
          have f665 : m656 79 48 = m_647 79 48 := by rw [hm656]; exact zm_ne (Or.inl (by decide))
          have tk666 : zD9 (fun p i => 79 ≤ p ∧ p ≤ 105 ∧ p ≠ 80 ∧ (p ≠ 79 ∨ i ≠ 34)) m m656 := by rw [hm656]; exact zD9_up tD_647 (by first | rfl | omega | (dsimp only; omega))
          have tk667 : zK m656 (m_647 79 29) := by rw [hm656]; exact zK_up tK_647 (by decide)
          have tk668 : zS9 t9 m656 := by rw [hm656]; exact zS9_up tI_647 (by decide)
          refine zW.step (st1 := (242, [(some (.ref 79)), (some (.int (Int32.ofInt sort))), (some (.int (Int32.ofInt (m525 79 6)))), (some (.int (Int32.ofInt x3_647))), none], [], z_hup (zk c m_647) 92 (.inl (0, 178, .inl (upd (fun j => Int32.ofInt (m_647 92 j)) ((Int16.ofInt 174).toInt32).toNatClampNeg (Int32.ofInt (m_647 79 29))))))) (st2 := (242, [(some (.ref 79)), (some (.int (Int32.ofInt sort))), (some (.int (Int32.ofInt (m525 79 6)))), (some (.int (Int32.ofInt x3_647))), none], [], zk c m656)) ⟨[zo, zo, zo, zo, zo, (false, 0, none, zh0, some (.inl (0, 178, .inl (fun j => Int32.ofInt (m_647 92 j)))))], _, rfl, ⟨trivial, (Nat.lt_of_lt_of_le (Nat.le_of_ble_eq_true rfl) hN), trivial, trivial, (Nat.lt_of_lt_of_le (Nat.le_of_ble_eq_true rfl) hN), ⟨zk_ra c m_647 zA_92 (Nat.lt_of_lt_of_le (Nat.le_of_ble_eq_true rfl) hN), zi_in (by decide : (Int16.ofInt 174).toInt32 = Int32.ofInt 174) (by omega) (by omega) (by omega)⟩, trivial⟩⟩ (z_steq rfl rfl ((zk_ias c m_647 zA_92 (by decide : (Int16.ofInt 174).toInt32 = Int32.ofInt 174) (⟨by decide, by decide⟩ : zR 174) rfl).trans (by rw [hm656]; rfl))) ?_
          refine zW.step (st1 := (244, [(some (.ref 79)), (some (.int (Int32.ofInt sort))), (some (.int (Int32.ofInt (m525 79 6)))), (some (.int (Int32.ofInt 0))), none], [], zk c m656)) (st2 := (244, [(some (.ref 79)), (some (.int (Int32.ofInt sort))), (some (.int (Int32.ofInt (m525 79 6)))), (some (.int (Int32.ofInt 0))), none], [], zk c m656)) ⟨[zo, zo], _, rfl, ⟨trivial, trivial, trivial⟩⟩ rfl ?_
          refine L_X12_text_244 zn _ hN hC sort r_sort ht (m525 79 6) (m656 79 29) m _ (fun x3_669 o4_669 m_669 hIm_669 i1_669 t_669 i29_669 v6_669 v8_669 tD_669 tK_669 tI_669 e_669 => ?_) _ 0 none m656 hIm656 (by omega) (by exact zqT_0 (fun j hj => z_647 j (by omega)) hm656) (by omega) (by omega) (by omega) tk666 (zK_cg tk667 (by omega)) tk668 rfl
          have f670 : (0 : Int) ≤ m_669 79 7 ∧ m_669 79 7 ≤ 4 := hIm_669.1 79 7
          have f671 : (0 : Int) ≤ m_669 79 26 ∧ m_669 79 26 ≤ 5 := hIm_669.1 79 26
          have f672 : (0 : Int) ≤ m_669 79 27 ∧ m_669 79 27 ≤ 6 := hIm_669.1 79 27
          have f673 : (0 : Int) ≤ m_669 79 28 ∧ m_669 79 28 ≤ 5 := hIm_669.1 79 28
          have f674 : (0 : Int) ≤ m_669 79 29 ∧ m_669 79 29 ≤ 6 := hIm_669.1 79 29
          have f675 : (0 : Int) ≤ m_669 79 30 ∧ m_669 79 30 ≤ 6 := hIm_669.1 79 30
          have f676 : (0 : Int) ≤ m_669 79 6 ∧ m_669 79 6 ≤ 240 := hIm_669.1 79 6
          have f677 : (0 : Int) ≤ m_669 79 53 ∧ m_669 79 53 ≤ 6 := hIm_669.1 79 53
          refine zW.step (st1 := (356, [(some (.ref 79)), (some (.int (Int32.ofInt sort))), (some (.int (Int32.ofInt (m525 79 6)))), (some (.int (Int32.ofInt 0))), o4_669], [], zk c m_669)) (st2 := (356, [(some (.ref 79)), (some (.int (Int32.ofInt sort))), (some (.int (Int32.ofInt (m525 79 6)))), (some (.int (Int32.ofInt 0))), o4_669], [], zk c m_669)) ⟨[zo, zo], _, rfl, ⟨trivial, trivial, trivial⟩⟩ rfl ?_
          refine L_X12_text_356 zn _ hN hC sort r_sort ht (m525 79 6) (m_669 79 29) m _ (fun x3_678 o4_678 m_678 hIm_678 i1_678 p3_678 i29_678 v6_678 v8_678 tD_678 tI_678 => ?_) _ 0 o4_669 m_669 hIm_669 (by omega) (by exact zqT_P t_669 (by omega)) (by omega) (by omega) (by omega) tD_669 tI_669 rfl
          have f679 : (0 : Int) ≤ m_678 79 7 ∧ m_678 79 7 ≤ 4 := hIm_678.1 79 7
          have f680 : (0 : Int) ≤ m_678 79 26 ∧ m_678 79 26 ≤ 5 := hIm_678.1 79 26
          have f681 : (0 : Int) ≤ m_678 79 27 ∧ m_678 79 27 ≤ 6 := hIm_678.1 79 27
          have f682 : (0 : Int) ≤ m_678 79 28 ∧ m_678 79 28 ≤ 5 := hIm_678.1 79 28
          have f683 : (0 : Int) ≤ m_678 79 29 ∧ m_678 79 29 ≤ 6 := hIm_678.1 79 29
          have f684 : (0 : Int) ≤ m_678 79 30 ∧ m_678 79 30 ≤ 6 := hIm_678.1 79 30
          have f685 : (0 : Int) ≤ m_678 79 6 ∧ m_678 79 6 ≤ 240 := hIm_678.1 79 6
          have f686 : (0 : Int) ≤ m_678 79 53 ∧ m_678 79 53 ≤ 6 := hIm_678.1 79 53
          obtain ⟨m687, hm687⟩ : ∃ q, q = zm_up m_678 79 53 0 := ⟨_, rfl⟩
          have hIm687 := zJ_upS hIm_678 hm687 (by unfold zOjb; omega) (show (0 : Int) ≤ 0 ∧ 0 ≤ 6 by omega)
          have em687 : m687 79 53 = 0 := by rw [hm687]; exact zm_eq
          have f688 : m687 79 7 = m_678 79 7 := by rw [hm687]; exact zm_ne (Or.inr (by decide))
          have f689 : m687 79 26 = m_678 79 26 := by rw [hm687]; exact zm_ne (Or.inr (by decide))
          have f690 : m687 79 27 = m_678 79 27 := by rw [hm687]; exact zm_ne (Or.inr (by decide))
          have f691 : m687 79 28 = m_678 79 28 := by rw [hm687]; exact zm_ne (Or.inr (by decide))
          have f692 : m687 79 29 = m_678 79 29 := by rw [hm687]; exact zm_ne (Or.inr (by decide))
          have f693 : m687 79 30 = m_678 79 30 := by rw [hm687]; exact zm_ne (Or.inr (by decide))
          have f694 : m687 79 6 = m_678 79 6 := by rw [hm687]; exact zm_ne (Or.inr (by decide))
          have f695 : m687 79 48 = m_678 79 48 := by rw [hm687]; exact zm_ne (Or.inr (by decide))
          have tk696 : zD9 (fun p i => 79 ≤ p ∧ p ≤ 105 ∧ p ≠ 80 ∧ (p ≠ 79 ∨ i ≠ 34)) m m687 := by rw [hm687]; exact zD9_up tD_678 (by first | rfl | omega | (dsimp only; omega))
          have tk697 : zS9 t9 m687 := by rw [hm687]; exact zS9_up tI_678 (by decide)
          have tk698 : zqP (m687 92) 0 := by rw [hm687]; exact zP_up (p3_678) (Or.inl (by decide))
          refine zW.step (st1 := (428, [(some (.ref 79)), (some (.int (Int32.ofInt sort))), (some (.int (Int32.ofInt (m525 79 6)))), (some (.int (Int32.ofInt x3_678))), o4_678], [], z_hup (zk c m_678) 79 (.inr (12, (.int (Int32.ofInt (m_678 79 0)) :: .ref 80 :: .ref 81 :: .ref 82 :: .ref 83 :: zm_rf (m_678 79 5) :: .int (Int32.ofInt (m_678 79 6)) :: .int (Int32.ofInt (m_678 79 7)) :: .int (Int32.ofInt (m_678 79 8)) :: .int (Int32.ofInt (m_678 79 9)) :: .int (Int32.ofInt (m_678 79 10)) :: .int (Int32.ofInt (m_678 79 11)) :: .int (Int32.ofInt (m_678 79 12)) :: .int (Int32.ofInt (m_678 79 13)) :: .int (Int32.ofInt (m_678 79 14)) :: .ref (z_RO + 5) :: .ref (z_RO + 3) :: .int (Int32.ofInt (m_678 79 17)) :: .ref 84 :: .ref 85 :: .ref 86 :: .ref 87 :: .ref 88 :: .ref 89 :: .ref 90 :: .ref 91 :: .int (Int32.ofInt (m_678 79 26)) :: .int (Int32.ofInt (m_678 79 27)) :: .int (Int32.ofInt (m_678 79 28)) :: .int (Int32.ofInt (m_678 79 29)) :: .int (Int32.ofInt (m_678 79 30)) :: .ref 92 :: .ref 93 :: .int (Int32.ofInt (m_678 79 33)) :: .int (Int32.ofInt (m_678 79 34)) :: .ref 94 :: .ref 95 :: .int (Int32.ofInt (m_678 79 37)) :: .int (Int32.ofInt (m_678 79 38)) :: .int (Int32.ofInt (m_678 79 39)) :: .int (Int32.ofInt (m_678 79 40)) :: .int (Int32.ofInt (m_678 79 41)) :: .int (Int32.ofInt (m_678 79 42)) :: .ref 96 :: .ref 97 :: .ref 98 :: .ref 99 :: .ref 100 :: .int (Int32.ofInt (m_678 79 48)) :: .int (Int32.ofInt (m_678 79 49)) :: .long (Int64.ofInt (m_678 79 50)) :: .ref 101 :: .ref 102 :: .int (Int32.ofInt 0) :: .ref 103 :: .ref 104 :: .ref 105 :: .int (Int32.ofInt (m_678 79 57)) :: []))))) (st2 := (428, [(some (.ref 79)), (some (.int (Int32.ofInt sort))), (some (.int (Int32.ofInt (m525 79 6)))), (some (.int (Int32.ofInt x3_678))), o4_678], [], zk c m687)) ⟨[zo, zo, zo], _, rfl, ⟨trivial, trivial, ⟨(Nat.lt_of_lt_of_le (Nat.le_of_ble_eq_true rfl) hN), rfl, rfl⟩, trivial⟩⟩ (z_steq rfl rfl ((zk_up c m_678 79 53 0 _ rfl).trans (by rw [hm687]))) ?_
          obtain ⟨m699, hm699⟩ : ∃ q, q = zm_up m687 79 48 0 := ⟨_, rfl⟩
          have hIm699 := zJ_upE hIm687 hm699 (by unfold zOj; omega) (show (0 : Int) ≤ 0 ∧ 0 ≤ 40 by omega)
          have em699 : m699 79 48 = 0 := by rw [hm699]; exact zm_eq
          have f700 : m699 79 53 = m687 79 53 := by rw [hm699]; exact zm_ne (Or.inr (by decide))
          have f701 : m699 79 7 = m687 79 7 := by rw [hm699]; exact zm_ne (Or.inr (by decide))
          have f702 : m699 79 26 = m687 79 26 := by rw [hm699]; exact zm_ne (Or.inr (by decide))
          have f703 : m699 79 27 = m687 79 27 := by rw [hm699]; exact zm_ne (Or.inr (by decide))
          have f704 : m699 79 28 = m687 79 28 := by rw [hm699]; exact zm_ne (Or.inr (by decide))
          have f705 : m699 79 29 = m687 79 29 := by rw [hm699]; exact zm_ne (Or.inr (by decide))
          have f706 : m699 79 30 = m687 79 30 := by rw [hm699]; exact zm_ne (Or.inr (by decide))
          have f707 : m699 79 6 = m687 79 6 := by rw [hm699]; exact zm_ne (Or.inr (by decide))
          have tk708 : zD9 (fun p i => 79 ≤ p ∧ p ≤ 105 ∧ p ≠ 80 ∧ (p ≠ 79 ∨ i ≠ 34)) m m699 := by rw [hm699]; exact zD9_up tk696 (by first | rfl | omega | (dsimp only; omega))
          have tk709 : zS9 t9 m699 := by rw [hm699]; exact zS9_up tk697 (by decide)
          have tk710 : zqP (m699 92) 0 := by rw [hm699]; exact zP_up tk698 (Or.inl (by decide))
          clear tk696 tk697 tk698
          refine zW.step (st1 := (433, [(some (.ref 79)), (some (.int (Int32.ofInt sort))), (some (.int (Int32.ofInt (m525 79 6)))), (some (.int (Int32.ofInt x3_678))), o4_678], [], z_hup (zk c m687) 79 (.inr (12, (.int (Int32.ofInt (m687 79 0)) :: .ref 80 :: .ref 81 :: .ref 82 :: .ref 83 :: zm_rf (m687 79 5) :: .int (Int32.ofInt (m687 79 6)) :: .int (Int32.ofInt (m687 79 7)) :: .int (Int32.ofInt (m687 79 8)) :: .int (Int32.ofInt (m687 79 9)) :: .int (Int32.ofInt (m687 79 10)) :: .int (Int32.ofInt (m687 79 11)) :: .int (Int32.ofInt (m687 79 12)) :: .int (Int32.ofInt (m687 79 13)) :: .int (Int32.ofInt (m687 79 14)) :: .ref (z_RO + 5) :: .ref (z_RO + 3) :: .int (Int32.ofInt (m687 79 17)) :: .ref 84 :: .ref 85 :: .ref 86 :: .ref 87 :: .ref 88 :: .ref 89 :: .ref 90 :: .ref 91 :: .int (Int32.ofInt (m687 79 26)) :: .int (Int32.ofInt (m687 79 27)) :: .int (Int32.ofInt (m687 79 28)) :: .int (Int32.ofInt (m687 79 29)) :: .int (Int32.ofInt (m687 79 30)) :: .ref 92 :: .ref 93 :: .int (Int32.ofInt (m687 79 33)) :: .int (Int32.ofInt (m687 79 34)) :: .ref 94 :: .ref 95 :: .int (Int32.ofInt (m687 79 37)) :: .int (Int32.ofInt (m687 79 38)) :: .int (Int32.ofInt (m687 79 39)) :: .int (Int32.ofInt (m687 79 40)) :: .int (Int32.ofInt (m687 79 41)) :: .int (Int32.ofInt (m687 79 42)) :: .ref 96 :: .ref 97 :: .ref 98 :: .ref 99 :: .ref 100 :: .int (Int32.ofInt 0) :: .int (Int32.ofInt (m687 79 49)) :: .long (Int64.ofInt (m687 79 50)) :: .ref 101 :: .ref 102 :: .int (Int32.ofInt (m687 79 53)) :: .ref 103 :: .ref 104 :: .ref 105 :: .int (Int32.ofInt (m687 79 57)) :: []))))) (st2 := (433, [(some (.ref 79)), (some (.int (Int32.ofInt sort))), (some (.int (Int32.ofInt (m525 79 6)))), (some (.int (Int32.ofInt x3_678))), o4_678], [], zk c m699)) ⟨[zo, zo, zo], _, rfl, ⟨trivial, trivial, ⟨(Nat.lt_of_lt_of_le (Nat.le_of_ble_eq_true rfl) hN), rfl, rfl⟩, trivial⟩⟩ (z_steq rfl rfl ((zk_up c m687 79 48 0 _ rfl).trans (by rw [hm699]))) ?_
          obtain ⟨m711, hm711⟩ : ∃ q, q = zm_up m699 79 49 0 := ⟨_, rfl⟩
          have hIm711 := zJ_upE hIm699 hm711 (by unfold zOj; omega) (show (0 : Int) ≤ 0 ∧ 0 ≤ 60 by omega)
          have em711 : m711 79 49 = 0 := by rw [hm711]; exact zm_eq
          have f712 : m711 79 48 = m699 79 48 := by rw [hm711]; exact zm_ne (Or.inr (by decide))
          have f713 : m711 79 53 = m699 79 53 := by rw [hm711]; exact zm_ne (Or.inr (by decide))
          have f714 : m711 79 7 = m699 79 7 := by rw [hm711]; exact zm_ne (Or.inr (by decide))
          have f715 : m711 79 26 = m699 79 26 := by rw [hm711]; exact zm_ne (Or.inr (by decide))
          have f716 : m711 79 27 = m699 79 27 := by rw [hm711]; exact zm_ne (Or.inr (by decide))
          have f717 : m711 79 28 = m699 79 28 := by rw [hm711]; exact zm_ne (Or.inr (by decide))
          have f718 : m711 79 29 = m699 79 29 := by rw [hm711]; exact zm_ne (Or.inr (by decide))
          have f719 : m711 79 30 = m699 79 30 := by rw [hm711]; exact zm_ne (Or.inr (by decide))
          have f720 : m711 79 6 = m699 79 6 := by rw [hm711]; exact zm_ne (Or.inr (by decide))
          have tk721 : zD9 (fun p i => 79 ≤ p ∧ p ≤ 105 ∧ p ≠ 80 ∧ (p ≠ 79 ∨ i ≠ 34)) m m711 := by rw [hm711]; exact zD9_up tk708 (by first | rfl | omega | (dsimp only; omega))
          have tk722 : zS9 t9 m711 := by rw [hm711]; exact zS9_up tk709 (by decide)
          have tk723 : zqP (m711 92) 0 := by rw [hm711]; exact zP_up tk710 (Or.inl (by decide))
          clear tk708 tk709 tk710
          refine zW.step (st1 := (438, [(some (.ref 79)), (some (.int (Int32.ofInt sort))), (some (.int (Int32.ofInt (m525 79 6)))), (some (.int (Int32.ofInt x3_678))), o4_678], [], z_hup (zk c m699) 79 (.inr (12, (.int (Int32.ofInt (m699 79 0)) :: .ref 80 :: .ref 81 :: .ref 82 :: .ref 83 :: zm_rf (m699 79 5) :: .int (Int32.ofInt (m699 79 6)) :: .int (Int32.ofInt (m699 79 7)) :: .int (Int32.ofInt (m699 79 8)) :: .int (Int32.ofInt (m699 79 9)) :: .int (Int32.ofInt (m699 79 10)) :: .int (Int32.ofInt (m699 79 11)) :: .int (Int32.ofInt (m699 79 12)) :: .int (Int32.ofInt (m699 79 13)) :: .int (Int32.ofInt (m699 79 14)) :: .ref (z_RO + 5) :: .ref (z_RO + 3) :: .int (Int32.ofInt (m699 79 17)) :: .ref 84 :: .ref 85 :: .ref 86 :: .ref 87 :: .ref 88 :: .ref 89 :: .ref 90 :: .ref 91 :: .int (Int32.ofInt (m699 79 26)) :: .int (Int32.ofInt (m699 79 27)) :: .int (Int32.ofInt (m699 79 28)) :: .int (Int32.ofInt (m699 79 29)) :: .int (Int32.ofInt (m699 79 30)) :: .ref 92 :: .ref 93 :: .int (Int32.ofInt (m699 79 33)) :: .int (Int32.ofInt (m699 79 34)) :: .ref 94 :: .ref 95 :: .int (Int32.ofInt (m699 79 37)) :: .int (Int32.ofInt (m699 79 38)) :: .int (Int32.ofInt (m699 79 39)) :: .int (Int32.ofInt (m699 79 40)) :: .int (Int32.ofInt (m699 79 41)) :: .int (Int32.ofInt (m699 79 42)) :: .ref 96 :: .ref 97 :: .ref 98 :: .ref 99 :: .ref 100 :: .int (Int32.ofInt (m699 79 48)) :: .int (Int32.ofInt 0) :: .long (Int64.ofInt (m699 79 50)) :: .ref 101 :: .ref 102 :: .int (Int32.ofInt (m699 79 53)) :: .ref 103 :: .ref 104 :: .ref 105 :: .int (Int32.ofInt (m699 79 57)) :: []))))) (st2 := (438, [(some (.ref 79)), (some (.int (Int32.ofInt sort))), (some (.int (Int32.ofInt (m525 79 6)))), (some (.int (Int32.ofInt x3_678))), o4_678], [], zk c m711)) ⟨[zo, zo, zo], _, rfl, ⟨trivial, trivial, ⟨(Nat.lt_of_lt_of_le (Nat.le_of_ble_eq_true rfl) hN), rfl, rfl⟩, trivial⟩⟩ (z_steq rfl rfl ((zk_up c m699 79 49 0 _ rfl).trans (by rw [hm711]))) ?_
          obtain ⟨m724, hm724⟩ : ∃ q, q = zm_up m711 79 57 0 := ⟨_, rfl⟩
          have hIm724 := zJ_upE hIm711 hm724 (zOj_79 (by decide)) (show (0 : Int) ≤ 0 ∧ 0 ≤ 1 by omega)
          have em724 : m724 79 57 = 0 := by rw [hm724]; exact zm_eq
          have f725 : m724 79 48 = m711 79 48 := by rw [hm724]; exact zm_ne (Or.inr (by decide))
          have f726 : m724 79 53 = m711 79 53 := by rw [hm724]; exact zm_ne (Or.inr (by decide))
          have f727 : m724 79 7 = m711 79 7 := by rw [hm724]; exact zm_ne (Or.inr (by decide))
          have f728 : m724 79 26 = m711 79 26 := by rw [hm724]; exact zm_ne (Or.inr (by decide))
          have f729 : m724 79 27 = m711 79 27 := by rw [hm724]; exact zm_ne (Or.inr (by decide))
          have f730 : m724 79 28 = m711 79 28 := by rw [hm724]; exact zm_ne (Or.inr (by decide))
          have f731 : m724 79 29 = m711 79 29 := by rw [hm724]; exact zm_ne (Or.inr (by decide))
          have f732 : m724 79 30 = m711 79 30 := by rw [hm724]; exact zm_ne (Or.inr (by decide))
          have f733 : m724 79 6 = m711 79 6 := by rw [hm724]; exact zm_ne (Or.inr (by decide))
          have tk734 : zD9 (fun p i => 79 ≤ p ∧ p ≤ 105 ∧ p ≠ 80 ∧ (p ≠ 79 ∨ i ≠ 34)) m m724 := by rw [hm724]; exact zD9_up tk721 (by first | rfl | omega | (dsimp only; omega))
          have tk735 : zS9 t9 m724 := by rw [hm724]; exact zS9_up tk722 (by decide)
          have tk736 : zqP (m724 92) 0 := by rw [hm724]; exact zP_up tk723 (Or.inl (by decide))
          clear tk721 tk722 tk723
          refine zW.step (st1 := (443, [(some (.ref 79)), (some (.int (Int32.ofInt sort))), (some (.int (Int32.ofInt (m525 79 6)))), (some (.int (Int32.ofInt x3_678))), o4_678], [], z_hup (zk c m711) 79 (.inr (12, (.int (Int32.ofInt (m711 79 0)) :: .ref 80 :: .ref 81 :: .ref 82 :: .ref 83 :: zm_rf (m711 79 5) :: .int (Int32.ofInt (m711 79 6)) :: .int (Int32.ofInt (m711 79 7)) :: .int (Int32.ofInt (m711 79 8)) :: .int (Int32.ofInt (m711 79 9)) :: .int (Int32.ofInt (m711 79 10)) :: .int (Int32.ofInt (m711 79 11)) :: .int (Int32.ofInt (m711 79 12)) :: .int (Int32.ofInt (m711 79 13)) :: .int (Int32.ofInt (m711 79 14)) :: .ref (z_RO + 5) :: .ref (z_RO + 3) :: .int (Int32.ofInt (m711 79 17)) :: .ref 84 :: .ref 85 :: .ref 86 :: .ref 87 :: .ref 88 :: .ref 89 :: .ref 90 :: .ref 91 :: .int (Int32.ofInt (m711 79 26)) :: .int (Int32.ofInt (m711 79 27)) :: .int (Int32.ofInt (m711 79 28)) :: .int (Int32.ofInt (m711 79 29)) :: .int (Int32.ofInt (m711 79 30)) :: .ref 92 :: .ref 93 :: .int (Int32.ofInt (m711 79 33)) :: .int (Int32.ofInt (m711 79 34)) :: .ref 94 :: .ref 95 :: .int (Int32.ofInt (m711 79 37)) :: .int (Int32.ofInt (m711 79 38)) :: .int (Int32.ofInt (m711 79 39)) :: .int (Int32.ofInt (m711 79 40)) :: .int (Int32.ofInt (m711 79 41)) :: .int (Int32.ofInt (m711 79 42)) :: .ref 96 :: .ref 97 :: .ref 98 :: .ref 99 :: .ref 100 :: .int (Int32.ofInt (m711 79 48)) :: .int (Int32.ofInt (m711 79 49)) :: .long (Int64.ofInt (m711 79 50)) :: .ref 101 :: .ref 102 :: .int (Int32.ofInt (m711 79 53)) :: .ref 103 :: .ref 104 :: .ref 105 :: .int (Int32.ofInt 0) :: []))))) (st2 := (443, [(some (.ref 79)), (some (.int (Int32.ofInt sort))), (some (.int (Int32.ofInt (m525 79 6)))), (some (.int (Int32.ofInt x3_678))), o4_678], [], zk c m724)) ⟨[zo, zo, zo], _, rfl, ⟨trivial, trivial, ⟨(Nat.lt_of_lt_of_le (Nat.le_of_ble_eq_true rfl) hN), (z_narZ rfl (by omega)), rfl⟩, trivial⟩⟩ (z_steq rfl rfl ((zk_up c m711 79 57 0 _ rfl).trans (by rw [hm724]))) ?_
          have f737 : (0 : Int) ≤ m724 79 29 ∧ m724 79 29 ≤ 6 := hIm724.1 79 29
          refine zW.step (st1 := (447, [(some (.ref 79)), (some (.int (Int32.ofInt sort))), (some (.int (Int32.ofInt (m525 79 6)))), (some (.int (Int32.ofInt x3_678))), o4_678], [.int (Int32.ofInt (m724 79 29))], zk c m724)) (st2 := (447, [(some (.ref 79)), (some (.int (Int32.ofInt sort))), (some (.int (Int32.ofInt (m525 79 6)))), (some (.int (Int32.ofInt x3_678))), o4_678], [.int (Int32.ofInt (m724 79 29))], zk c m724)) ⟨[zo, zo], _, rfl, ⟨trivial, (Nat.lt_of_lt_of_le (Nat.le_of_ble_eq_true rfl) hN), trivial⟩⟩ rfl ?_
          exact zW.fin (zfin_i rfl rfl rfl) ⟨m724 79 29, m724, rfl, rfl, (zJ_self (zJ_text hIm724 tk736 (by omega) tk735 (by omega))), (by omega), (by omega), (by omega), (by omega), tk734⟩
      · refine zW.step (st1 := (37, [(some (.ref 79)), (some (.int (Int32.ofInt sort))), none, none, none], [], zk c m525)) (st2 := (37, [(some (.ref 79)), (some (.int (Int32.ofInt sort))), none, none, none], [], zk c m525)) ⟨[zo, zo], _, rfl, ⟨trivial, zbf (fun q => b539 ((zi_eq rfl rfl (by unfold zR; omega) (⟨by decide, by decide⟩ : zR (-1))).mp q)), trivial⟩⟩ rfl ?_
        refine zW.step (st1 := (38, [(some (.ref 79)), (some (.int (Int32.ofInt sort))), none, none, none], [.int (Int32.ofInt (-1))], zk c m525)) (st2 := (38, [(some (.ref 79)), (some (.int (Int32.ofInt sort))), none, none, none], [.int (Int32.ofInt (-1))], zk c m525)) ⟨[zo], _, rfl, ⟨trivial, trivial⟩⟩ rfl ?_
        exact zW.fin (zfin_i rfl rfl rfl) ⟨(-1), m525, rfl, rfl, (zJ_self hIm525), (by omega), (by omega), (by omega), (by omega), tk537⟩

