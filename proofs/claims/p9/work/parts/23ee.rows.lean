/-! texts, by program (wip/tools/gw5): X4_oneClock_F, X4_takesWay_F -/
set_option maxRecDepth 100000 in
set_option maxHeartbeats 4000000 in
theorem L_X4_oneClock_F_44 (zn : Bool) (d : Nat) {c : Nat × Nat} {mM : zM} (hN : 107 ≤ c.1) (hC : c.1 < z_RO) (a9 : Int) (hb9 : 0 ≤ a9 ∧ a9 ≤ mM 1 1) (x1 : Int) (m0 : zM) (Q : Option Value → z_H → Prop) (K : ∀ (x2 : Int) (m : zM), zI c mM m → 0 ≤ x2 ∧ x2 ≤ 7 → 0 ≤ x1 ∧ x1 ≤ 5 → x1 = m0 8 185 → m 1 2 = (zcl_c (mM 2) (mM 1 1) a9 (zWc m0)).2.1 ∧ m 8 185 = m0 8 185 → (∀ j : Nat, j < 7 → m 9 j = (zic (mM 2) (mM 1 1) a9).2.2 j) → (∀ i : Nat, m 8 i = if i % 10 = x1.toNat ∧ i < 10 * x2.toNat then (zic (mM 2) (mM 1 1) a9).2.2 (i / 10) else m0 8 i) → zN m0 m → zD9 (fun p i => (p = 1 ∧ (i = 2 ∨ i = 3)) ∨ (8 ≤ p ∧ p ≤ 9)) m0 m → x2 = 7 → zW zn (d + 5) 77 c (76, [(some (.ref 3)), (some (.int (Int32.ofInt x1))), (some (.int (Int32.ofInt x2)))], [], zk c m) Q) :
    ∀ (w : Nat) (x2 : Int) (m : zM), zI c mM m → 0 ≤ x2 ∧ x2 ≤ 7 → 0 ≤ x1 ∧ x1 ≤ 5 → x1 = m0 8 185 → m 1 2 = (zcl_c (mM 2) (mM 1 1) a9 (zWc m0)).2.1 ∧ m 8 185 = m0 8 185 → (∀ j : Nat, j < 7 → m 9 j = (zic (mM 2) (mM 1 1) a9).2.2 j) → (∀ i : Nat, m 8 i = if i % 10 = x1.toNat ∧ i < 10 * x2.toNat then (zic (mM 2) (mM 1 1) a9).2.2 (i / 10) else m0 8 i) → zN m0 m → zD9 (fun p i => (p = 1 ∧ (i = 2 ∨ i = 3)) ∨ (8 ≤ p ∧ p ≤ 9)) m0 m → w = (7 - x2).toNat → zW zn (d + 5) 77 c (44, [(some (.ref 3)), (some (.int (Int32.ofInt x1))), (some (.int (Int32.ofInt x2)))], [], zk c m) Q := by
  intro w
  induction w using Nat.strongRecOn with | _ w ih => ?_
  intro x2 m hIm i1 i2 jx jb j9 j8 tN tD hw
  have f1 : (0 : Int) ≤ m 1 1 ∧ m 1 1 ≤ 240 := hIm.1 1 1
  have f2 : (0 : Int) ≤ m 1 2 ∧ m 1 2 ≤ 240 := hIm.1 1 2
  have f3 : (0 : Int) ≤ m 4 3 ∧ m 4 3 ≤ 5 := hIm.1 4 3
  have f4 : (0 : Int) ≤ m 4 4 ∧ m 4 4 ≤ 6 := hIm.1 4 4
  have f5 : (0 : Int) ≤ m 8 185 ∧ m 8 185 ≤ 10 := zr_c hIm zS_8
  have q6 := zn_c hIm
  by_cases b7 : 7 ≤ x2
  · refine zW.step (st1 := (76, [(some (.ref 3)), (some (.int (Int32.ofInt x1))), (some (.int (Int32.ofInt x2)))], [], zk c m)) (st2 := (76, [(some (.ref 3)), (some (.int (Int32.ofInt x1))), (some (.int (Int32.ofInt x2)))], [], zk c m)) ⟨[zo, zo, zo, zt], _, rfl, ⟨trivial, trivial, trivial, zbt ((zi_le (by decide : Int32.ofNat 7 = Int32.ofInt 7) rfl (⟨by decide, by decide⟩ : zR 7) (by unfold zR; omega)).mpr b7), trivial⟩⟩ rfl ?_
    exact K x2 m hIm (by omega) (by omega) (by omega) (by omega) (by exact j9) (by exact j8) tN tD (by omega)
  · refine zW.step (st1 := (52, [(some (.ref 3)), (some (.int (Int32.ofInt x1))), (some (.int (Int32.ofInt x2)))], [], zk c m)) (st2 := (52, [(some (.ref 3)), (some (.int (Int32.ofInt x1))), (some (.int (Int32.ofInt x2)))], [], zk c m)) ⟨[zo, zo, zo, zo], _, rfl, ⟨trivial, trivial, trivial, zbf (fun q => b7 ((zi_le (by decide : Int32.ofNat 7 = Int32.ofInt 7) rfl (⟨by decide, by decide⟩ : zR 7) (by unfold zR; omega)).mp q)), trivial⟩⟩ rfl ?_
    have f8 := zst9_b 5 x2.toNat (by decide) (by omega)
    have f9 : (-2147483648 : Int) ≤ m 9 x2.toNat ∧ m 9 x2.toNat ≤ 2147483647 := hIm.1 9 x2.toNat
    obtain ⟨m10, hm10⟩ : ∃ q, q = zm_up m 8 (((zst9 5 x2.toNat) + x1).toNat) (m 9 x2.toNat) := ⟨_, rfl⟩
    have hIm10 : zI c mM m10 := by rw [hm10]; exact zI_up hIm (zOk_p (by decide)) (zrw_i zS_8 (by omega) (show (-2147483648 : Int) ≤ (m 9 x2.toNat) ∧ (m 9 x2.toNat) ≤ 2147483647 by omega))
    have em10 : m10 8 (((zst9 5 x2.toNat) + x1).toNat) = (m 9 x2.toNat) := by rw [hm10]; exact zm_eq
    have f11 : m10 1 1 = m 1 1 := by rw [hm10]; exact zm_ne (by omega)
    have f12 : m10 1 2 = m 1 2 := by rw [hm10]; exact zm_ne (by omega)
    have f13 : m10 4 3 = m 4 3 := by rw [hm10]; exact zm_ne (by omega)
    have f14 : m10 4 4 = m 4 4 := by rw [hm10]; exact zm_ne (by omega)
    have tk15 : zN m0 m10 := by rw [hm10]; exact zN_up tN (by unfold zRow; omega)
    have tk16 : zD9 (fun p i => (p = 1 ∧ (i = 2 ∨ i = 3)) ∨ (8 ≤ p ∧ p ≤ 9)) m0 m10 := by rw [hm10]; exact zD9_up tD (by first | rfl | omega | (dsimp only; omega))
    refine zW.step (st1 := (70, [(some (.ref 3)), (some (.int (Int32.ofInt x1))), (some (.int (Int32.ofInt x2)))], [], z_hup (zk c m) 8 (.inl (0, 188, .inl (upd (fun j => Int32.ofInt (m 8 j)) (((z_sta.getD 5 []).getD (Int32.ofInt x2).toNatClampNeg 0) + (Int32.ofInt x1)).toNatClampNeg (Int32.ofInt (m 9 (Int32.ofInt x2).toNatClampNeg))))))) (st2 := (70, [(some (.ref 3)), (some (.int (Int32.ofInt x1))), (some (.int (Int32.ofInt x2)))], [], zk c m10)) ⟨[zo, zo, zo, zo, zo, zo, zo, zo, zo, zo, (false, 0, none, zh0, some (.inl (0, 7, .inl (fun j => Int32.ofInt (m 9 j))))), (false, 0, none, zh0, some (.inl (0, 188, .inl (fun j => Int32.ofInt (m 8 j)))))], _, rfl, ⟨trivial, (Nat.lt_of_lt_of_le (Nat.le_of_ble_eq_true rfl) hN), trivial, trivial, (zi_in rfl (by omega) (by omega) (by decide) : vp_in (Int32.ofInt x2) 7), trivial, trivial, trivial, (Nat.lt_of_lt_of_le (Nat.le_of_ble_eq_true rfl) hN), trivial, ⟨zk_ra c m zA_9 (Nat.lt_of_lt_of_le (Nat.le_of_ble_eq_true rfl) hN), zi_in rfl (by omega) (by omega) (by omega)⟩, ⟨zk_ra c m zA_8 (Nat.lt_of_lt_of_le (Nat.le_of_ble_eq_true rfl) hN), zi_in (zi_add (zst9_rd 5 rfl (by unfold zR; omega)) rfl) (by omega) (by omega) (by omega)⟩, trivial⟩⟩ (z_steq rfl rfl ((zk_ias c m zA_8 (zi_add (zst9_rd 5 rfl (by unfold zR; omega)) rfl) (by unfold zR; omega) ((zk_rd (f := m 9) rfl (by unfold zR; omega)).trans rfl : Int32.ofInt (m 9 (Int32.ofInt x2).toNatClampNeg) = Int32.ofInt (m 9 x2.toNat))).trans (by rw [hm10]))) ?_
    have z5 : zst9 5 x2.toNat = 10 * ((x2.toNat : Nat) : Int) := zst9_5 ⟨x2.toNat, by omega⟩
    have z185 : m10 8 185 = m 8 185 := by rw [hm10]; exact zm_ne (Or.inr (by omega))
    refine zW.step (st1 := (44, [(some (.ref 3)), (some (.int (Int32.ofInt x1))), (some (.int ((Int32.ofInt x2) + Int32.ofInt 1)))], [], zk c m10)) (st2 := (44, [(some (.ref 3)), (some (.int (Int32.ofInt x1))), (some (.int (Int32.ofInt (x2 + 1))))], [], zk c m10)) ⟨[zo, zo], _, rfl, ⟨trivial, trivial, trivial⟩⟩ (z_steq (z_c1 rfl (z_c1 rfl (z_c1 (z_si (zi_add rfl rfl)) rfl))) rfl rfl) ?_
    exact ih _ (by omega) (x2 + 1) m10 hIm10 (by omega) (by omega) (by omega) (by omega) (by intro j hj; rw [hm10, zm_ne (Or.inl (by decide))]; exact j9 j hj) (by have z5 := zst9_5 ⟨x2.toNat, by omega⟩; exact zck_s j8 hm10 (show _ = _ by have z6 : zst9 5 x2.toNat = 10 * ((x2.toNat : Nat) : Int) := z5; omega) (j9 x2.toNat (by omega)) (by omega) (by omega)) tk15 tk16 rfl

set_option maxRecDepth 100000 in
set_option maxHeartbeats 4000000 in
theorem S_X4_oneClock_F (zn : Bool) (d : Nat) {c : Nat × Nat} {mM : zM} (hN : 107 ≤ c.1) (hC : c.1 < z_RO) (a9 : Int) (m : zM) (hIm : zI c mM m) (ha9 : m 1 2 = a9) (hb9 : 0 ≤ a9 ∧ a9 ≤ mM 1 1) (hr : m 8 185 ≤ 5) : zCi zn (d + 6) 77 [.ref 3] c m (fun (r : Int) (m1 : zM) => zI c mM m1 ∧ (0 ≤ r ∧ r ≤ 1) ∧ (r = (zcl_c (mM 2) (mM 1 1) a9 (zWc m)).1 ∧ m1 1 2 = (zcl_c (mM 2) (mM 1 1) a9 (zWc m)).2.1) ∧ (r = 1 → zWc m1 = (zcl_c (mM 2) (mM 1 1) a9 (zWc m)).2.2) ∧ (a9 ≤ m1 1 2 ∧ m1 1 2 ≤ mM 1 1) ∧ (m1 8 185 ≤ m 8 185 + 1) ∧ zN m m1 ∧ zD9 (fun p i => (p = 1 ∧ (i = 2 ∨ i = 3)) ∨ (8 ≤ p ∧ p ≤ 9)) m m1) := by
  refine zCi.of zu_X4_oneClock hC (Nat.le_of_ble_eq_true rfl) ?_
  show zW zn (d + 5) 77 c (0, [(some (.ref 3)), none, none], [], zk c m) (fun v h1 => ∃ (r : Int) (m1 : zM), v = some (.int (Int32.ofInt r)) ∧ h1 = zk c m1 ∧ zI c mM m1 ∧ (0 ≤ r ∧ r ≤ 1) ∧ (r = (zcl_c (mM 2) (mM 1 1) a9 (zWc m)).1 ∧ m1 1 2 = (zcl_c (mM 2) (mM 1 1) a9 (zWc m)).2.1) ∧ (r = 1 → zWc m1 = (zcl_c (mM 2) (mM 1 1) a9 (zWc m)).2.2) ∧ (a9 ≤ m1 1 2 ∧ m1 1 2 ≤ mM 1 1) ∧ (m1 8 185 ≤ m 8 185 + 1) ∧ zN m m1 ∧ zD9 (fun p i => (p = 1 ∧ (i = 2 ∨ i = 3)) ∨ (8 ≤ p ∧ p ≤ 9)) m m1)
  have f18 : (0 : Int) ≤ m 1 1 ∧ m 1 1 ≤ 240 := hIm.1 1 1
  have f19 : (0 : Int) ≤ m 1 2 ∧ m 1 2 ≤ 240 := hIm.1 1 2
  have f20 : (0 : Int) ≤ m 4 3 ∧ m 4 3 ≤ 5 := hIm.1 4 3
  have f21 : (0 : Int) ≤ m 4 4 ∧ m 4 4 ≤ 6 := hIm.1 4 4
  have f22 : (0 : Int) ≤ m 8 185 ∧ m 8 185 ≤ 10 := zr_c hIm zS_8
  have q23 := zn_c hIm
  obtain ⟨m24, hm24⟩ : ∃ q, q = zm_cs m 9 2 7 := ⟨_, rfl⟩
  have hIm24 : zI c mM m24 := by rw [hm24]; exact zI_cs hIm (by omega) (fun i hi => by have q9 := zst9_b 2 i (by decide) (by omega); have e1 : zlo 9 i = -2147483648 := rfl; have e2 : zhi 9 i = 2147483647 := rfl; omega)
  have tk25 : zN m m24 := by rw [hm24]; exact zN_cs zN_rf (by unfold zRow; omega)
  have tk26 : zD9 (fun p i => (p = 1 ∧ (i = 2 ∨ i = 3)) ∨ (8 ≤ p ∧ p ≤ 9)) m m24 := by rw [hm24]; exact zD9_cs zD9_rf (fun i => by omega)
  have f27 : m24 1 1 = m 1 1 := by rw [hm24]; exact zm_cs_ne (by omega)
  have f28 : m24 1 2 = m 1 2 := by rw [hm24]; exact zm_cs_ne (by omega)
  have f29 : m24 4 3 = m 4 3 := by rw [hm24]; exact zm_cs_ne (by omega)
  have f30 : m24 4 4 = m 4 4 := by rw [hm24]; exact zm_cs_ne (by omega)
  have f31 : m24 8 185 = m 8 185 := by rw [hm24]; exact zm_cs_ne (by omega)
  refine zW.step (st1 := (16, [(some (.ref 3)), none, none], [], z_hup (zk c m) 9 (.inl (0, 7, .inl (va_cpy (fun j => (z_sta.getD 2 []).getD j 0) (fun j => Int32.ofInt (m 9 j)) (Int32.ofInt 0).toNatClampNeg (Int32.ofInt 0).toNatClampNeg (Int32.ofNat 7).toNatClampNeg))))) (st2 := (16, [(some (.ref 3)), none, none], [], zk c m24)) ⟨[zo, zo, zo, zo, zo, zo, zo, (true, 0, none, zh0, some (.inl (0, 7, .inl (fun j => Int32.ofInt (m 9 j)))))], _, rfl, ⟨trivial, trivial, trivial, (Nat.lt_of_lt_of_le (Nat.le_of_ble_eq_true rfl) hN), trivial, trivial, trivial, ⟨zk_ra c m zA_9 (Nat.lt_of_lt_of_le (Nat.le_of_ble_eq_true rfl) hN), ⟨(Nat.le_of_ble_eq_true rfl), (Nat.le_of_ble_eq_true rfl)⟩, (by decide), (by decide), (by decide), (by decide), (by decide), (Nat.le_of_ble_eq_true rfl)⟩, trivial⟩⟩ (z_steq rfl rfl ((zk_acs c m zA_9 rfl rfl (by decide : Int32.ofNat 7 = Int32.ofInt 7) (⟨by decide, by decide⟩ : zR 7)).trans (by rw [hm24]; rfl))) ?_
  refine zW.step (st1 := (25, [(some (.ref 3)), none, none], [.ref (z_RO + 204), .ref (z_RO + 203), .ref (z_RO + 1), .ref 3], zk c m24)) (st2 := (25, [(some (.ref 3)), none, none], [.ref (z_RO + 204), .ref (z_RO + 203), .ref (z_RO + 1), .ref 3], zk c m24)) ⟨[zo, zo, zo, zo], _, rfl, ⟨trivial, trivial, trivial, trivial, trivial⟩⟩ rfl ?_
  obtain ⟨r32, m32, hs32, hIm32, z_32, p_32, w_32, b_32, kN_32, kD_32⟩ := S_X4_takesItems_1F zn (d + 0) hN hC a9 m24 hIm24 (by omega) (by omega)
  refine zW.step (st1 := (28, [(some (.ref 3)), none, none], [.int (Int32.ofInt r32)], zk c m32)) ⟨[zc (some (.int (Int32.ofInt r32))) (zk c m32)], _, rfl, ⟨⟨⟨(Nat.lt_of_lt_of_le (Nat.le_of_ble_eq_true rfl) hN), (Nat.le_of_ble_eq_true rfl)⟩, hs32, (Nat.le_of_ble_eq_true rfl), Nat.le_refl _, Nat.le_refl _, Nat.le_refl _, Nat.le_refl _⟩, trivial⟩⟩ rfl ?_
  have f33 : (0 : Int) ≤ m32 1 1 ∧ m32 1 1 ≤ 240 := hIm32.1 1 1
  have f34 : m32 1 1 = m24 1 1 := kD_32 1 1 (by omega)
  have f35 : (0 : Int) ≤ m32 1 2 ∧ m32 1 2 ≤ 240 := hIm32.1 1 2
  have f36 : (0 : Int) ≤ m32 4 3 ∧ m32 4 3 ≤ 5 := hIm32.1 4 3
  have f37 : m32 4 3 = m24 4 3 := kD_32 4 3 (by omega)
  have f38 : (0 : Int) ≤ m32 4 4 ∧ m32 4 4 ≤ 6 := hIm32.1 4 4
  have f39 : m32 4 4 = m24 4 4 := kD_32 4 4 (by omega)
  have f40 : (0 : Int) ≤ m32 8 185 ∧ m32 8 185 ≤ 10 := zr_c hIm32 zS_8
  have f41 : m32 8 185 = m24 8 185 := kD_32 8 185 (by omega)
  have tk42 : zN m m32 := zN_tr tk25 kN_32
  have tk43 : zD9 (fun p i => (p = 1 ∧ (i = 2 ∨ i = 3)) ∨ (8 ≤ p ∧ p ≤ 9)) m m32 := zD9_tr tk26 (zD9_mo kD_32 (fun p i w => by have w2 : (p = 1 ∧ (i = 2 ∨ i = 3)) ∨ p = 9 := w; show (p = 1 ∧ (i = 2 ∨ i = 3)) ∨ (8 ≤ p ∧ p ≤ 9); omega))
  have q44 := zic_e (mM 2) (mM 1 1) a9 (v := m24 9) (fun j hj => by rw [hm24]; exact zcs_9 _ j hj)
  by_cases b45 : r32 = 0
  · refine zW.step (st1 := (31, [(some (.ref 3)), none, none], [], zk c m32)) (st2 := (31, [(some (.ref 3)), none, none], [], zk c m32)) ⟨[zo], _, rfl, ⟨zbf (fun q => q ((zi_eq rfl (rfl : (0 : Int32) = Int32.ofInt 0) (by unfold zR; omega) (⟨by decide, by decide⟩ : zR 0)).mpr b45)), trivial⟩⟩ rfl ?_
    have q46 := zcl_c_0 (mM 2) (mM 1 1) a9 (zWc m) (by omega)
    refine zW.step (st1 := (32, [(some (.ref 3)), none, none], [.int (Int32.ofInt 0)], zk c m32)) (st2 := (32, [(some (.ref 3)), none, none], [.int (Int32.ofInt 0)], zk c m32)) ⟨[zo], _, rfl, ⟨trivial, trivial⟩⟩ rfl ?_
    exact zW.fin (zfin_i rfl rfl rfl) ⟨0, m32, rfl, rfl, hIm32, (by omega), (by omega), (by intro h; exact absurd h (by decide)), (by omega), (by omega), tk42, tk43⟩
  · refine zW.step (st1 := (33, [(some (.ref 3)), none, none], [], zk c m32)) (st2 := (33, [(some (.ref 3)), none, none], [], zk c m32)) ⟨[zt], _, rfl, ⟨zbt (fun q => b45 ((zi_eq rfl (rfl : (0 : Int32) = Int32.ofInt 0) (by unfold zR; omega) (⟨by decide, by decide⟩ : zR 0)).mp q)), trivial⟩⟩ rfl ?_
    have q47 := zcl_c_1 (mM 2) (mM 1 1) a9 (zWc m) (m 8 185).toNat ((zWc_29 m).trans (by omega)) (by omega)
    refine zW.step (st1 := (44, [(some (.ref 3)), (some (.int (Int32.ofInt (m32 8 ((Int16.ofInt 185).toInt32).toNatClampNeg)))), (some (.int (Int32.ofInt 0)))], [], zk c m32)) (st2 := (44, [(some (.ref 3)), (some (.int (Int32.ofInt (m32 8 185)))), (some (.int (Int32.ofInt 0)))], [], zk c m32)) ⟨[zo, zo, zo, (false, 0, none, zh0, some (.inl (0, 188, .inl (fun j => Int32.ofInt (m32 8 j))))), zo, zo, zo], _, rfl, ⟨trivial, (Nat.lt_of_lt_of_le (Nat.le_of_ble_eq_true rfl) hN), trivial, ⟨zk_ra c m32 zA_8 (Nat.lt_of_lt_of_le (Nat.le_of_ble_eq_true rfl) hN), zi_in (by decide : (Int16.ofInt 185).toInt32 = Int32.ofInt 185) (by omega) (by omega) (by omega)⟩, trivial, trivial, trivial, trivial⟩⟩ (z_steq (z_c1 rfl (z_c1 (z_si ((zk_rd (f := m32 8) (by decide : (Int16.ofInt 185).toInt32 = Int32.ofInt 185) (⟨by decide, by decide⟩ : zR 185)).trans rfl : Int32.ofInt (m32 8 ((Int16.ofInt 185).toInt32).toNatClampNeg) = Int32.ofInt (m32 8 185))) rfl)) rfl rfl) ?_
    refine L_X4_oneClock_F_44 zn _ hN hC a9 hb9 (m32 8 185) m _ (fun x2_48 m_48 hIm_48 i1_48 i2_48 jx_48 jb_48 j9_48 j8_48 tN_48 tD_48 xx_48 => ?_) _ 0 m32 hIm32 (by omega) (by omega) (by omega) (by omega) (by intro j hj; exact (congrFun (w_32 (by omega)) j).trans (q44.2.2 j hj)) (by intro i; rw [if_neg (by omega)]; exact (kD_32 8 i (by omega)).trans (by rw [hm24]; exact zm_cs_ne (Or.inl (by decide)))) tk42 tk43 rfl
    have f49 : (0 : Int) ≤ m_48 1 1 ∧ m_48 1 1 ≤ 240 := hIm_48.1 1 1
    have f50 : (0 : Int) ≤ m_48 1 2 ∧ m_48 1 2 ≤ 240 := hIm_48.1 1 2
    have f51 : (0 : Int) ≤ m_48 4 3 ∧ m_48 4 3 ≤ 5 := hIm_48.1 4 3
    have f52 : (0 : Int) ≤ m_48 4 4 ∧ m_48 4 4 ≤ 6 := hIm_48.1 4 4
    have f53 : (0 : Int) ≤ m_48 8 185 ∧ m_48 8 185 ≤ 10 := zr_c hIm_48 zS_8
    have f54 : (-2147483648 : Int) ≤ m_48 8 ((60 + (m32 8 185)).toNat) ∧ m_48 8 ((60 + (m32 8 185)).toNat) ≤ 2147483647 := zr_i hIm_48 zS_8 ((60 + (m32 8 185)).toNat)
    have q55 := trivial
    by_cases b56 : (m_48 8 ((60 + (m32 8 185)).toNat)) = 6
    · refine zW.step (st1 := (90, [(some (.ref 3)), (some (.int (Int32.ofInt (m32 8 185)))), (some (.int (Int32.ofInt x2_48)))], [], zk c m_48)) (st2 := (90, [(some (.ref 3)), (some (.int (Int32.ofInt (m32 8 185)))), (some (.int (Int32.ofInt x2_48)))], [], zk c m_48)) ⟨[zo, zo, zo, zo, zo, (false, 0, none, zh0, some (.inl (0, 188, .inl (fun j => Int32.ofInt (m_48 8 j))))), zo, zo], _, rfl, ⟨trivial, (Nat.lt_of_lt_of_le (Nat.le_of_ble_eq_true rfl) hN), trivial, trivial, trivial, ⟨zk_ra c m_48 zA_8 (Nat.lt_of_lt_of_le (Nat.le_of_ble_eq_true rfl) hN), zi_in (zi_add (by decide : (Int8.ofInt 60).toInt32 = Int32.ofInt 60) rfl) (by omega) (by omega) (by omega)⟩, trivial, zbf (fun q => q ((zi_eq ((zk_rd (f := m_48 8) (zi_add (by decide : (Int8.ofInt 60).toInt32 = Int32.ofInt 60) rfl) (by unfold zR; omega)).trans rfl : Int32.ofInt (m_48 8 (((Int8.ofInt 60).toInt32) + (Int32.ofInt (m32 8 185))).toNatClampNeg) = Int32.ofInt (m_48 8 ((60 + (m32 8 185)).toNat))) (by decide : (Int8.ofInt 6).toInt32 = Int32.ofInt 6) (by unfold zR; omega) (⟨by decide, by decide⟩ : zR 6)).mpr b56)), trivial⟩⟩ rfl ?_
      obtain ⟨m57, hm57⟩ : ∃ q, q = zm_up m_48 8 ((60 + (m32 8 185)).toNat) (-1) := ⟨_, rfl⟩
      have hIm57 : zI c mM m57 := by rw [hm57]; exact zI_up hIm_48 (zOk_p (by decide)) (zrw_i zS_8 (by omega) (show (-2147483648 : Int) ≤ (-1) ∧ (-1) ≤ 2147483647 by omega))
      have em57 : m57 8 ((60 + (m32 8 185)).toNat) = (-1) := by rw [hm57]; exact zm_eq
      have f58 : m57 1 1 = m_48 1 1 := by rw [hm57]; exact zm_ne (by omega)
      have f59 : m57 1 2 = m_48 1 2 := by rw [hm57]; exact zm_ne (by omega)
      have f60 : m57 4 3 = m_48 4 3 := by rw [hm57]; exact zm_ne (by omega)
      have f61 : m57 4 4 = m_48 4 4 := by rw [hm57]; exact zm_ne (by omega)
      have f62 : m57 8 185 = m_48 8 185 := by rw [hm57]; exact zm_ne (by omega)
      have tk63 : zN m m57 := by rw [hm57]; exact zN_up tN_48 (by unfold zRow; omega)
      have tk64 : zD9 (fun p i => (p = 1 ∧ (i = 2 ∨ i = 3)) ∨ (8 ≤ p ∧ p ≤ 9)) m m57 := by rw [hm57]; exact zD9_up tD_48 (by first | rfl | omega | (dsimp only; omega))
      refine zW.step (st1 := (100, [(some (.ref 3)), (some (.int (Int32.ofInt (m32 8 185)))), (some (.int (Int32.ofInt x2_48)))], [], z_hup (zk c m_48) 8 (.inl (0, 188, .inl (upd (fun j => Int32.ofInt (m_48 8 j)) (((Int8.ofInt 60).toInt32) + (Int32.ofInt (m32 8 185))).toNatClampNeg (Int32.ofInt (-1))))))) (st2 := (100, [(some (.ref 3)), (some (.int (Int32.ofInt (m32 8 185)))), (some (.int (Int32.ofInt x2_48)))], [], zk c m57)) ⟨[zo, zo, zo, zo, zo, zo, (false, 0, none, zh0, some (.inl (0, 188, .inl (fun j => Int32.ofInt (m_48 8 j)))))], _, rfl, ⟨trivial, (Nat.lt_of_lt_of_le (Nat.le_of_ble_eq_true rfl) hN), trivial, trivial, trivial, trivial, ⟨zk_ra c m_48 zA_8 (Nat.lt_of_lt_of_le (Nat.le_of_ble_eq_true rfl) hN), zi_in (zi_add (by decide : (Int8.ofInt 60).toInt32 = Int32.ofInt 60) rfl) (by omega) (by omega) (by omega)⟩, trivial⟩⟩ (z_steq rfl rfl ((zk_ias c m_48 zA_8 (zi_add (by decide : (Int8.ofInt 60).toInt32 = Int32.ofInt 60) rfl) (by unfold zR; omega) rfl).trans (by rw [hm57]))) ?_
      obtain ⟨m65, hm65⟩ : ∃ q, q = zm_up m57 8 ((70 + (m32 8 185)).toNat) 1 := ⟨_, rfl⟩
      have hIm65 : zI c mM m65 := by rw [hm65]; exact zI_up hIm57 (zOk_p (by decide)) (zrw_l zS_8 (by omega) (show (0 : Int) ≤ 1 ∧ 1 ≤ 1 by omega))
      have em65 : m65 8 ((70 + (m32 8 185)).toNat) = 1 := by rw [hm65]; exact zm_eq
      have f66 : m65 1 1 = m57 1 1 := by rw [hm65]; exact zm_ne (by omega)
      have f67 : m65 1 2 = m57 1 2 := by rw [hm65]; exact zm_ne (by omega)
      have f68 : m65 4 3 = m57 4 3 := by rw [hm65]; exact zm_ne (by omega)
      have f69 : m65 4 4 = m57 4 4 := by rw [hm65]; exact zm_ne (by omega)
      have f70 : m65 8 185 = m57 8 185 := by rw [hm65]; exact zm_ne (by omega)
      have tk71 : zN m m65 := by rw [hm65]; exact zN_up tk63 (by unfold zRow; omega)
      have tk72 : zD9 (fun p i => (p = 1 ∧ (i = 2 ∨ i = 3)) ∨ (8 ≤ p ∧ p ≤ 9)) m m65 := by rw [hm65]; exact zD9_up tk64 (by first | rfl | omega | (dsimp only; omega))
      clear tk63 tk64
      refine zW.step (st1 := (110, [(some (.ref 3)), (some (.int (Int32.ofInt (m32 8 185)))), (some (.int (Int32.ofInt x2_48)))], [], z_hup (zk c m57) 8 (.inl (0, 188, .inl (upd (fun j => Int32.ofInt (m57 8 j)) (((Int8.ofInt 70).toInt32) + (Int32.ofInt (m32 8 185))).toNatClampNeg (Int32.ofInt 1)))))) (st2 := (110, [(some (.ref 3)), (some (.int (Int32.ofInt (m32 8 185)))), (some (.int (Int32.ofInt x2_48)))], [], zk c m65)) ⟨[zo, zo, zo, zo, zo, zo, (false, 0, none, zh0, some (.inl (0, 188, .inl (fun j => Int32.ofInt (m57 8 j)))))], _, rfl, ⟨trivial, (Nat.lt_of_lt_of_le (Nat.le_of_ble_eq_true rfl) hN), trivial, trivial, trivial, trivial, ⟨zk_ra c m57 zA_8 (Nat.lt_of_lt_of_le (Nat.le_of_ble_eq_true rfl) hN), zi_in (zi_add (by decide : (Int8.ofInt 70).toInt32 = Int32.ofInt 70) rfl) (by omega) (by omega) (by omega)⟩, trivial⟩⟩ (z_steq rfl rfl ((zk_ias c m57 zA_8 (zi_add (by decide : (Int8.ofInt 70).toInt32 = Int32.ofInt 70) rfl) (by unfold zR; omega) rfl).trans (by rw [hm65]))) ?_
      obtain ⟨m73, hm73⟩ : ∃ q, q = zm_up m65 8 ((140 + (m32 8 185)).toNat) (-1) := ⟨_, rfl⟩
      have hIm73 : zI c mM m73 := by rw [hm73]; exact zI_up hIm65 (zOk_p (by decide)) (zrw_i zS_8 (by omega) (show (-2147483648 : Int) ≤ (-1) ∧ (-1) ≤ 2147483647 by omega))
      have em73 : m73 8 ((140 + (m32 8 185)).toNat) = (-1) := by rw [hm73]; exact zm_eq
      have f74 : m73 1 1 = m65 1 1 := by rw [hm73]; exact zm_ne (by omega)
      have f75 : m73 1 2 = m65 1 2 := by rw [hm73]; exact zm_ne (by omega)
      have f76 : m73 4 3 = m65 4 3 := by rw [hm73]; exact zm_ne (by omega)
      have f77 : m73 4 4 = m65 4 4 := by rw [hm73]; exact zm_ne (by omega)
      have f78 : m73 8 185 = m65 8 185 := by rw [hm73]; exact zm_ne (by omega)
      have tk79 : zN m m73 := by rw [hm73]; exact zN_up tk71 (by unfold zRow; omega)
      have tk80 : zD9 (fun p i => (p = 1 ∧ (i = 2 ∨ i = 3)) ∨ (8 ≤ p ∧ p ≤ 9)) m m73 := by rw [hm73]; exact zD9_up tk72 (by first | rfl | omega | (dsimp only; omega))
      clear tk71 tk72
      refine zW.step (st1 := (121, [(some (.ref 3)), (some (.int (Int32.ofInt (m32 8 185)))), (some (.int (Int32.ofInt x2_48)))], [], z_hup (zk c m65) 8 (.inl (0, 188, .inl (upd (fun j => Int32.ofInt (m65 8 j)) (((Int16.ofInt 140).toInt32) + (Int32.ofInt (m32 8 185))).toNatClampNeg (Int32.ofInt (-1))))))) (st2 := (121, [(some (.ref 3)), (some (.int (Int32.ofInt (m32 8 185)))), (some (.int (Int32.ofInt x2_48)))], [], zk c m73)) ⟨[zo, zo, zo, zo, zo, zo, (false, 0, none, zh0, some (.inl (0, 188, .inl (fun j => Int32.ofInt (m65 8 j)))))], _, rfl, ⟨trivial, (Nat.lt_of_lt_of_le (Nat.le_of_ble_eq_true rfl) hN), trivial, trivial, trivial, trivial, ⟨zk_ra c m65 zA_8 (Nat.lt_of_lt_of_le (Nat.le_of_ble_eq_true rfl) hN), zi_in (zi_add (by decide : (Int16.ofInt 140).toInt32 = Int32.ofInt 140) rfl) (by omega) (by omega) (by omega)⟩, trivial⟩⟩ (z_steq rfl rfl ((zk_ias c m65 zA_8 (zi_add (by decide : (Int16.ofInt 140).toInt32 = Int32.ofInt 140) rfl) (by unfold zR; omega) rfl).trans (by rw [hm73]))) ?_
      have f81 : (0 : Int) ≤ m73 8 185 ∧ m73 8 185 ≤ 10 := zr_c hIm73 zS_8
      obtain ⟨m82, hm82⟩ : ∃ q, q = zm_up m73 8 185 ((m73 8 185) + 1) := ⟨_, rfl⟩
      have hIm82 : zI c mM m82 := by rw [hm82]; exact zI_up hIm73 (zOk_p (by decide)) (zrw_c zS_8 (show (0 : Int) ≤ ((m73 8 185) + 1) ∧ ((m73 8 185) + 1) ≤ 10 by omega))
      have em82 : m82 8 185 = ((m73 8 185) + 1) := by rw [hm82]; exact zm_eq
      have f83 : m82 1 1 = m73 1 1 := by rw [hm82]; exact zm_ne (by omega)
      have f84 : m82 1 2 = m73 1 2 := by rw [hm82]; exact zm_ne (by omega)
      have f85 : m82 4 3 = m73 4 3 := by rw [hm82]; exact zm_ne (by omega)
      have f86 : m82 4 4 = m73 4 4 := by rw [hm82]; exact zm_ne (by omega)
      have tk87 : zN m m82 := by rw [hm82]; exact zN_up tk79 (by unfold zRow; omega)
      have tk88 : zD9 (fun p i => (p = 1 ∧ (i = 2 ∨ i = 3)) ∨ (8 ≤ p ∧ p ≤ 9)) m m82 := by rw [hm82]; exact zD9_up tk80 (by first | rfl | omega | (dsimp only; omega))
      clear tk79 tk80
      refine zW.step (st1 := (133, [(some (.ref 3)), (some (.int (Int32.ofInt (m32 8 185)))), (some (.int (Int32.ofInt x2_48)))], [], z_hup (zk c m73) 8 (.inl (0, 188, .inl (upd (fun j => Int32.ofInt (m73 8 j)) ((Int16.ofInt 185).toInt32).toNatClampNeg ((Int32.ofInt (m73 8 ((Int16.ofInt 185).toInt32).toNatClampNeg)) + (Int32.ofInt 1))))))) (st2 := (133, [(some (.ref 3)), (some (.int (Int32.ofInt (m32 8 185)))), (some (.int (Int32.ofInt x2_48)))], [], zk c m82)) ⟨[zo, zo, zo, zo, (false, 0, none, zh0, some (.inl (0, 188, .inl (fun j => Int32.ofInt (m73 8 j))))), zo, zo, (false, 0, none, zh0, some (.inl (0, 188, .inl (fun j => Int32.ofInt (m73 8 j)))))], _, rfl, ⟨trivial, (Nat.lt_of_lt_of_le (Nat.le_of_ble_eq_true rfl) hN), trivial, trivial, ⟨zk_ra c m73 zA_8 (Nat.lt_of_lt_of_le (Nat.le_of_ble_eq_true rfl) hN), zi_in (by decide : (Int16.ofInt 185).toInt32 = Int32.ofInt 185) (by omega) (by omega) (by omega)⟩, trivial, trivial, ⟨zk_ra c m73 zA_8 (Nat.lt_of_lt_of_le (Nat.le_of_ble_eq_true rfl) hN), zi_in (by decide : (Int16.ofInt 185).toInt32 = Int32.ofInt 185) (by omega) (by omega) (by omega)⟩, trivial⟩⟩ (z_steq rfl rfl ((zk_ias c m73 zA_8 (by decide : (Int16.ofInt 185).toInt32 = Int32.ofInt 185) (⟨by decide, by decide⟩ : zR 185) (zi_add ((zk_rd (f := m73 8) (by decide : (Int16.ofInt 185).toInt32 = Int32.ofInt 185) (⟨by decide, by decide⟩ : zR 185)).trans rfl : Int32.ofInt (m73 8 ((Int16.ofInt 185).toInt32).toNatClampNeg) = Int32.ofInt (m73 8 185)) rfl)).trans (by rw [hm82]; rfl))) ?_
      refine zW.step (st1 := (134, [(some (.ref 3)), (some (.int (Int32.ofInt (m32 8 185)))), (some (.int (Int32.ofInt x2_48)))], [.int (Int32.ofInt 1)], zk c m82)) (st2 := (134, [(some (.ref 3)), (some (.int (Int32.ofInt (m32 8 185)))), (some (.int (Int32.ofInt x2_48)))], [.int (Int32.ofInt 1)], zk c m82)) ⟨[zo], _, rfl, ⟨trivial, trivial⟩⟩ rfl ?_
      exact zW.fin (zfin_i rfl rfl rfl) ⟨1, m82, rfl, rfl, hIm82, (by omega), (by omega), (by intro _; have a1 : m65 = zm_up m57 8 (70 + (m 8 185).toNat) 1 := (by rw [hm65]; exact zupc (by omega) (by omega)); have a2 : m73 = zm_up m65 8 (140 + (m 8 185).toNat) (-1) := (by rw [hm73]; exact zupc (by omega) (by omega)); have a3 : m82 = zm_up m73 8 185 ((((m 8 185).toNat : Nat) : Int) + 1) := (by rw [hm82]; exact zupc rfl (by omega)); have c6 : m_48 8 (60 + (m 8 185).toNat) = (zic (mM 2) (mM 1 1) a9).2.2 6 := (j8_48 (60 + (m 8 185).toNat)).trans ((if_pos (by omega)).trans (congrArg _ (by omega))); have c7 : m_48 8 ((60 + (m32 8 185)).toNat) = m_48 8 (60 + (m 8 185).toNat) := congrArg _ (by omega); have aF : ((zic (mM 2) (mM 1 1) a9).2.2 6 = 6 ∧ m57 = zm_up m_48 8 (60 + (m 8 185).toNat) (-1)) ∨ ((zic (mM 2) (mM 1 1) a9).2.2 6 ≠ 6 ∧ m57 = m_48) := Or.inl ⟨by omega, by rw [hm57]; exact zupc (by omega) (by omega)⟩; have cr : 0 ≤ (zic (mM 2) (mM 1 1) a9).2.2 6 := (zic_rg (mM 2) (mM 1 1) a9 6).1; rw [q47.2.2]; exact zWc_clock2 (by omega) (by omega) (by omega) tk88 (fun i => (j8_48 i).trans (ite_congr (propext (by omega)) (fun _ => rfl) (fun _ => rfl))) aF cr a1 a2 a3), (by omega), (by omega), tk87, tk88⟩
    · refine zW.step (st1 := (100, [(some (.ref 3)), (some (.int (Int32.ofInt (m32 8 185)))), (some (.int (Int32.ofInt x2_48)))], [], zk c m_48)) (st2 := (100, [(some (.ref 3)), (some (.int (Int32.ofInt (m32 8 185)))), (some (.int (Int32.ofInt x2_48)))], [], zk c m_48)) ⟨[zo, zo, zo, zo, zo, (false, 0, none, zh0, some (.inl (0, 188, .inl (fun j => Int32.ofInt (m_48 8 j))))), zo, zt], _, rfl, ⟨trivial, (Nat.lt_of_lt_of_le (Nat.le_of_ble_eq_true rfl) hN), trivial, trivial, trivial, ⟨zk_ra c m_48 zA_8 (Nat.lt_of_lt_of_le (Nat.le_of_ble_eq_true rfl) hN), zi_in (zi_add (by decide : (Int8.ofInt 60).toInt32 = Int32.ofInt 60) rfl) (by omega) (by omega) (by omega)⟩, trivial, zbt (fun q => b56 ((zi_eq ((zk_rd (f := m_48 8) (zi_add (by decide : (Int8.ofInt 60).toInt32 = Int32.ofInt 60) rfl) (by unfold zR; omega)).trans rfl : Int32.ofInt (m_48 8 (((Int8.ofInt 60).toInt32) + (Int32.ofInt (m32 8 185))).toNatClampNeg) = Int32.ofInt (m_48 8 ((60 + (m32 8 185)).toNat))) (by decide : (Int8.ofInt 6).toInt32 = Int32.ofInt 6) (by unfold zR; omega) (⟨by decide, by decide⟩ : zR 6)).mp q)), trivial⟩⟩ rfl ?_
      obtain ⟨m89, hm89⟩ : ∃ q, q = zm_up m_48 8 ((70 + (m32 8 185)).toNat) 1 := ⟨_, rfl⟩
      have hIm89 : zI c mM m89 := by rw [hm89]; exact zI_up hIm_48 (zOk_p (by decide)) (zrw_l zS_8 (by omega) (show (0 : Int) ≤ 1 ∧ 1 ≤ 1 by omega))
      have em89 : m89 8 ((70 + (m32 8 185)).toNat) = 1 := by rw [hm89]; exact zm_eq
      have f90 : m89 1 1 = m_48 1 1 := by rw [hm89]; exact zm_ne (by omega)
      have f91 : m89 1 2 = m_48 1 2 := by rw [hm89]; exact zm_ne (by omega)
      have f92 : m89 4 3 = m_48 4 3 := by rw [hm89]; exact zm_ne (by omega)
      have f93 : m89 4 4 = m_48 4 4 := by rw [hm89]; exact zm_ne (by omega)
      have f94 : m89 8 185 = m_48 8 185 := by rw [hm89]; exact zm_ne (by omega)
      have tk95 : zN m m89 := by rw [hm89]; exact zN_up tN_48 (by unfold zRow; omega)
      have tk96 : zD9 (fun p i => (p = 1 ∧ (i = 2 ∨ i = 3)) ∨ (8 ≤ p ∧ p ≤ 9)) m m89 := by rw [hm89]; exact zD9_up tD_48 (by first | rfl | omega | (dsimp only; omega))
      refine zW.step (st1 := (110, [(some (.ref 3)), (some (.int (Int32.ofInt (m32 8 185)))), (some (.int (Int32.ofInt x2_48)))], [], z_hup (zk c m_48) 8 (.inl (0, 188, .inl (upd (fun j => Int32.ofInt (m_48 8 j)) (((Int8.ofInt 70).toInt32) + (Int32.ofInt (m32 8 185))).toNatClampNeg (Int32.ofInt 1)))))) (st2 := (110, [(some (.ref 3)), (some (.int (Int32.ofInt (m32 8 185)))), (some (.int (Int32.ofInt x2_48)))], [], zk c m89)) ⟨[zo, zo, zo, zo, zo, zo, (false, 0, none, zh0, some (.inl (0, 188, .inl (fun j => Int32.ofInt (m_48 8 j)))))], _, rfl, ⟨trivial, (Nat.lt_of_lt_of_le (Nat.le_of_ble_eq_true rfl) hN), trivial, trivial, trivial, trivial, ⟨zk_ra c m_48 zA_8 (Nat.lt_of_lt_of_le (Nat.le_of_ble_eq_true rfl) hN), zi_in (zi_add (by decide : (Int8.ofInt 70).toInt32 = Int32.ofInt 70) rfl) (by omega) (by omega) (by omega)⟩, trivial⟩⟩ (z_steq rfl rfl ((zk_ias c m_48 zA_8 (zi_add (by decide : (Int8.ofInt 70).toInt32 = Int32.ofInt 70) rfl) (by unfold zR; omega) rfl).trans (by rw [hm89]))) ?_
      obtain ⟨m97, hm97⟩ : ∃ q, q = zm_up m89 8 ((140 + (m32 8 185)).toNat) (-1) := ⟨_, rfl⟩
      have hIm97 : zI c mM m97 := by rw [hm97]; exact zI_up hIm89 (zOk_p (by decide)) (zrw_i zS_8 (by omega) (show (-2147483648 : Int) ≤ (-1) ∧ (-1) ≤ 2147483647 by omega))
      have em97 : m97 8 ((140 + (m32 8 185)).toNat) = (-1) := by rw [hm97]; exact zm_eq
      have f98 : m97 1 1 = m89 1 1 := by rw [hm97]; exact zm_ne (by omega)
      have f99 : m97 1 2 = m89 1 2 := by rw [hm97]; exact zm_ne (by omega)
      have f100 : m97 4 3 = m89 4 3 := by rw [hm97]; exact zm_ne (by omega)
      have f101 : m97 4 4 = m89 4 4 := by rw [hm97]; exact zm_ne (by omega)
      have f102 : m97 8 185 = m89 8 185 := by rw [hm97]; exact zm_ne (by omega)
      have tk103 : zN m m97 := by rw [hm97]; exact zN_up tk95 (by unfold zRow; omega)
      have tk104 : zD9 (fun p i => (p = 1 ∧ (i = 2 ∨ i = 3)) ∨ (8 ≤ p ∧ p ≤ 9)) m m97 := by rw [hm97]; exact zD9_up tk96 (by first | rfl | omega | (dsimp only; omega))
      clear tk95 tk96
      refine zW.step (st1 := (121, [(some (.ref 3)), (some (.int (Int32.ofInt (m32 8 185)))), (some (.int (Int32.ofInt x2_48)))], [], z_hup (zk c m89) 8 (.inl (0, 188, .inl (upd (fun j => Int32.ofInt (m89 8 j)) (((Int16.ofInt 140).toInt32) + (Int32.ofInt (m32 8 185))).toNatClampNeg (Int32.ofInt (-1))))))) (st2 := (121, [(some (.ref 3)), (some (.int (Int32.ofInt (m32 8 185)))), (some (.int (Int32.ofInt x2_48)))], [], zk c m97)) ⟨[zo, zo, zo, zo, zo, zo, (false, 0, none, zh0, some (.inl (0, 188, .inl (fun j => Int32.ofInt (m89 8 j)))))], _, rfl, ⟨trivial, (Nat.lt_of_lt_of_le (Nat.le_of_ble_eq_true rfl) hN), trivial, trivial, trivial, trivial, ⟨zk_ra c m89 zA_8 (Nat.lt_of_lt_of_le (Nat.le_of_ble_eq_true rfl) hN), zi_in (zi_add (by decide : (Int16.ofInt 140).toInt32 = Int32.ofInt 140) rfl) (by omega) (by omega) (by omega)⟩, trivial⟩⟩ (z_steq rfl rfl ((zk_ias c m89 zA_8 (zi_add (by decide : (Int16.ofInt 140).toInt32 = Int32.ofInt 140) rfl) (by unfold zR; omega) rfl).trans (by rw [hm97]))) ?_
      have f105 : (0 : Int) ≤ m97 8 185 ∧ m97 8 185 ≤ 10 := zr_c hIm97 zS_8
      obtain ⟨m106, hm106⟩ : ∃ q, q = zm_up m97 8 185 ((m97 8 185) + 1) := ⟨_, rfl⟩
      have hIm106 : zI c mM m106 := by rw [hm106]; exact zI_up hIm97 (zOk_p (by decide)) (zrw_c zS_8 (show (0 : Int) ≤ ((m97 8 185) + 1) ∧ ((m97 8 185) + 1) ≤ 10 by omega))
      have em106 : m106 8 185 = ((m97 8 185) + 1) := by rw [hm106]; exact zm_eq
      have f107 : m106 1 1 = m97 1 1 := by rw [hm106]; exact zm_ne (by omega)
      have f108 : m106 1 2 = m97 1 2 := by rw [hm106]; exact zm_ne (by omega)
      have f109 : m106 4 3 = m97 4 3 := by rw [hm106]; exact zm_ne (by omega)
      have f110 : m106 4 4 = m97 4 4 := by rw [hm106]; exact zm_ne (by omega)
      have tk111 : zN m m106 := by rw [hm106]; exact zN_up tk103 (by unfold zRow; omega)
      have tk112 : zD9 (fun p i => (p = 1 ∧ (i = 2 ∨ i = 3)) ∨ (8 ≤ p ∧ p ≤ 9)) m m106 := by rw [hm106]; exact zD9_up tk104 (by first | rfl | omega | (dsimp only; omega))
      clear tk103 tk104
      refine zW.step (st1 := (133, [(some (.ref 3)), (some (.int (Int32.ofInt (m32 8 185)))), (some (.int (Int32.ofInt x2_48)))], [], z_hup (zk c m97) 8 (.inl (0, 188, .inl (upd (fun j => Int32.ofInt (m97 8 j)) ((Int16.ofInt 185).toInt32).toNatClampNeg ((Int32.ofInt (m97 8 ((Int16.ofInt 185).toInt32).toNatClampNeg)) + (Int32.ofInt 1))))))) (st2 := (133, [(some (.ref 3)), (some (.int (Int32.ofInt (m32 8 185)))), (some (.int (Int32.ofInt x2_48)))], [], zk c m106)) ⟨[zo, zo, zo, zo, (false, 0, none, zh0, some (.inl (0, 188, .inl (fun j => Int32.ofInt (m97 8 j))))), zo, zo, (false, 0, none, zh0, some (.inl (0, 188, .inl (fun j => Int32.ofInt (m97 8 j)))))], _, rfl, ⟨trivial, (Nat.lt_of_lt_of_le (Nat.le_of_ble_eq_true rfl) hN), trivial, trivial, ⟨zk_ra c m97 zA_8 (Nat.lt_of_lt_of_le (Nat.le_of_ble_eq_true rfl) hN), zi_in (by decide : (Int16.ofInt 185).toInt32 = Int32.ofInt 185) (by omega) (by omega) (by omega)⟩, trivial, trivial, ⟨zk_ra c m97 zA_8 (Nat.lt_of_lt_of_le (Nat.le_of_ble_eq_true rfl) hN), zi_in (by decide : (Int16.ofInt 185).toInt32 = Int32.ofInt 185) (by omega) (by omega) (by omega)⟩, trivial⟩⟩ (z_steq rfl rfl ((zk_ias c m97 zA_8 (by decide : (Int16.ofInt 185).toInt32 = Int32.ofInt 185) (⟨by decide, by decide⟩ : zR 185) (zi_add ((zk_rd (f := m97 8) (by decide : (Int16.ofInt 185).toInt32 = Int32.ofInt 185) (⟨by decide, by decide⟩ : zR 185)).trans rfl : Int32.ofInt (m97 8 ((Int16.ofInt 185).toInt32).toNatClampNeg) = Int32.ofInt (m97 8 185)) rfl)).trans (by rw [hm106]; rfl))) ?_
      refine zW.step (st1 := (134, [(some (.ref 3)), (some (.int (Int32.ofInt (m32 8 185)))), (some (.int (Int32.ofInt x2_48)))], [.int (Int32.ofInt 1)], zk c m106)) (st2 := (134, [(some (.ref 3)), (some (.int (Int32.ofInt (m32 8 185)))), (some (.int (Int32.ofInt x2_48)))], [.int (Int32.ofInt 1)], zk c m106)) ⟨[zo], _, rfl, ⟨trivial, trivial⟩⟩ rfl ?_
      exact zW.fin (zfin_i rfl rfl rfl) ⟨1, m106, rfl, rfl, hIm106, (by omega), (by omega), (by intro _; have a1 : m89 = zm_up m_48 8 (70 + (m 8 185).toNat) 1 := (by rw [hm89]; exact zupc (by omega) (by omega)); have a2 : m97 = zm_up m89 8 (140 + (m 8 185).toNat) (-1) := (by rw [hm97]; exact zupc (by omega) (by omega)); have a3 : m106 = zm_up m97 8 185 ((((m 8 185).toNat : Nat) : Int) + 1) := (by rw [hm106]; exact zupc rfl (by omega)); have c6 : m_48 8 (60 + (m 8 185).toNat) = (zic (mM 2) (mM 1 1) a9).2.2 6 := (j8_48 (60 + (m 8 185).toNat)).trans ((if_pos (by omega)).trans (congrArg _ (by omega))); have c7 : m_48 8 ((60 + (m32 8 185)).toNat) = m_48 8 (60 + (m 8 185).toNat) := congrArg _ (by omega); have aF : ((zic (mM 2) (mM 1 1) a9).2.2 6 = 6 ∧ m_48 = zm_up m_48 8 (60 + (m 8 185).toNat) (-1)) ∨ ((zic (mM 2) (mM 1 1) a9).2.2 6 ≠ 6 ∧ m_48 = m_48) := Or.inr ⟨by omega, rfl⟩; have cr : 0 ≤ (zic (mM 2) (mM 1 1) a9).2.2 6 := (zic_rg (mM 2) (mM 1 1) a9 6).1; rw [q47.2.2]; exact zWc_clock2 (by omega) (by omega) (by omega) tk112 (fun i => (j8_48 i).trans (ite_congr (propext (by omega)) (fun _ => rfl) (fun _ => rfl))) aF cr a1 a2 a3), (by omega), (by omega), tk111, tk112⟩

set_option maxRecDepth 100000 in
set_option maxHeartbeats 4000000 in
theorem L_X4_takesWay_F_2 (zn : Bool) (d : Nat) {c : Nat × Nat} {mM : zM} (hN : 107 ≤ c.1) (hC : c.1 < z_RO) (p : Int) (a9 : Int) (r_p : -2147483648 ≤ p ∧ p ≤ 2147483647) (hp : 0 ≤ p ∧ p ≤ 5) (hb9 : 0 ≤ a9 ∧ a9 ≤ mM 1 1) (m0 : zM) (Q : Option Value → z_H → Prop) (KR : ∀ v h1, (fun v h1 => ∃ (r : Int) (m1 : zM), v = some (.int (Int32.ofInt r)) ∧ h1 = zk c m1 ∧ zI c mM m1 ∧ (0 ≤ r ∧ r ≤ 1) ∧ (r = (zwz (mM 2) (mM 1 1) a9).1 ∧ m1 1 2 = (zwz (mM 2) (mM 1 1) a9).2.1) ∧ (r = 1 → m1 7 = zvu (m0 7) (p).toNat ((zwz (mM 2) (mM 1 1) a9).2.2.1 : Int) ∧ (zwz (mM 2) (mM 1 1) a9).2.2.1 ≤ 8 ∧ ∀ j : Nat, j < (zwz (mM 2) (mM 1 1) a9).2.2.1 → m1 6 (8 * (p).toNat + j) = (zwz (mM 2) (mM 1 1) a9).2.2.2 j) ∧ (∀ i : Nat, i < 8 * (p).toNat ∨ 8 * (p).toNat + 8 ≤ i → m1 6 i = m0 6 i) ∧ (a9 ≤ m1 1 2 ∧ m1 1 2 ≤ mM 1 1) ∧ zN m0 m1 ∧ zD9 (fun p i => (p = 1 ∧ (i = 2 ∨ i = 3)) ∨ (6 ≤ p ∧ p ≤ 7)) m0 m1) v h1 → Q v h1) :
    ∀ (w : Nat) (x2 : Int) (o3 : Option Value) (m : zM), zI c mM m → 0 ≤ x2 ∧ x2 ≤ 8 → a9 ≤ m 1 2 ∧ m 1 2 ≤ mM 1 1 → zwz (mM 2) (mM 1 1) a9 = zwy (mM 2) (mM 1 1) (9 - x2).toNat x2.toNat (m 1 2) (zwv m p x2) → (x2 = 0 ∧ m 7 = m0 7) ∨ (0 < x2 ∧ m 7 = zvu (m0 7) p.toNat x2) → (∀ i : Nat, i < 8 * p.toNat ∨ 8 * p.toNat + 8 ≤ i → m 6 i = m0 6 i) → zN m0 m → zD9 (fun p i => (p = 1 ∧ (i = 2 ∨ i = 3)) ∨ (6 ≤ p ∧ p ≤ 7)) m0 m → w = (9 - x2).toNat → zW zn (d + 2) 82 c (2, [(some (.ref 3)), (some (.int (Int32.ofInt p))), (some (.int (Int32.ofInt x2))), o3], [], zk c m) Q := by
  intro w
  induction w using Nat.strongRecOn with | _ w ih => ?_
  intro x2 o3 m hIm i1 jb J J7 J6 tN tD hw
  have f1 : (0 : Int) ≤ m 1 1 ∧ m 1 1 ≤ 240 := hIm.1 1 1
  have f2 : (0 : Int) ≤ m 1 2 ∧ m 1 2 ≤ 240 := hIm.1 1 2
  have f3 : (0 : Int) ≤ m 4 3 ∧ m 4 3 ≤ 5 := hIm.1 4 3
  have f4 : (0 : Int) ≤ m 4 4 ∧ m 4 4 ≤ 6 := hIm.1 4 4
  have f5 : (0 : Int) ≤ m 8 185 ∧ m 8 185 ≤ 10 := zr_c hIm zS_8
  have q6 := zn_c hIm
  have q7 := znx_le (b := mM 2) (n := mM 1 1) jb.2
  have b8 : ¬ (8 < x2) := by omega
  refine zW.step (st1 := (8, [(some (.ref 3)), (some (.int (Int32.ofInt p))), (some (.int (Int32.ofInt x2))), o3], [], zk c m)) (st2 := (8, [(some (.ref 3)), (some (.int (Int32.ofInt p))), (some (.int (Int32.ofInt x2))), o3], [], zk c m)) ⟨[zo, zo, zo], _, rfl, ⟨trivial, trivial, zbf (fun q => b8 ((zi_lt (by decide : (Int8.ofInt 8).toInt32 = Int32.ofInt 8) rfl (⟨by decide, by decide⟩ : zR 8) (by unfold zR; omega)).mp q)), trivial⟩⟩ rfl ?_
  refine zW.step (st1 := (12, [(some (.ref 3)), (some (.int (Int32.ofInt p))), (some (.int (Int32.ofInt x2))), o3], [.ref 1], zk c m)) (st2 := (12, [(some (.ref 3)), (some (.int (Int32.ofInt p))), (some (.int (Int32.ofInt x2))), o3], [.ref 1], zk c m)) ⟨[zo, zo], _, rfl, ⟨trivial, (Nat.lt_of_lt_of_le (Nat.le_of_ble_eq_true rfl) hN), trivial⟩⟩ rfl ?_
  obtain ⟨r9, m9, hs9, hIm9, z_9, f_9, p_9, b_9, l_9, c3_9, kN_9, kD_9⟩ := S_X8_next_F zn (d + 0) hN hC (m 1 2) m hIm (by omega) (by omega)
  refine zW.step (st1 := (15, [(some (.ref 3)), (some (.int (Int32.ofInt p))), (some (.int (Int32.ofInt x2))), o3], [.int (Int32.ofInt r9)], zk c m9)) ⟨[zc (some (.int (Int32.ofInt r9))) (zk c m9)], _, rfl, ⟨⟨⟨(Nat.lt_of_lt_of_le (Nat.le_of_ble_eq_true rfl) hN), (Nat.le_of_ble_eq_true rfl)⟩, hs9, (Nat.le_of_ble_eq_true rfl), Nat.le_refl _, Nat.le_refl _, Nat.le_refl _, Nat.le_refl _⟩, trivial⟩⟩ rfl ?_
  have f10 : (0 : Int) ≤ m9 1 1 ∧ m9 1 1 ≤ 240 := hIm9.1 1 1
  have f11 : m9 1 1 = m 1 1 := kD_9 1 1 (by omega)
  have f12 : (0 : Int) ≤ m9 1 2 ∧ m9 1 2 ≤ 240 := hIm9.1 1 2
  have f13 : (0 : Int) ≤ m9 4 3 ∧ m9 4 3 ≤ 5 := hIm9.1 4 3
  have f14 : m9 4 3 = m 4 3 := kD_9 4 3 (by omega)
  have f15 : (0 : Int) ≤ m9 4 4 ∧ m9 4 4 ≤ 6 := hIm9.1 4 4
  have f16 : m9 4 4 = m 4 4 := kD_9 4 4 (by omega)
  have f17 : (0 : Int) ≤ m9 8 185 ∧ m9 8 185 ≤ 10 := zr_c hIm9 zS_8
  have f18 : m9 8 185 = m 8 185 := kD_9 8 185 (by omega)
  have tk19 : zN m0 m9 := zN_tr tN kN_9
  have tk20 : zD9 (fun p i => (p = 1 ∧ (i = 2 ∨ i = 3)) ∨ (6 ≤ p ∧ p ≤ 7)) m0 m9 := zD9_tr tD (zD9_mo kD_9 (fun p i w => by have w2 : p = 1 ∧ (i = 2 ∨ i = 3) := w; show (p = 1 ∧ (i = 2 ∨ i = 3)) ∨ (6 ≤ p ∧ p ≤ 7); omega))
  refine zW.step (st1 := (17, [(some (.ref 3)), (some (.int (Int32.ofInt p))), (some (.int (Int32.ofInt x2))), (some (.int (Int32.ofInt r9)))], [.int (Int32.ofInt r9)], zk c m9)) (st2 := (17, [(some (.ref 3)), (some (.int (Int32.ofInt p))), (some (.int (Int32.ofInt x2))), (some (.int (Int32.ofInt r9)))], [.int (Int32.ofInt r9)], zk c m9)) ⟨[zo, zo], _, rfl, ⟨trivial, trivial, trivial⟩⟩ rfl ?_
  obtain ⟨r21, hs21, z_21, q_21⟩ := S_X8_isDigit zn (d + 1) hN hC r9 m9 hIm9 (by omega)
  refine zW.step (st1 := (20, [(some (.ref 3)), (some (.int (Int32.ofInt p))), (some (.int (Int32.ofInt x2))), (some (.int (Int32.ofInt r9)))], [.int (Int32.ofInt r21)], zk c m9)) ⟨[zc (some (.int (Int32.ofInt r21))) (zk c m9)], _, rfl, ⟨⟨(Nat.le_of_ble_eq_true rfl), hs21, (Nat.le_of_ble_eq_true rfl), Nat.le_refl _, Nat.le_refl _, Nat.le_refl _, Nat.le_refl _⟩, trivial⟩⟩ rfl ?_
  by_cases b22 : r21 = 0
  · refine zW.step (st1 := (23, [(some (.ref 3)), (some (.int (Int32.ofInt p))), (some (.int (Int32.ofInt x2))), (some (.int (Int32.ofInt r9)))], [], zk c m9)) (st2 := (23, [(some (.ref 3)), (some (.int (Int32.ofInt p))), (some (.int (Int32.ofInt x2))), (some (.int (Int32.ofInt r9)))], [], zk c m9)) ⟨[zo], _, rfl, ⟨zbf (fun q => q ((zi_eq rfl (rfl : (0 : Int32) = Int32.ofInt 0) (by unfold zR; omega) (⟨by decide, by decide⟩ : zR 0)).mpr b22)), trivial⟩⟩ rfl ?_
    have qE := zwy_l1 J (by omega) (by omega)
    by_cases b24 : x2 ≤ 0
    · refine zW.step (st1 := (31, [(some (.ref 3)), (some (.int (Int32.ofInt p))), (some (.int (Int32.ofInt x2))), (some (.int (Int32.ofInt r9)))], [], zk c m9)) (st2 := (31, [(some (.ref 3)), (some (.int (Int32.ofInt p))), (some (.int (Int32.ofInt x2))), (some (.int (Int32.ofInt r9)))], [], zk c m9)) ⟨[zo, zt], _, rfl, ⟨trivial, zbt ((zi_le rfl (rfl : (0 : Int32) = Int32.ofInt 0) (by unfold zR; omega) (⟨by decide, by decide⟩ : zR 0)).mpr b24), trivial⟩⟩ rfl ?_
      refine zW.step (st1 := (32, [(some (.ref 3)), (some (.int (Int32.ofInt p))), (some (.int (Int32.ofInt x2))), (some (.int (Int32.ofInt r9)))], [.int (Int32.ofInt 0)], zk c m9)) (st2 := (32, [(some (.ref 3)), (some (.int (Int32.ofInt p))), (some (.int (Int32.ofInt x2))), (some (.int (Int32.ofInt r9)))], [.int (Int32.ofInt 0)], zk c m9)) ⟨[zo], _, rfl, ⟨trivial, trivial⟩⟩ rfl ?_
      exact zW.fin (zfin_i rfl rfl rfl) (KR _ _ ⟨0, m9, rfl, rfl, hIm9, (by omega), (by omega), (by first | (intro h; exact absurd h (by decide)) | (intro _; exact zwl_e J7 kD_9 qE.2.2.2.1 qE.2.2.2.2 (by omega) (by omega))), (by intro i hi; exact (kD_9 6 i (by omega)).trans (J6 i hi)), (by omega), tk19, tk20⟩)
    · refine zW.step (st1 := (27, [(some (.ref 3)), (some (.int (Int32.ofInt p))), (some (.int (Int32.ofInt x2))), (some (.int (Int32.ofInt r9)))], [], zk c m9)) (st2 := (27, [(some (.ref 3)), (some (.int (Int32.ofInt p))), (some (.int (Int32.ofInt x2))), (some (.int (Int32.ofInt r9)))], [], zk c m9)) ⟨[zo, zo], _, rfl, ⟨trivial, zbf (fun q => b24 ((zi_le rfl (rfl : (0 : Int32) = Int32.ofInt 0) (by unfold zR; omega) (⟨by decide, by decide⟩ : zR 0)).mp q)), trivial⟩⟩ rfl ?_
      refine zW.step (st1 := (32, [(some (.ref 3)), (some (.int (Int32.ofInt p))), (some (.int (Int32.ofInt x2))), (some (.int (Int32.ofInt r9)))], [.int (Int32.ofInt 1)], zk c m9)) (st2 := (32, [(some (.ref 3)), (some (.int (Int32.ofInt p))), (some (.int (Int32.ofInt x2))), (some (.int (Int32.ofInt r9)))], [.int (Int32.ofInt 1)], zk c m9)) ⟨[zo, zo], _, rfl, ⟨trivial, trivial, trivial⟩⟩ rfl ?_
      exact zW.fin (zfin_i rfl rfl rfl) (KR _ _ ⟨1, m9, rfl, rfl, hIm9, (by omega), (by omega), (by first | (intro h; exact absurd h (by decide)) | (intro _; exact zwl_e J7 kD_9 qE.2.2.2.1 qE.2.2.2.2 (by omega) (by omega))), (by intro i hi; exact (kD_9 6 i (by omega)).trans (J6 i hi)), (by omega), tk19, tk20⟩)
  · refine zW.step (st1 := (33, [(some (.ref 3)), (some (.int (Int32.ofInt p))), (some (.int (Int32.ofInt x2))), (some (.int (Int32.ofInt r9)))], [], zk c m9)) (st2 := (33, [(some (.ref 3)), (some (.int (Int32.ofInt p))), (some (.int (Int32.ofInt x2))), (some (.int (Int32.ofInt r9)))], [], zk c m9)) ⟨[zt], _, rfl, ⟨zbt (fun q => b22 ((zi_eq rfl (rfl : (0 : Int32) = Int32.ofInt 0) (by unfold zR; omega) (⟨by decide, by decide⟩ : zR 0)).mp q)), trivial⟩⟩ rfl ?_
    by_cases b25 : x2 = 8
    · refine zW.step (st1 := (45, [(some (.ref 3)), (some (.int (Int32.ofInt p))), (some (.int (Int32.ofInt x2))), (some (.int (Int32.ofInt r9)))], [], zk c m9)) (st2 := (45, [(some (.ref 3)), (some (.int (Int32.ofInt p))), (some (.int (Int32.ofInt x2))), (some (.int (Int32.ofInt r9)))], [], zk c m9)) ⟨[zo, zo, zt], _, rfl, ⟨trivial, trivial, zbt ((zi_eq rfl (by decide : (Int8.ofInt 8).toInt32 = Int32.ofInt 8) (by unfold zR; omega) (⟨by decide, by decide⟩ : zR 8)).mpr b25), trivial⟩⟩ rfl ?_
      have q26 := zwy_l2 J (by omega) (by omega) (by omega)
      refine zW.step (st1 := (46, [(some (.ref 3)), (some (.int (Int32.ofInt p))), (some (.int (Int32.ofInt x2))), (some (.int (Int32.ofInt r9)))], [.int (Int32.ofInt 0)], zk c m9)) (st2 := (46, [(some (.ref 3)), (some (.int (Int32.ofInt p))), (some (.int (Int32.ofInt x2))), (some (.int (Int32.ofInt r9)))], [.int (Int32.ofInt 0)], zk c m9)) ⟨[zo], _, rfl, ⟨trivial, trivial⟩⟩ rfl ?_
      exact zW.fin (zfin_i rfl rfl rfl) (KR _ _ ⟨0, m9, rfl, rfl, hIm9, (by omega), (by omega), (by first | (intro h; exact absurd h (by decide)) | (intro _; exact zwl_e J7 kD_9 qE.2.2.2.1 qE.2.2.2.2 (by omega) (by omega))), (by intro i hi; exact (kD_9 6 i (by omega)).trans (J6 i hi)), (by omega), tk19, tk20⟩)
    · refine zW.step (st1 := (39, [(some (.ref 3)), (some (.int (Int32.ofInt p))), (some (.int (Int32.ofInt x2))), (some (.int (Int32.ofInt r9)))], [], zk c m9)) (st2 := (39, [(some (.ref 3)), (some (.int (Int32.ofInt p))), (some (.int (Int32.ofInt x2))), (some (.int (Int32.ofInt r9)))], [], zk c m9)) ⟨[zo, zo, zo], _, rfl, ⟨trivial, trivial, zbf (fun q => b25 ((zi_eq rfl (by decide : (Int8.ofInt 8).toInt32 = Int32.ofInt 8) (by unfold zR; omega) (⟨by decide, by decide⟩ : zR 8)).mp q)), trivial⟩⟩ rfl ?_
      by_cases b27 : r9 ≤ 52
      · refine zW.step (st1 := (47, [(some (.ref 3)), (some (.int (Int32.ofInt p))), (some (.int (Int32.ofInt x2))), (some (.int (Int32.ofInt r9)))], [], zk c m9)) (st2 := (47, [(some (.ref 3)), (some (.int (Int32.ofInt p))), (some (.int (Int32.ofInt x2))), (some (.int (Int32.ofInt r9)))], [], zk c m9)) ⟨[zo, zo, zt], _, rfl, ⟨trivial, trivial, zbt ((zi_le rfl (by decide : (Int8.ofInt 52).toInt32 = Int32.ofInt 52) (by unfold zR; omega) (⟨by decide, by decide⟩ : zR 52)).mpr b27), trivial⟩⟩ rfl ?_
        have f28 := zwR (r9 - 48)
        have f29 := zwI (r9 - 48)
        obtain ⟨m30, hm30⟩ : ∃ q, q = zm_up m9 6 (((p * 8) + x2).toNat) (zw (r9 - 48)) := ⟨_, rfl⟩
        have hIm30 : zI c mM m30 := by rw [hm30]; exact zI_up hIm9 (zOk_p (by decide)) (show (-2147483648 : Int) ≤ (zw (r9 - 48)) ∧ (zw (r9 - 48)) ≤ 2147483647 by omega)
        have em30 : m30 6 (((p * 8) + x2).toNat) = (zw (r9 - 48)) := by rw [hm30]; exact zm_eq
        have f31 : m30 1 1 = m9 1 1 := by rw [hm30]; exact zm_ne (by omega)
        have f32 : m30 1 2 = m9 1 2 := by rw [hm30]; exact zm_ne (by omega)
        have f33 : m30 4 3 = m9 4 3 := by rw [hm30]; exact zm_ne (by omega)
        have f34 : m30 4 4 = m9 4 4 := by rw [hm30]; exact zm_ne (by omega)
        have f35 : m30 8 185 = m9 8 185 := by rw [hm30]; exact zm_ne (by omega)
        have tk36 : zN m0 m30 := by rw [hm30]; exact zN_up tk19 (by unfold zRow; omega)
        have tk37 : zD9 (fun p i => (p = 1 ∧ (i = 2 ∨ i = 3)) ∨ (6 ≤ p ∧ p ≤ 7)) m0 m30 := by rw [hm30]; exact zD9_up tk20 (by first | rfl | omega | (dsimp only; omega))
        clear tk19 tk20
        refine zW.step (st1 := (65, [(some (.ref 3)), (some (.int (Int32.ofInt p))), (some (.int (Int32.ofInt x2))), (some (.int (Int32.ofInt r9)))], [], z_hup (zk c m9) 6 (.inl (0, 48, .inl (upd (fun j => Int32.ofInt (m9 6 j)) (((Int32.ofInt p) * ((Int8.ofInt 8).toInt32)) + (Int32.ofInt x2)).toNatClampNeg ((Int32.ofInt r9) - ((Int8.ofInt 48).toInt32))))))) (st2 := (65, [(some (.ref 3)), (some (.int (Int32.ofInt p))), (some (.int (Int32.ofInt x2))), (some (.int (Int32.ofInt r9)))], [], zk c m30)) ⟨[zo, zo, zo, zo, zo, zo, zo, zo, zo, zo, zo, (false, 0, none, zh0, some (.inl (0, 48, .inl (fun j => Int32.ofInt (m9 6 j)))))], _, rfl, ⟨trivial, (Nat.lt_of_lt_of_le (Nat.le_of_ble_eq_true rfl) hN), (Nat.lt_of_lt_of_le (Nat.le_of_ble_eq_true rfl) hN), trivial, trivial, trivial, trivial, trivial, trivial, trivial, trivial, ⟨zk_ra c m9 zA_6 (Nat.lt_of_lt_of_le (Nat.le_of_ble_eq_true rfl) hN), zi_in (zi_add (zi_mul rfl (by decide : (Int8.ofInt 8).toInt32 = Int32.ofInt 8)) rfl) (by omega) (by omega) (by omega)⟩, trivial⟩⟩ (z_steq rfl rfl ((zk_ias c m9 zA_6 (zi_add (zi_mul rfl (by decide : (Int8.ofInt 8).toInt32 = Int32.ofInt 8)) rfl) (by unfold zR; omega) (Eq.trans (zi_sub rfl (by decide : (Int8.ofInt 48).toInt32 = Int32.ofInt 48)) (zw_eq _))).trans (by rw [hm30]))) ?_
        obtain ⟨m38, hm38⟩ : ∃ q, q = zm_up m30 7 p.toNat (x2 + 1) := ⟨_, rfl⟩
        have hIm38 : zI c mM m38 := by rw [hm38]; exact zI_up hIm30 (zOk_p (by decide)) (show (0 : Int) ≤ (x2 + 1) ∧ (x2 + 1) ≤ 8 by omega)
        have em38 : m38 7 p.toNat = (x2 + 1) := by rw [hm38]; exact zm_eq
        have f39 : m38 1 1 = m30 1 1 := by rw [hm38]; exact zm_ne (by omega)
        have f40 : m38 1 2 = m30 1 2 := by rw [hm38]; exact zm_ne (by omega)
        have f41 : m38 4 3 = m30 4 3 := by rw [hm38]; exact zm_ne (by omega)
        have f42 : m38 4 4 = m30 4 4 := by rw [hm38]; exact zm_ne (by omega)
        have f43 : m38 8 185 = m30 8 185 := by rw [hm38]; exact zm_ne (by omega)
        have tk44 : zN m0 m38 := by rw [hm38]; exact zN_up tk36 (by unfold zRow; omega)
        have tk45 : zD9 (fun p i => (p = 1 ∧ (i = 2 ∨ i = 3)) ∨ (6 ≤ p ∧ p ≤ 7)) m0 m38 := by rw [hm38]; exact zD9_up tk37 (by first | rfl | omega | (dsimp only; omega))
        clear tk36 tk37
        refine zW.step (st1 := (77, [(some (.ref 3)), (some (.int (Int32.ofInt p))), (some (.int (Int32.ofInt x2))), (some (.int (Int32.ofInt r9)))], [], z_hup (zk c m30) 7 (.inl (0, 6, .inl (upd (fun j => Int32.ofInt (m30 7 j)) (Int32.ofInt p).toNatClampNeg ((Int32.ofInt x2) + (Int32.ofInt 1))))))) (st2 := (77, [(some (.ref 3)), (some (.int (Int32.ofInt p))), (some (.int (Int32.ofInt x2))), (some (.int (Int32.ofInt r9)))], [], zk c m38)) ⟨[zo, zo, zo, zo, zo, zo, zo, (false, 0, none, zh0, some (.inl (0, 6, .inl (fun j => Int32.ofInt (m30 7 j)))))], _, rfl, ⟨trivial, (Nat.lt_of_lt_of_le (Nat.le_of_ble_eq_true rfl) hN), (Nat.lt_of_lt_of_le (Nat.le_of_ble_eq_true rfl) hN), trivial, trivial, trivial, trivial, ⟨zk_ra c m30 zA_7 (Nat.lt_of_lt_of_le (Nat.le_of_ble_eq_true rfl) hN), zi_in rfl (by omega) (by omega) (by omega)⟩, trivial⟩⟩ (z_steq rfl rfl ((zk_ias c m30 zA_7 rfl (by unfold zR; omega) (zi_add rfl rfl)).trans (by rw [hm38]))) ?_
        have f46 : (0 : Int) ≤ m38 1 2 ∧ m38 1 2 ≤ 240 := hIm38.1 1 2
        obtain ⟨m47, hm47⟩ : ∃ q, q = zm_up m38 1 2 ((m38 1 2) + 1) := ⟨_, rfl⟩
        have hIm47 : zI c mM m47 := by rw [hm47]; exact zI_up hIm38 (by unfold zOk; decide) (show (0 : Int) ≤ ((m38 1 2) + 1) ∧ ((m38 1 2) + 1) ≤ 240 by omega)
        have em47 : m47 1 2 = ((m38 1 2) + 1) := by rw [hm47]; exact zm_eq
        have f48 : m47 1 1 = m38 1 1 := by rw [hm47]; exact zm_ne (by omega)
        have f49 : m47 4 3 = m38 4 3 := by rw [hm47]; exact zm_ne (by omega)
        have f50 : m47 4 4 = m38 4 4 := by rw [hm47]; exact zm_ne (by omega)
        have f51 : m47 8 185 = m38 8 185 := by rw [hm47]; exact zm_ne (by omega)
        have tk52 : zN m0 m47 := by rw [hm47]; exact zN_up tk44 (by unfold zRow; omega)
        have tk53 : zD9 (fun p i => (p = 1 ∧ (i = 2 ∨ i = 3)) ∨ (6 ≤ p ∧ p ≤ 7)) m0 m47 := by rw [hm47]; exact zD9_up tk45 (by first | rfl | omega | (dsimp only; omega))
        clear tk44 tk45
        refine zW.step (st1 := (90, [(some (.ref 3)), (some (.int (Int32.ofInt p))), (some (.int (Int32.ofInt x2))), (some (.int (Int32.ofInt r9)))], [], z_hup (zk c m38) 1 (.inr (8, [.ref 2, .int (Int32.ofInt (m38 1 1)), .int ((Int32.ofInt (m38 1 2)) + (Int32.ofInt 1)), .int (Int32.ofInt (m38 1 3))])))) (st2 := (90, [(some (.ref 3)), (some (.int (Int32.ofInt p))), (some (.int (Int32.ofInt x2))), (some (.int (Int32.ofInt r9)))], [], zk c m47)) ⟨[zo, zo, zo, zo, zo, zo, zo], _, rfl, ⟨trivial, (Nat.lt_of_lt_of_le (Nat.le_of_ble_eq_true rfl) hN), trivial, (Nat.lt_of_lt_of_le (Nat.le_of_ble_eq_true rfl) hN), trivial, trivial, ⟨(Nat.lt_of_lt_of_le (Nat.le_of_ble_eq_true rfl) hN), rfl, rfl⟩, trivial⟩⟩ (z_steq rfl rfl ((zk_up c m38 1 2 ((m38 1 2) + 1) _ ((congrArg (fun q => (.inr (8, [.ref 2, .int (Int32.ofInt (m38 1 1)), .int q, .int (Int32.ofInt (m38 1 3))]) : z_E)) (zi_add rfl rfl)).trans rfl)).trans (by rw [hm47]))) ?_
        have qS := zwy_l3 J (by omega) (by omega) (show m47 1 2 = znx (mM 2) (mM 1 1) (m 1 2) + 1 by omega) (zwv_s (M := m47) (m := m) (p := p) (x := x2) (d := zpk (mM 2) (mM 1 1) (znx (mM 2) (mM 1 1) (m 1 2)) - 48) (by rw [hm47, zup_o (by decide), hm38, zup_o (by decide), hm30, zvu_up, zD9_r kD_9 (by decide)]; exact zvuc (by omega) (by omega)) (by omega))
        refine zW.step (st1 := (2, [(some (.ref 3)), (some (.int (Int32.ofInt p))), (some (.int ((Int32.ofInt x2) + Int32.ofInt 1))), (some (.int (Int32.ofInt r9)))], [], zk c m47)) (st2 := (2, [(some (.ref 3)), (some (.int (Int32.ofInt p))), (some (.int (Int32.ofInt (x2 + 1)))), (some (.int (Int32.ofInt r9)))], [], zk c m47)) ⟨[zo, zo], _, rfl, ⟨trivial, trivial, trivial⟩⟩ (z_steq (z_c1 rfl (z_c1 rfl (z_c1 (z_si (zi_add rfl rfl)) rfl))) rfl rfl) ?_
        exact ih _ (by omega) (x2 + 1) (some (.int (Int32.ofInt r9))) m47 hIm47 (by omega) (by omega) (by exact qS) (by exact zwl_7 J7 kD_9 (show m30 7 = m9 7 by rw [hm30]; exact zup_o (by decide)) hm38 (by omega) (by omega) (show m47 7 = m38 7 by rw [hm47]; exact zup_o (by decide)) (by omega)) (by intro i hi; rw [hm47, zm_ne (Or.inl (by decide)), hm38, zm_ne (Or.inl (by decide)), hm30, zm_ne (Or.inr (by omega))]; exact (kD_9 6 i (by omega)).trans (J6 i hi)) tk52 tk53 rfl
      · refine zW.step (st1 := (45, [(some (.ref 3)), (some (.int (Int32.ofInt p))), (some (.int (Int32.ofInt x2))), (some (.int (Int32.ofInt r9)))], [], zk c m9)) (st2 := (45, [(some (.ref 3)), (some (.int (Int32.ofInt p))), (some (.int (Int32.ofInt x2))), (some (.int (Int32.ofInt r9)))], [], zk c m9)) ⟨[zo, zo, zo], _, rfl, ⟨trivial, trivial, zbf (fun q => b27 ((zi_le rfl (by decide : (Int8.ofInt 52).toInt32 = Int32.ofInt 52) (by unfold zR; omega) (⟨by decide, by decide⟩ : zR 52)).mp q)), trivial⟩⟩ rfl ?_
        have q55 := zwy_l2 J (by omega) (by omega) (by omega)
        refine zW.step (st1 := (46, [(some (.ref 3)), (some (.int (Int32.ofInt p))), (some (.int (Int32.ofInt x2))), (some (.int (Int32.ofInt r9)))], [.int (Int32.ofInt 0)], zk c m9)) (st2 := (46, [(some (.ref 3)), (some (.int (Int32.ofInt p))), (some (.int (Int32.ofInt x2))), (some (.int (Int32.ofInt r9)))], [.int (Int32.ofInt 0)], zk c m9)) ⟨[zo], _, rfl, ⟨trivial, trivial⟩⟩ rfl ?_
        exact zW.fin (zfin_i rfl rfl rfl) (KR _ _ ⟨0, m9, rfl, rfl, hIm9, (by omega), (by omega), (by first | (intro h; exact absurd h (by decide)) | (intro _; exact zwl_e J7 kD_9 qE.2.2.2.1 qE.2.2.2.2 (by omega) (by omega))), (by intro i hi; exact (kD_9 6 i (by omega)).trans (J6 i hi)), (by omega), tk19, tk20⟩)

set_option maxRecDepth 100000 in
set_option maxHeartbeats 4000000 in
theorem S_X4_takesWay_F (zn : Bool) (d : Nat) {c : Nat × Nat} {mM : zM} (hN : 107 ≤ c.1) (hC : c.1 < z_RO) (p : Int) (a9 : Int) (m : zM) (hIm : zI c mM m) (r_p : -2147483648 ≤ p ∧ p ≤ 2147483647) (hp : 0 ≤ p ∧ p ≤ 5) (ha9 : m 1 2 = a9) (hb9 : 0 ≤ a9 ∧ a9 ≤ mM 1 1) : zCi zn (d + 3) 82 [.ref 3, .int (Int32.ofInt p)] c m (fun (r : Int) (m1 : zM) => zI c mM m1 ∧ (0 ≤ r ∧ r ≤ 1) ∧ (r = (zwz (mM 2) (mM 1 1) a9).1 ∧ m1 1 2 = (zwz (mM 2) (mM 1 1) a9).2.1) ∧ (r = 1 → m1 7 = zvu (m 7) (p).toNat ((zwz (mM 2) (mM 1 1) a9).2.2.1 : Int) ∧ (zwz (mM 2) (mM 1 1) a9).2.2.1 ≤ 8 ∧ ∀ j : Nat, j < (zwz (mM 2) (mM 1 1) a9).2.2.1 → m1 6 (8 * (p).toNat + j) = (zwz (mM 2) (mM 1 1) a9).2.2.2 j) ∧ (∀ i : Nat, i < 8 * (p).toNat ∨ 8 * (p).toNat + 8 ≤ i → m1 6 i = m 6 i) ∧ (a9 ≤ m1 1 2 ∧ m1 1 2 ≤ mM 1 1) ∧ zN m m1 ∧ zD9 (fun p i => (p = 1 ∧ (i = 2 ∨ i = 3)) ∨ (6 ≤ p ∧ p ≤ 7)) m m1) := by
  refine zCi.of zu_X4_takesWay hC (Nat.le_of_ble_eq_true rfl) ?_
  show zW zn (d + 2) 82 c (0, [(some (.ref 3)), (some (.int (Int32.ofInt p))), none, none], [], zk c m) (fun v h1 => ∃ (r : Int) (m1 : zM), v = some (.int (Int32.ofInt r)) ∧ h1 = zk c m1 ∧ zI c mM m1 ∧ (0 ≤ r ∧ r ≤ 1) ∧ (r = (zwz (mM 2) (mM 1 1) a9).1 ∧ m1 1 2 = (zwz (mM 2) (mM 1 1) a9).2.1) ∧ (r = 1 → m1 7 = zvu (m 7) (p).toNat ((zwz (mM 2) (mM 1 1) a9).2.2.1 : Int) ∧ (zwz (mM 2) (mM 1 1) a9).2.2.1 ≤ 8 ∧ ∀ j : Nat, j < (zwz (mM 2) (mM 1 1) a9).2.2.1 → m1 6 (8 * (p).toNat + j) = (zwz (mM 2) (mM 1 1) a9).2.2.2 j) ∧ (∀ i : Nat, i < 8 * (p).toNat ∨ 8 * (p).toNat + 8 ≤ i → m1 6 i = m 6 i) ∧ (a9 ≤ m1 1 2 ∧ m1 1 2 ≤ mM 1 1) ∧ zN m m1 ∧ zD9 (fun p i => (p = 1 ∧ (i = 2 ∨ i = 3)) ∨ (6 ≤ p ∧ p ≤ 7)) m m1)
  have f56 : (0 : Int) ≤ m 1 1 ∧ m 1 1 ≤ 240 := hIm.1 1 1
  have f57 : (0 : Int) ≤ m 1 2 ∧ m 1 2 ≤ 240 := hIm.1 1 2
  have f58 : (0 : Int) ≤ m 4 3 ∧ m 4 3 ≤ 5 := hIm.1 4 3
  have f59 : (0 : Int) ≤ m 4 4 ∧ m 4 4 ≤ 6 := hIm.1 4 4
  have f60 : (0 : Int) ≤ m 8 185 ∧ m 8 185 ≤ 10 := zr_c hIm zS_8
  have q61 := zn_c hIm
  refine zW.step (st1 := (2, [(some (.ref 3)), (some (.int (Int32.ofInt p))), (some (.int (Int32.ofInt 0))), none], [], zk c m)) (st2 := (2, [(some (.ref 3)), (some (.int (Int32.ofInt p))), (some (.int (Int32.ofInt 0))), none], [], zk c m)) ⟨[zo, zo], _, rfl, ⟨trivial, trivial, trivial⟩⟩ rfl ?_
  exact L_X4_takesWay_F_2 zn _ hN hC p a9 r_p hp hb9 m _ (fun v9 h9 hq9 => hq9) _ 0 none m hIm (by omega) (by omega) (by rw [ha9, zwv_0]; rfl) (by exact Or.inl ⟨rfl, rfl⟩) (by intro i _; rfl) zN_rf zD9_rf rfl

