/-! texts, by program (wip/tools/gw5): X4_oneClock_F, X4_takesWay_F -/
set_option maxRecDepth 100000 in
set_option maxHeartbeats 4000000 in
theorem L_X4_oneClock_F_44 (zn : Bool) (d : Nat) {c : Nat × Nat} {mM : zM} (hN : 107 ≤ c.1) (hC : c.1 < z_RO) (a9 : Int) (hb9 : 0 ≤ a9 ∧ a9 ≤ mM 1 1) (x1 : Int) (m0 : zM) (Q : Option Value → z_H → Prop) (K : ∀ (x2 : Int) (m : zM), zI c mM m → 0 ≤ x2 ∧ x2 ≤ 7 → 0 ≤ x1 ∧ x1 ≤ 5 → x1 = m0 8 185 → m 1 2 = (zcl_c (mM 2) (mM 1 1) a9 (zWc m0)).2.1 ∧ m 8 185 = m0 8 185 → (∀ j : Nat, j < 7 → m 9 j = (zic (mM 2) (mM 1 1) a9).2.2 j) → ∀ i : Nat, m 8 i = if i % 10 = x1.toNat ∧ i < 10 * x2.toNat then (zic (mM 2) (mM 1 1) a9).2.2 (i / 10) else m0 8 i → zN m0 m → zD9 (fun p i => (p = 1 ∧ (i = 2 ∨ i = 3)) ∨ (8 ≤ p ∧ p ≤ 9)) m0 m → x2 = 7 → zW zn (d + 5) 77 c (76, [(some (.ref 3)), (some (.int (Int32.ofInt x1))), (some (.int (Int32.ofInt x2)))], [], zk c m) Q) :
    ∀ (w : Nat) (x2 : Int) (m : zM), zI c mM m → 0 ≤ x2 ∧ x2 ≤ 7 → 0 ≤ x1 ∧ x1 ≤ 5 → x1 = m0 8 185 → m 1 2 = (zcl_c (mM 2) (mM 1 1) a9 (zWc m0)).2.1 ∧ m 8 185 = m0 8 185 → (∀ j : Nat, j < 7 → m 9 j = (zic (mM 2) (mM 1 1) a9).2.2 j) → ∀ i : Nat, m 8 i = if i % 10 = x1.toNat ∧ i < 10 * x2.toNat then (zic (mM 2) (mM 1 1) a9).2.2 (i / 10) else m0 8 i → zN m0 m → zD9 (fun p i => (p = 1 ∧ (i = 2 ∨ i = 3)) ∨ (8 ≤ p ∧ p ≤ 9)) m0 m → w = (7 - x2).toNat → zW zn (d + 5) 77 c (44, [(some (.ref 3)), (some (.int (Int32.ofInt x1))), (some (.int (Int32.ofInt x2)))], [], zk c m) Q := by
  intro w
  induction w using Nat.strongRecOn with | _ w ih => ?_
  intro x2 m hIm i1 i2 jx jb j9 j8 tN tD hw
  have f1 : (0 : Int) ≤ m 1 1 ∧ m 1 1 ≤ 240 := hIm.1 1 1
  have f2 : (0 : Int) ≤ m 1 2 ∧ m 1 2 ≤ 240 := hIm.1 1 2
  have f3 : (0 : Int) ≤ m 4 3 ∧ m 4 3 ≤ 5 := hIm.1 4 3
  have f4 : (0 : Int) ≤ m 4 4 ∧ m 4 4 ≤ 6 := hIm.1 4 4
  have f5 : (0 : Int) ≤ m 8 185 ∧ m 8 185 ≤ 10 := zr_c hIm zS_8
  have q6 := zn_c hIm
  by_cases b7 : 7 ≤ x2
  · refine zW.step (st1 := (76, [(some (.ref 3)), (some (.int (Int32.ofInt x1))), (some (.int (Int32.ofInt x2)))], [], zk c m)) (st2 := (76, [(some (.ref 3)), (some (.int (Int32.ofInt x1))), (some (.int (Int32.ofInt x2)))], [], zk c m)) ⟨[zo, zo, zo, zt], _, rfl, ⟨trivial, trivial, trivial, zbt ((zi_le (by decide : Int32.ofNat 7 = Int32.ofInt 7) rfl (⟨by decide, by decide⟩ : zR 7) (by unfold zR; omega)).mpr b7), trivial⟩⟩ rfl ?_
    exact K x2 m hIm (by omega) (by omega) (by omega) (by omega) (by exact j9) (by exact j8) tN tD (by omega)
  · refine zW.step (st1 := (52, [(some (.ref 3)), (some (.int (Int32.ofInt x1))), (some (.int (Int32.ofInt x2)))], [], zk c m)) (st2 := (52, [(some (.ref 3)), (some (.int (Int32.ofInt x1))), (some (.int (Int32.ofInt x2)))], [], zk c m)) ⟨[zo, zo, zo, zo], _, rfl, ⟨trivial, trivial, trivial, zbf (fun q => b7 ((zi_le (by decide : Int32.ofNat 7 = Int32.ofInt 7) rfl (⟨by decide, by decide⟩ : zR 7) (by unfold zR; omega)).mp q)), trivial⟩⟩ rfl ?_
    have f8 := zst9_b 5 x2.toNat (by decide) (by omega)
    have f9 : (-2147483648 : Int) ≤ m 9 x2.toNat ∧ m 9 x2.toNat ≤ 2147483647 := hIm.1 9 x2.toNat
    obtain ⟨m10, hm10⟩ : ∃ q, q = zm_up m 8 (((zst9 5 x2.toNat) + x1).toNat) (m 9 x2.toNat) := ⟨_, rfl⟩
    have hIm10 : zI c mM m10 := by rw [hm10]; exact zI_up hIm (zOk_p (by decide)) (zrw_i zS_8 (by omega) (show (-2147483648 : Int) ≤ (m 9 x2.toNat) ∧ (m 9 x2.toNat) ≤ 2147483647 by omega))
    have em10 : m10 8 (((zst9 5 x2.toNat) + x1).toNat) = (m 9 x2.toNat) := by rw [hm10]; exact zm_eq
    have f11 : m10 1 1 = m 1 1 := by rw [hm10]; exact zm_ne (by omega)
    have f12 : m10 1 2 = m 1 2 := by rw [hm10]; exact zm_ne (by omega)
    have f13 : m10 4 3 = m 4 3 := by rw [hm10]; exact zm_ne (by omega)
    have f14 : m10 4 4 = m 4 4 := by rw [hm10]; exact zm_ne (by omega)
    have tk15 : zN m0 m10 := by rw [hm10]; exact zN_up tN (by unfold zRow; omega)
    have tk16 : zD9 (fun p i => (p = 1 ∧ (i = 2 ∨ i = 3)) ∨ (8 ≤ p ∧ p ≤ 9)) m0 m10 := by rw [hm10]; exact zD9_up tD (by first | rfl | omega | (dsimp only; omega))
    refine zW.step (st1 := (70, [(some (.ref 3)), (some (.int (Int32.ofInt x1))), (some (.int (Int32.ofInt x2)))], [], z_hup (zk c m) 8 (.inl (0, 188, .inl (upd (fun j => Int32.ofInt (m 8 j)) (((z_sta.getD 5 []).getD (Int32.ofInt x2).toNatClampNeg 0) + (Int32.ofInt x1)).toNatClampNeg (Int32.ofInt (m 9 (Int32.ofInt x2).toNatClampNeg))))))) (st2 := (70, [(some (.ref 3)), (some (.int (Int32.ofInt x1))), (some (.int (Int32.ofInt x2)))], [], zk c m10)) ⟨[zo, zo, zo, zo, zo, zo, zo, zo, zo, zo, (false, 0, none, zh0, some (.inl (0, 7, .inl (fun j => Int32.ofInt (m 9 j))))), (false, 0, none, zh0, some (.inl (0, 188, .inl (fun j => Int32.ofInt (m 8 j)))))], _, rfl, ⟨trivial, (Nat.lt_of_lt_of_le (Nat.le_of_ble_eq_true rfl) hN), trivial, trivial, (zi_in rfl (by omega) (by omega) (by decide) : vp_in (Int32.ofInt x2) 7), trivial, trivial, trivial, (Nat.lt_of_lt_of_le (Nat.le_of_ble_eq_true rfl) hN), trivial, ⟨zk_ra c m zA_9 (Nat.lt_of_lt_of_le (Nat.le_of_ble_eq_true rfl) hN), zi_in rfl (by omega) (by omega) (by omega)⟩, ⟨zk_ra c m zA_8 (Nat.lt_of_lt_of_le (Nat.le_of_ble_eq_true rfl) hN), zi_in (zi_add (zst9_rd 5 rfl (by unfold zR; omega)) rfl) (by omega) (by omega) (by omega)⟩, trivial⟩⟩ (z_steq rfl rfl ((zk_ias c m zA_8 (zi_add (zst9_rd 5 rfl (by unfold zR; omega)) rfl) (by unfold zR; omega) ((zk_rd (f := m 9) rfl (by unfold zR; omega)).trans rfl : Int32.ofInt (m 9 (Int32.ofInt x2).toNatClampNeg) = Int32.ofInt (m 9 x2.toNat))).trans (by rw [hm10]))) ?_
    refine zW.step (st1 := (44, [(some (.ref 3)), (some (.int (Int32.ofInt x1))), (some (.int ((Int32.ofInt x2) + Int32.ofInt 1)))], [], zk c m10)) (st2 := (44, [(some (.ref 3)), (some (.int (Int32.ofInt x1))), (some (.int (Int32.ofInt (x2 + 1))))], [], zk c m10)) ⟨[zo, zo], _, rfl, ⟨trivial, trivial, trivial⟩⟩ (z_steq (z_c1 rfl (z_c1 rfl (z_c1 (z_si (zi_add rfl rfl)) rfl))) rfl rfl) ?_
    exact ih _ (by omega) (x2 + 1) m10 hIm10 (by omega) (by omega) (by omega) (by omega) (by intro j hj; rw [hm10, zm_ne (Or.inl (by decide))]; exact j9 j hj) (by have z5 := zst9_5 ⟨x2.toNat, by omega⟩; exact zck_s j8 hm10 (show _ = _ by have z6 : zst9 5 x2.toNat = 10 * ((x2.toNat : Nat) : Int) := z5; omega) (j9 x2.toNat (by omega)) (by omega) (by omega)) tk15 tk16 rfl

set_option maxRecDepth 100000 in
set_option maxHeartbeats 4000000 in
theorem S_X4_oneClock_F (zn : Bool) (d : Nat) {c : Nat × Nat} {mM : zM} (hN : 107 ≤ c.1) (hC : c.1 < z_RO) (a9 : Int) (m : zM) (hIm : zI c mM m) (ha9 : m 1 2 = a9) (hb9 : 0 ≤ a9 ∧ a9 ≤ mM 1 1) (hr : m 8 185 ≤ 5) : zCi zn (d + 6) 77 [.ref 3] c m (fun (r : Int) (m1 : zM) => zI c mM m1 ∧ (0 ≤ r ∧ r ≤ 1) ∧ (r = (zcl_c (mM 2) (mM 1 1) a9 (zWc m)).1 ∧ m1 1 2 = (zcl_c (mM 2) (mM 1 1) a9 (zWc m)).2.1) ∧ (r = 1 → zWc m1 = (zcl_c (mM 2) (mM 1 1) a9 (zWc m)).2.2) ∧ (a9 ≤ m1 1 2 ∧ m1 1 2 ≤ mM 1 1) ∧ (m1 8 185 ≤ m 8 185 + 1) ∧ zN m m1 ∧ zD9 (fun p i => (p = 1 ∧ (i = 2 ∨ i = 3)) ∨ (8 ≤ p ∧ p ≤ 9)) m m1) := by
  refine zCi.of zu_X4_oneClock hC (Nat.le_of_ble_eq_true rfl) ?_
  show zW zn (d + 5) 77 c (0, [(some (.ref 3)), none, none], [], zk c m) (fun v h1 => ∃ (r : Int) (m1 : zM), v = some (.int (Int32.ofInt r)) ∧ h1 = zk c m1 ∧ zI c mM m1 ∧ (0 ≤ r ∧ r ≤ 1) ∧ (r = (zcl_c (mM 2) (mM 1 1) a9 (zWc m)).1 ∧ m1 1 2 = (zcl_c (mM 2) (mM 1 1) a9 (zWc m)).2.1) ∧ (r = 1 → zWc m1 = (zcl_c (mM 2) (mM 1 1) a9 (zWc m)).2.2) ∧ (a9 ≤ m1 1 2 ∧ m1 1 2 ≤ mM 1 1) ∧ (m1 8 185 ≤ m 8 185 + 1) ∧ zN m m1 ∧ zD9 (fun p i => (p = 1 ∧ (i = 2 ∨ i = 3)) ∨ (8 ≤ p ∧ p ≤ 9)) m m1)
  have f17 : (0 : Int) ≤ m 1 1 ∧ m 1 1 ≤ 240 := hIm.1 1 1
  have f18 : (0 : Int) ≤ m 1 2 ∧ m 1 2 ≤ 240 := hIm.1 1 2
  have f19 : (0 : Int) ≤ m 4 3 ∧ m 4 3 ≤ 5 := hIm.1 4 3
  have f20 : (0 : Int) ≤ m 4 4 ∧ m 4 4 ≤ 6 := hIm.1 4 4
  have f21 : (0 : Int) ≤ m 8 185 ∧ m 8 185 ≤ 10 := zr_c hIm zS_8
  have q22 := zn_c hIm
  obtain ⟨m23, hm23⟩ : ∃ q, q = zm_cs m 9 2 7 := ⟨_, rfl⟩
  have hIm23 : zI c mM m23 := by rw [hm23]; exact zI_cs hIm (by omega) (fun i hi => by have q9 := zst9_b 2 i (by decide) (by omega); have e1 : zlo 9 i = -2147483648 := rfl; have e2 : zhi 9 i = 2147483647 := rfl; omega)
  have tk24 : zN m m23 := by rw [hm23]; exact zN_cs zN_rf (by unfold zRow; omega)
  have tk25 : zD9 (fun p i => (p = 1 ∧ (i = 2 ∨ i = 3)) ∨ (8 ≤ p ∧ p ≤ 9)) m m23 := by rw [hm23]; exact zD9_cs zD9_rf (fun i => by omega)
  have f26 : m23 1 1 = m 1 1 := by rw [hm23]; exact zm_cs_ne (by omega)
  have f27 : m23 1 2 = m 1 2 := by rw [hm23]; exact zm_cs_ne (by omega)
  have f28 : m23 4 3 = m 4 3 := by rw [hm23]; exact zm_cs_ne (by omega)
  have f29 : m23 4 4 = m 4 4 := by rw [hm23]; exact zm_cs_ne (by omega)
  have f30 : m23 8 185 = m 8 185 := by rw [hm23]; exact zm_cs_ne (by omega)
  refine zW.step (st1 := (16, [(some (.ref 3)), none, none], [], z_hup (zk c m) 9 (.inl (0, 7, .inl (va_cpy (fun j => (z_sta.getD 2 []).getD j 0) (fun j => Int32.ofInt (m 9 j)) (Int32.ofInt 0).toNatClampNeg (Int32.ofInt 0).toNatClampNeg (Int32.ofNat 7).toNatClampNeg))))) (st2 := (16, [(some (.ref 3)), none, none], [], zk c m23)) ⟨[zo, zo, zo, zo, zo, zo, zo, (true, 0, none, zh0, some (.inl (0, 7, .inl (fun j => Int32.ofInt (m 9 j)))))], _, rfl, ⟨trivial, trivial, trivial, (Nat.lt_of_lt_of_le (Nat.le_of_ble_eq_true rfl) hN), trivial, trivial, trivial, ⟨zk_ra c m zA_9 (Nat.lt_of_lt_of_le (Nat.le_of_ble_eq_true rfl) hN), ⟨(Nat.le_of_ble_eq_true rfl), (Nat.le_of_ble_eq_true rfl)⟩, (by decide), (by decide), (by decide), (by decide), (by decide), (Nat.le_of_ble_eq_true rfl)⟩, trivial⟩⟩ (z_steq rfl rfl ((zk_acs c m zA_9 rfl rfl (by decide : Int32.ofNat 7 = Int32.ofInt 7) (⟨by decide, by decide⟩ : zR 7)).trans (by rw [hm23]; rfl))) ?_
  refine zW.step (st1 := (25, [(some (.ref 3)), none, none], [.ref (z_RO + 204), .ref (z_RO + 203), .ref (z_RO + 1), .ref 3], zk c m23)) (st2 := (25, [(some (.ref 3)), none, none], [.ref (z_RO + 204), .ref (z_RO + 203), .ref (z_RO + 1), .ref 3], zk c m23)) ⟨[zo, zo, zo, zo], _, rfl, ⟨trivial, trivial, trivial, trivial, trivial⟩⟩ rfl ?_
  obtain ⟨r31, m31, hs31, hIm31, z_31, p_31, w_31, b_31, kN_31, kD_31⟩ := S_X4_takesItems_1F zn (d + 0) hN hC a9 m23 hIm23 (by omega) (by omega)
  refine zW.step (st1 := (28, [(some (.ref 3)), none, none], [.int (Int32.ofInt r31)], zk c m31)) ⟨[zc (some (.int (Int32.ofInt r31))) (zk c m31)], _, rfl, ⟨⟨⟨(Nat.lt_of_lt_of_le (Nat.le_of_ble_eq_true rfl) hN), (Nat.le_of_ble_eq_true rfl)⟩, hs31, (Nat.le_of_ble_eq_true rfl), Nat.le_refl _, Nat.le_refl _, Nat.le_refl _, Nat.le_refl _⟩, trivial⟩⟩ rfl ?_
  have f32 : (0 : Int) ≤ m31 1 1 ∧ m31 1 1 ≤ 240 := hIm31.1 1 1
  have f33 : m31 1 1 = m23 1 1 := kD_31 1 1 (by omega)
  have f34 : (0 : Int) ≤ m31 1 2 ∧ m31 1 2 ≤ 240 := hIm31.1 1 2
  have f35 : (0 : Int) ≤ m31 4 3 ∧ m31 4 3 ≤ 5 := hIm31.1 4 3
  have f36 : m31 4 3 = m23 4 3 := kD_31 4 3 (by omega)
  have f37 : (0 : Int) ≤ m31 4 4 ∧ m31 4 4 ≤ 6 := hIm31.1 4 4
  have f38 : m31 4 4 = m23 4 4 := kD_31 4 4 (by omega)
  have f39 : (0 : Int) ≤ m31 8 185 ∧ m31 8 185 ≤ 10 := zr_c hIm31 zS_8
  have f40 : m31 8 185 = m23 8 185 := kD_31 8 185 (by omega)
  have tk41 : zN m m31 := zN_tr tk24 kN_31
  have tk42 : zD9 (fun p i => (p = 1 ∧ (i = 2 ∨ i = 3)) ∨ (8 ≤ p ∧ p ≤ 9)) m m31 := zD9_tr tk25 (zD9_mo kD_31 (fun p i w => by have w2 : (p = 1 ∧ (i = 2 ∨ i = 3)) ∨ p = 9 := w; show (p = 1 ∧ (i = 2 ∨ i = 3)) ∨ (8 ≤ p ∧ p ≤ 9); omega))
  have q43 := zic_e (mM 2) (mM 1 1) a9 (v := m23 9) (fun j hj => by rw [hm23]; exact zcs_9 _ j hj)
  by_cases b44 : r31 = 0
  · refine zW.step (st1 := (31, [(some (.ref 3)), none, none], [], zk c m31)) (st2 := (31, [(some (.ref 3)), none, none], [], zk c m31)) ⟨[zo], _, rfl, ⟨zbf (fun q => q ((zi_eq rfl (rfl : (0 : Int32) = Int32.ofInt 0) (by unfold zR; omega) (⟨by decide, by decide⟩ : zR 0)).mpr b44)), trivial⟩⟩ rfl ?_
    have q45 := zcl_c_0 (mM 2) (mM 1 1) a9 (zWc m) (by omega)
    refine zW.step (st1 := (32, [(some (.ref 3)), none, none], [.int (Int32.ofInt 0)], zk c m31)) (st2 := (32, [(some (.ref 3)), none, none], [.int (Int32.ofInt 0)], zk c m31)) ⟨[zo], _, rfl, ⟨trivial, trivial⟩⟩ rfl ?_
    exact zW.fin (zfin_i rfl rfl rfl) ⟨0, m31, rfl, rfl, hIm31, (by omega), (by omega), (by intro h; exact absurd h (by decide)), (by omega), (by omega), tk41, tk42⟩
  · refine zW.step (st1 := (33, [(some (.ref 3)), none, none], [], zk c m31)) (st2 := (33, [(some (.ref 3)), none, none], [], zk c m31)) ⟨[zt], _, rfl, ⟨zbt (fun q => b44 ((zi_eq rfl (rfl : (0 : Int32) = Int32.ofInt 0) (by unfold zR; omega) (⟨by decide, by decide⟩ : zR 0)).mp q)), trivial⟩⟩ rfl ?_
    have q46 := zcl_c_1 (mM 2) (mM 1 1) a9 (zWc m) (m 8 185).toNat ((zWc_29 m).trans (by omega)) (by omega)
    refine zW.step (st1 := (44, [(some (.ref 3)), (some (.int (Int32.ofInt (m31 8 ((Int16.ofInt 185).toInt32).toNatClampNeg)))), (some (.int (Int32.ofInt 0)))], [], zk c m31)) (st2 := (44, [(some (.ref 3)), (some (.int (Int32.ofInt (m31 8 185)))), (some (.int (Int32.ofInt 0)))], [], zk c m31)) ⟨[zo, zo, zo, (false, 0, none, zh0, some (.inl (0, 188, .inl (fun j => Int32.ofInt (m31 8 j))))), zo, zo, zo], _, rfl, ⟨trivial, (Nat.lt_of_lt_of_le (Nat.le_of_ble_eq_true rfl) hN), trivial, ⟨zk_ra c m31 zA_8 (Nat.lt_of_lt_of_le (Nat.le_of_ble_eq_true rfl) hN), zi_in (by decide : (Int16.ofInt 185).toInt32 = Int32.ofInt 185) (by omega) (by omega) (by omega)⟩, trivial, trivial, trivial, trivial⟩⟩ (z_steq (z_c1 rfl (z_c1 (z_si ((zk_rd (f := m31 8) (by decide : (Int16.ofInt 185).toInt32 = Int32.ofInt 185) (⟨by decide, by decide⟩ : zR 185)).trans rfl : Int32.ofInt (m31 8 ((Int16.ofInt 185).toInt32).toNatClampNeg) = Int32.ofInt (m31 8 185))) rfl)) rfl rfl) ?_
    refine L_X4_oneClock_F_44 zn _ hN hC a9 hb9 (m31 8 185) m _ (fun x2_47 m_47 hIm_47 i1_47 i2_47 jx_47 jb_47 j9_47 j8_47 tN_47 tD_47 xx_47 => ?_) _ 0 m31 hIm31 (by omega) (by omega) (by omega) (by omega) (by intro j hj; exact (congrFun (w_31 (by omega)) j).trans (q43.2.2 j hj)) (by intro i; rw [if_neg (by omega)]; exact (kD_31 8 i (by omega)).trans (by rw [hm23]; exact zm_cs_ne (Or.inl (by decide)))) tk41 tk42 rfl
    have f48 : (0 : Int) ≤ m_47 1 1 ∧ m_47 1 1 ≤ 240 := hIm_47.1 1 1
    have f49 : (0 : Int) ≤ m_47 1 2 ∧ m_47 1 2 ≤ 240 := hIm_47.1 1 2
    have f50 : (0 : Int) ≤ m_47 4 3 ∧ m_47 4 3 ≤ 5 := hIm_47.1 4 3
    have f51 : (0 : Int) ≤ m_47 4 4 ∧ m_47 4 4 ≤ 6 := hIm_47.1 4 4
    have f52 : (0 : Int) ≤ m_47 8 185 ∧ m_47 8 185 ≤ 10 := zr_c hIm_47 zS_8
    have f53 : (-2147483648 : Int) ≤ m_47 8 ((60 + (m31 8 185)).toNat) ∧ m_47 8 ((60 + (m31 8 185)).toNat) ≤ 2147483647 := zr_i hIm_47 zS_8 ((60 + (m31 8 185)).toNat)
    have q54 := trivial
    by_cases b55 : (m_47 8 ((60 + (m31 8 185)).toNat)) = 6
    · refine zW.step (st1 := (90, [(some (.ref 3)), (some (.int (Int32.ofInt (m31 8 185)))), (some (.int (Int32.ofInt x2_47)))], [], zk c m_47)) (st2 := (90, [(some (.ref 3)), (some (.int (Int32.ofInt (m31 8 185)))), (some (.int (Int32.ofInt x2_47)))], [], zk c m_47)) ⟨[zo, zo, zo, zo, zo, (false, 0, none, zh0, some (.inl (0, 188, .inl (fun j => Int32.ofInt (m_47 8 j))))), zo, zo], _, rfl, ⟨trivial, (Nat.lt_of_lt_of_le (Nat.le_of_ble_eq_true rfl) hN), trivial, trivial, trivial, ⟨zk_ra c m_47 zA_8 (Nat.lt_of_lt_of_le (Nat.le_of_ble_eq_true rfl) hN), zi_in (zi_add (by decide : (Int8.ofInt 60).toInt32 = Int32.ofInt 60) rfl) (by omega) (by omega) (by omega)⟩, trivial, zbf (fun q => q ((zi_eq ((zk_rd (f := m_47 8) (zi_add (by decide : (Int8.ofInt 60).toInt32 = Int32.ofInt 60) rfl) (by unfold zR; omega)).trans rfl : Int32.ofInt (m_47 8 (((Int8.ofInt 60).toInt32) + (Int32.ofInt (m31 8 185))).toNatClampNeg) = Int32.ofInt (m_47 8 ((60 + (m31 8 185)).toNat))) (by decide : (Int8.ofInt 6).toInt32 = Int32.ofInt 6) (by unfold zR; omega) (⟨by decide, by decide⟩ : zR 6)).mpr b55)), trivial⟩⟩ rfl ?_
      obtain ⟨m56, hm56⟩ : ∃ q, q = zm_up m_47 8 ((60 + (m31 8 185)).toNat) (-1) := ⟨_, rfl⟩
      have hIm56 : zI c mM m56 := by rw [hm56]; exact zI_up hIm_47 (zOk_p (by decide)) (zrw_i zS_8 (by omega) (show (-2147483648 : Int) ≤ (-1) ∧ (-1) ≤ 2147483647 by omega))
      have em56 : m56 8 ((60 + (m31 8 185)).toNat) = (-1) := by rw [hm56]; exact zm_eq
      have f57 : m56 1 1 = m_47 1 1 := by rw [hm56]; exact zm_ne (by omega)
      have f58 : m56 1 2 = m_47 1 2 := by rw [hm56]; exact zm_ne (by omega)
      have f59 : m56 4 3 = m_47 4 3 := by rw [hm56]; exact zm_ne (by omega)
      have f60 : m56 4 4 = m_47 4 4 := by rw [hm56]; exact zm_ne (by omega)
      have f61 : m56 8 185 = m_47 8 185 := by rw [hm56]; exact zm_ne (by omega)
      have tk62 : zN m m56 := by rw [hm56]; exact zN_up tN_47 (by unfold zRow; omega)
      have tk63 : zD9 (fun p i => (p = 1 ∧ (i = 2 ∨ i = 3)) ∨ (8 ≤ p ∧ p ≤ 9)) m m56 := by rw [hm56]; exact zD9_up tD_47 (by first | rfl | omega | (dsimp only; omega))
      refine zW.step (st1 := (100, [(some (.ref 3)), (some (.int (Int32.ofInt (m31 8 185)))), (some (.int (Int32.ofInt x2_47)))], [], z_hup (zk c m_47) 8 (.inl (0, 188, .inl (upd (fun j => Int32.ofInt (m_47 8 j)) (((Int8.ofInt 60).toInt32) + (Int32.ofInt (m31 8 185))).toNatClampNeg (Int32.ofInt (-1))))))) (st2 := (100, [(some (.ref 3)), (some (.int (Int32.ofInt (m31 8 185)))), (some (.int (Int32.ofInt x2_47)))], [], zk c m56)) ⟨[zo, zo, zo, zo, zo, zo, (false, 0, none, zh0, some (.inl (0, 188, .inl (fun j => Int32.ofInt (m_47 8 j)))))], _, rfl, ⟨trivial, (Nat.lt_of_lt_of_le (Nat.le_of_ble_eq_true rfl) hN), trivial, trivial, trivial, trivial, ⟨zk_ra c m_47 zA_8 (Nat.lt_of_lt_of_le (Nat.le_of_ble_eq_true rfl) hN), zi_in (zi_add (by decide : (Int8.ofInt 60).toInt32 = Int32.ofInt 60) rfl) (by omega) (by omega) (by omega)⟩, trivial⟩⟩ (z_steq rfl rfl ((zk_ias c m_47 zA_8 (zi_add (by decide : (Int8.ofInt 60).toInt32 = Int32.ofInt 60) rfl) (by unfold zR; omega) rfl).trans (by rw [hm56]))) ?_
      obtain ⟨m64, hm64⟩ : ∃ q, q = zm_up m56 8 ((70 + (m31 8 185)).toNat) 1 := ⟨_, rfl⟩
      have hIm64 : zI c mM m64 := by rw [hm64]; exact zI_up hIm56 (zOk_p (by decide)) (zrw_l zS_8 (by omega) (show (0 : Int) ≤ 1 ∧ 1 ≤ 1 by omega))
      have em64 : m64 8 ((70 + (m31 8 185)).toNat) = 1 := by rw [hm64]; exact zm_eq
      have f65 : m64 1 1 = m56 1 1 := by rw [hm64]; exact zm_ne (by omega)
      have f66 : m64 1 2 = m56 1 2 := by rw [hm64]; exact zm_ne (by omega)
      have f67 : m64 4 3 = m56 4 3 := by rw [hm64]; exact zm_ne (by omega)
      have f68 : m64 4 4 = m56 4 4 := by rw [hm64]; exact zm_ne (by omega)
      have f69 : m64 8 185 = m56 8 185 := by rw [hm64]; exact zm_ne (by omega)
      have tk70 : zN m m64 := by rw [hm64]; exact zN_up tk62 (by unfold zRow; omega)
      have tk71 : zD9 (fun p i => (p = 1 ∧ (i = 2 ∨ i = 3)) ∨ (8 ≤ p ∧ p ≤ 9)) m m64 := by rw [hm64]; exact zD9_up tk63 (by first | rfl | omega | (dsimp only; omega))
      clear tk62 tk63
      refine zW.step (st1 := (110, [(some (.ref 3)), (some (.int (Int32.ofInt (m31 8 185)))), (some (.int (Int32.ofInt x2_47)))], [], z_hup (zk c m56) 8 (.inl (0, 188, .inl (upd (fun j => Int32.ofInt (m56 8 j)) (((Int8.ofInt 70).toInt32) + (Int32.ofInt (m31 8 185))).toNatClampNeg (Int32.ofInt 1)))))) (st2 := (110, [(some (.ref 3)), (some (.int (Int32.ofInt (m31 8 185)))), (some (.int (Int32.ofInt x2_47)))], [], zk c m64)) ⟨[zo, zo, zo, zo, zo, zo, (false, 0, none, zh0, some (.inl (0, 188, .inl (fun j => Int32.ofInt (m56 8 j)))))], _, rfl, ⟨trivial, (Nat.lt_of_lt_of_le (Nat.le_of_ble_eq_true rfl) hN), trivial, trivial, trivial, trivial, ⟨zk_ra c m56 zA_8 (Nat.lt_of_lt_of_le (Nat.le_of_ble_eq_true rfl) hN), zi_in (zi_add (by decide : (Int8.ofInt 70).toInt32 = Int32.ofInt 70) rfl) (by omega) (by omega) (by omega)⟩, trivial⟩⟩ (z_steq rfl rfl ((zk_ias c m56 zA_8 (zi_add (by decide : (Int8.ofInt 70).toInt32 = Int32.ofInt 70) rfl) (by unfold zR; omega) rfl).trans (by rw [hm64]))) ?_
      obtain ⟨m72, hm72⟩ : ∃ q, q = zm_up m64 8 ((140 + (m31 8 185)).toNat) (-1) := ⟨_, rfl⟩
      have hIm72 : zI c mM m72 := by rw [hm72]; exact zI_up hIm64 (zOk_p (by decide)) (zrw_i zS_8 (by omega) (show (-2147483648 : Int) ≤ (-1) ∧ (-1) ≤ 2147483647 by omega))
      have em72 : m72 8 ((140 + (m31 8 185)).toNat) = (-1) := by rw [hm72]; exact zm_eq
      have f73 : m72 1 1 = m64 1 1 := by rw [hm72]; exact zm_ne (by omega)
      have f74 : m72 1 2 = m64 1 2 := by rw [hm72]; exact zm_ne (by omega)
      have f75 : m72 4 3 = m64 4 3 := by rw [hm72]; exact zm_ne (by omega)
      have f76 : m72 4 4 = m64 4 4 := by rw [hm72]; exact zm_ne (by omega)
      have f77 : m72 8 185 = m64 8 185 := by rw [hm72]; exact zm_ne (by omega)
      have tk78 : zN m m72 := by rw [hm72]; exact zN_up tk70 (by unfold zRow; omega)
      have tk79 : zD9 (fun p i => (p = 1 ∧ (i = 2 ∨ i = 3)) ∨ (8 ≤ p ∧ p ≤ 9)) m m72 := by rw [hm72]; exact zD9_up tk71 (by first | rfl | omega | (dsimp only; omega))
      clear tk70 tk71
      refine zW.step (st1 := (121, [(some (.ref 3)), (some (.int (Int32.ofInt (m31 8 185)))), (some (.int (Int32.ofInt x2_47)))], [], z_hup (zk c m64) 8 (.inl (0, 188, .inl (upd (fun j => Int32.ofInt (m64 8 j)) (((Int16.ofInt 140).toInt32) + (Int32.ofInt (m31 8 185))).toNatClampNeg (Int32.ofInt (-1))))))) (st2 := (121, [(some (.ref 3)), (some (.int (Int32.ofInt (m31 8 185)))), (some (.int (Int32.ofInt x2_47)))], [], zk c m72)) ⟨[zo, zo, zo, zo, zo, zo, (false, 0, none, zh0, some (.inl (0, 188, .inl (fun j => Int32.ofInt (m64 8 j)))))], _, rfl, ⟨trivial, (Nat.lt_of_lt_of_le (Nat.le_of_ble_eq_true rfl) hN), trivial, trivial, trivial, trivial, ⟨zk_ra c m64 zA_8 (Nat.lt_of_lt_of_le (Nat.le_of_ble_eq_true rfl) hN), zi_in (zi_add (by decide : (Int16.ofInt 140).toInt32 = Int32.ofInt 140) rfl) (by omega) (by omega) (by omega)⟩, trivial⟩⟩ (z_steq rfl rfl ((zk_ias c m64 zA_8 (zi_add (by decide : (Int16.ofInt 140).toInt32 = Int32.ofInt 140) rfl) (by unfold zR; omega) rfl).trans (by rw [hm72]))) ?_
      have f80 : (0 : Int) ≤ m72 8 185 ∧ m72 8 185 ≤ 10 := zr_c hIm72 zS_8
      obtain ⟨m81, hm81⟩ : ∃ q, q = zm_up m72 8 185 ((m72 8 185) + 1) := ⟨_, rfl⟩
      have hIm81 : zI c mM m81 := by rw [hm81]; exact zI_up hIm72 (zOk_p (by decide)) (zrw_c zS_8 (show (0 : Int) ≤ ((m72 8 185) + 1) ∧ ((m72 8 185) + 1) ≤ 10 by omega))
      have em81 : m81 8 185 = ((m72 8 185) + 1) := by rw [hm81]; exact zm_eq
      have f82 : m81 1 1 = m72 1 1 := by rw [hm81]; exact zm_ne (by omega)
      have f83 : m81 1 2 = m72 1 2 := by rw [hm81]; exact zm_ne (by omega)
      have f84 : m81 4 3 = m72 4 3 := by rw [hm81]; exact zm_ne (by omega)
      have f85 : m81 4 4 = m72 4 4 := by rw [hm81]; exact zm_ne (by omega)
      have tk86 : zN m m81 := by rw [hm81]; exact zN_up tk78 (by unfold zRow; omega)
      have tk87 : zD9 (fun p i => (p = 1 ∧ (i = 2 ∨ i = 3)) ∨ (8 ≤ p ∧ p ≤ 9)) m m81 := by rw [hm81]; exact zD9_up tk79 (by first | rfl | omega | (dsimp only; omega))
      clear tk78 tk79
      refine zW.step (st1 := (133, [(some (.ref 3)), (some (.int (Int32.ofInt (m31 8 185)))), (some (.int (Int32.ofInt x2_47)))], [], z_hup (zk c m72) 8 (.inl (0, 188, .inl (upd (fun j => Int32.ofInt (m72 8 j)) ((Int16.ofInt 185).toInt32).toNatClampNeg ((Int32.ofInt (m72 8 ((Int16.ofInt 185).toInt32).toNatClampNeg)) + (Int32.ofInt 1))))))) (st2 := (133, [(some (.ref 3)), (some (.int (Int32.ofInt (m31 8 185)))), (some (.int (Int32.ofInt x2_47)))], [], zk c m81)) ⟨[zo, zo, zo, zo, (false, 0, none, zh0, some (.inl (0, 188, .inl (fun j => Int32.ofInt (m72 8 j))))), zo, zo, (false, 0, none, zh0, some (.inl (0, 188, .inl (fun j => Int32.ofInt (m72 8 j)))))], _, rfl, ⟨trivial, (Nat.lt_of_lt_of_le (Nat.le_of_ble_eq_true rfl) hN), trivial, trivial, ⟨zk_ra c m72 zA_8 (Nat.lt_of_lt_of_le (Nat.le_of_ble_eq_true rfl) hN), zi_in (by decide : (Int16.ofInt 185).toInt32 = Int32.ofInt 185) (by omega) (by omega) (by omega)⟩, trivial, trivial, ⟨zk_ra c m72 zA_8 (Nat.lt_of_lt_of_le (Nat.le_of_ble_eq_true rfl) hN), zi_in (by decide : (Int16.ofInt 185).toInt32 = Int32.ofInt 185) (by omega) (by omega) (by omega)⟩, trivial⟩⟩ (z_steq rfl rfl ((zk_ias c m72 zA_8 (by decide : (Int16.ofInt 185).toInt32 = Int32.ofInt 185) (⟨by decide, by decide⟩ : zR 185) (zi_add ((zk_rd (f := m72 8) (by decide : (Int16.ofInt 185).toInt32 = Int32.ofInt 185) (⟨by decide, by decide⟩ : zR 185)).trans rfl : Int32.ofInt (m72 8 ((Int16.ofInt 185).toInt32).toNatClampNeg) = Int32.ofInt (m72 8 185)) rfl)).trans (by rw [hm81]; rfl))) ?_
      refine zW.step (st1 := (134, [(some (.ref 3)), (some (.int (Int32.ofInt (m31 8 185)))), (some (.int (Int32.ofInt x2_47)))], [.int (Int32.ofInt 1)], zk c m81)) (st2 := (134, [(some (.ref 3)), (some (.int (Int32.ofInt (m31 8 185)))), (some (.int (Int32.ofInt x2_47)))], [.int (Int32.ofInt 1)], zk c m81)) ⟨[zo], _, rfl, ⟨trivial, trivial⟩⟩ rfl ?_
      exact zW.fin (zfin_i rfl rfl rfl) ⟨1, m81, rfl, rfl, hIm81, (by omega), (by omega), (by intro _; have a1 : m64 = zm_up m56 8 (70 + (m 8 185).toNat) 1 := (by rw [hm64]; exact zupc (by omega) (by omega)); have a2 : m72 = zm_up m64 8 (140 + (m 8 185).toNat) (-1) := (by rw [hm72]; exact zupc (by omega) (by omega)); have a3 : m81 = zm_up m72 8 185 ((((m 8 185).toNat : Nat) : Int) + 1) := (by rw [hm81]; exact zupc rfl (by omega)); have c6 : m_47 8 (60 + (m 8 185).toNat) = (zic (mM 2) (mM 1 1) a9).2.2 6 := (j8_47 (60 + (m 8 185).toNat)).trans ((if_pos (by omega)).trans (congrArg _ (by omega))); have c7 : m_47 8 ((60 + (m31 8 185)).toNat) = m_47 8 (60 + (m 8 185).toNat) := congrArg _ (by omega); have aF : ((zic (mM 2) (mM 1 1) a9).2.2 6 = 6 ∧ m56 = zm_up m_47 8 (60 + (m 8 185).toNat) (-1)) ∨ ((zic (mM 2) (mM 1 1) a9).2.2 6 ≠ 6 ∧ m56 = m_47) := Or.inl ⟨by omega, by rw [hm56]; exact zupc (by omega) (by omega)⟩; have cr : 0 ≤ (zic (mM 2) (mM 1 1) a9).2.2 6 := (zic_rg (mM 2) (mM 1 1) a9 6).1; rw [q46.2.2]; exact zWc_clock2 (by omega) (by omega) (by omega) tk87 (fun i => (j8_47 i).trans (if_congr (by omega) rfl rfl)) aF cr a1 a2 a3), (by omega), (by omega), tk86, tk87⟩
    · refine zW.step (st1 := (100, [(some (.ref 3)), (some (.int (Int32.ofInt (m31 8 185)))), (some (.int (Int32.ofInt x2_47)))], [], zk c m_47)) (st2 := (100, [(some (.ref 3)), (some (.int (Int32.ofInt (m31 8 185)))), (some (.int (Int32.ofInt x2_47)))], [], zk c m_47)) ⟨[zo, zo, zo, zo, zo, (false, 0, none, zh0, some (.inl (0, 188, .inl (fun j => Int32.ofInt (m_47 8 j))))), zo, zt], _, rfl, ⟨trivial, (Nat.lt_of_lt_of_le (Nat.le_of_ble_eq_true rfl) hN), trivial, trivial, trivial, ⟨zk_ra c m_47 zA_8 (Nat.lt_of_lt_of_le (Nat.le_of_ble_eq_true rfl) hN), zi_in (zi_add (by decide : (Int8.ofInt 60).toInt32 = Int32.ofInt 60) rfl) (by omega) (by omega) (by omega)⟩, trivial, zbt (fun q => b55 ((zi_eq ((zk_rd (f := m_47 8) (zi_add (by decide : (Int8.ofInt 60).toInt32 = Int32.ofInt 60) rfl) (by unfold zR; omega)).trans rfl : Int32.ofInt (m_47 8 (((Int8.ofInt 60).toInt32) + (Int32.ofInt (m31 8 185))).toNatClampNeg) = Int32.ofInt (m_47 8 ((60 + (m31 8 185)).toNat))) (by decide : (Int8.ofInt 6).toInt32 = Int32.ofInt 6) (by unfold zR; omega) (⟨by decide, by decide⟩ : zR 6)).mp q)), trivial⟩⟩ rfl ?_
      obtain ⟨m88, hm88⟩ : ∃ q, q = zm_up m_47 8 ((70 + (m31 8 185)).toNat) 1 := ⟨_, rfl⟩
      have hIm88 : zI c mM m88 := by rw [hm88]; exact zI_up hIm_47 (zOk_p (by decide)) (zrw_l zS_8 (by omega) (show (0 : Int) ≤ 1 ∧ 1 ≤ 1 by omega))
      have em88 : m88 8 ((70 + (m31 8 185)).toNat) = 1 := by rw [hm88]; exact zm_eq
      have f89 : m88 1 1 = m_47 1 1 := by rw [hm88]; exact zm_ne (by omega)
      have f90 : m88 1 2 = m_47 1 2 := by rw [hm88]; exact zm_ne (by omega)
      have f91 : m88 4 3 = m_47 4 3 := by rw [hm88]; exact zm_ne (by omega)
      have f92 : m88 4 4 = m_47 4 4 := by rw [hm88]; exact zm_ne (by omega)
      have f93 : m88 8 185 = m_47 8 185 := by rw [hm88]; exact zm_ne (by omega)
      have tk94 : zN m m88 := by rw [hm88]; exact zN_up tN_47 (by unfold zRow; omega)
      have tk95 : zD9 (fun p i => (p = 1 ∧ (i = 2 ∨ i = 3)) ∨ (8 ≤ p ∧ p ≤ 9)) m m88 := by rw [hm88]; exact zD9_up tD_47 (by first | rfl | omega | (dsimp only; omega))
      refine zW.step (st1 := (110, [(some (.ref 3)), (some (.int (Int32.ofInt (m31 8 185)))), (some (.int (Int32.ofInt x2_47)))], [], z_hup (zk c m_47) 8 (.inl (0, 188, .inl (upd (fun j => Int32.ofInt (m_47 8 j)) (((Int8.ofInt 70).toInt32) + (Int32.ofInt (m31 8 185))).toNatClampNeg (Int32.ofInt 1)))))) (st2 := (110, [(some (.ref 3)), (some (.int (Int32.ofInt (m31 8 185)))), (some (.int (Int32.ofInt x2_47)))], [], zk c m88)) ⟨[zo, zo, zo, zo, zo, zo, (false, 0, none, zh0, some (.inl (0, 188, .inl (fun j => Int32.ofInt (m_47 8 j)))))], _, rfl, ⟨trivial, (Nat.lt_of_lt_of_le (Nat.le_of_ble_eq_true rfl) hN), trivial, trivial, trivial, trivial, ⟨zk_ra c m_47 zA_8 (Nat.lt_of_lt_of_le (Nat.le_of_ble_eq_true rfl) hN), zi_in (zi_add (by decide : (Int8.ofInt 70).toInt32 = Int32.ofInt 70) rfl) (by omega) (by omega) (by omega)⟩, trivial⟩⟩ (z_steq rfl rfl ((zk_ias c m_47 zA_8 (zi_add (by decide : (Int8.ofInt 70).toInt32 = Int32.ofInt 70) rfl) (by unfold zR; omega) rfl).trans (by rw [hm88]))) ?_
      obtain ⟨m96, hm96⟩ : ∃ q, q = zm_up m88 8 ((140 + (m31 8 185)).toNat) (-1) := ⟨_, rfl⟩
      have hIm96 : zI c mM m96 := by rw [hm96]; exact zI_up hIm88 (zOk_p (by decide)) (zrw_i zS_8 (by omega) (show (-2147483648 : Int) ≤ (-1) ∧ (-1) ≤ 2147483647 by omega))
      have em96 : m96 8 ((140 + (m31 8 185)).toNat) = (-1) := by rw [hm96]; exact zm_eq
      have f97 : m96 1 1 = m88 1 1 := by rw [hm96]; exact zm_ne (by omega)
      have f98 : m96 1 2 = m88 1 2 := by rw [hm96]; exact zm_ne (by omega)
      have f99 : m96 4 3 = m88 4 3 := by rw [hm96]; exact zm_ne (by omega)
      have f100 : m96 4 4 = m88 4 4 := by rw [hm96]; exact zm_ne (by omega)
      have f101 : m96 8 185 = m88 8 185 := by rw [hm96]; exact zm_ne (by omega)
      have tk102 : zN m m96 := by rw [hm96]; exact zN_up tk94 (by unfold zRow; omega)
      have tk103 : zD9 (fun p i => (p = 1 ∧ (i = 2 ∨ i = 3)) ∨ (8 ≤ p ∧ p ≤ 9)) m m96 := by rw [hm96]; exact zD9_up tk95 (by first | rfl | omega | (dsimp only; omega))
      clear tk94 tk95
      refine zW.step (st1 := (121, [(some (.ref 3)), (some (.int (Int32.ofInt (m31 8 185)))), (some (.int (Int32.ofInt x2_47)))], [], z_hup (zk c m88) 8 (.inl (0, 188, .inl (upd (fun j => Int32.ofInt (m88 8 j)) (((Int16.ofInt 140).toInt32) + (Int32.ofInt (m31 8 185))).toNatClampNeg (Int32.ofInt (-1))))))) (st2 := (121, [(some (.ref 3)), (some (.int (Int32.ofInt (m31 8 185)))), (some (.int (Int32.ofInt x2_47)))], [], zk c m96)) ⟨[zo, zo, zo, zo, zo, zo, (false, 0, none, zh0, some (.inl (0, 188, .inl (fun j => Int32.ofInt (m88 8 j)))))], _, rfl, ⟨trivial, (Nat.lt_of_lt_of_le (Nat.le_of_ble_eq_true rfl) hN), trivial, trivial, trivial, trivial, ⟨zk_ra c m88 zA_8 (Nat.lt_of_lt_of_le (Nat.le_of_ble_eq_true rfl) hN), zi_in (zi_add (by decide : (Int16.ofInt 140).toInt32 = Int32.ofInt 140) rfl) (by omega) (by omega) (by omega)⟩, trivial⟩⟩ (z_steq rfl rfl ((zk_ias c m88 zA_8 (zi_add (by decide : (Int16.ofInt 140).toInt32 = Int32.ofInt 140) rfl) (by unfold zR; omega) rfl).trans (by rw [hm96]))) ?_
      have f104 : (0 : Int) ≤ m96 8 185 ∧ m96 8 185 ≤ 10 := zr_c hIm96 zS_8
      obtain ⟨m105, hm105⟩ : ∃ q, q = zm_up m96 8 185 ((m96 8 185) + 1) := ⟨_, rfl⟩
      have hIm105 : zI c mM m105 := by rw [hm105]; exact zI_up hIm96 (zOk_p (by decide)) (zrw_c zS_8 (show (0 : Int) ≤ ((m96 8 185) + 1) ∧ ((m96 8 185) + 1) ≤ 10 by omega))
      have em105 : m105 8 185 = ((m96 8 185) + 1) := by rw [hm105]; exact zm_eq
      have f106 : m105 1 1 = m96 1 1 := by rw [hm105]; exact zm_ne (by omega)
      have f107 : m105 1 2 = m96 1 2 := by rw [hm105]; exact zm_ne (by omega)
      have f108 : m105 4 3 = m96 4 3 := by rw [hm105]; exact zm_ne (by omega)
      have f109 : m105 4 4 = m96 4 4 := by rw [hm105]; exact zm_ne (by omega)
      have tk110 : zN m m105 := by rw [hm105]; exact zN_up tk102 (by unfold zRow; omega)
      have tk111 : zD9 (fun p i => (p = 1 ∧ (i = 2 ∨ i = 3)) ∨ (8 ≤ p ∧ p ≤ 9)) m m105 := by rw [hm105]; exact zD9_up tk103 (by first | rfl | omega | (dsimp only; omega))
      clear tk102 tk103
      refine zW.step (st1 := (133, [(some (.ref 3)), (some (.int (Int32.ofInt (m31 8 185)))), (some (.int (Int32.ofInt x2_47)))], [], z_hup (zk c m96) 8 (.inl (0, 188, .inl (upd (fun j => Int32.ofInt (m96 8 j)) ((Int16.ofInt 185).toInt32).toNatClampNeg ((Int32.ofInt (m96 8 ((Int16.ofInt 185).toInt32).toNatClampNeg)) + (Int32.ofInt 1))))))) (st2 := (133, [(some (.ref 3)), (some (.int (Int32.ofInt (m31 8 185)))), (some (.int (Int32.ofInt x2_47)))], [], zk c m105)) ⟨[zo, zo, zo, zo, (false, 0, none, zh0, some (.inl (0, 188, .inl (fun j => Int32.ofInt (m96 8 j))))), zo, zo, (false, 0, none, zh0, some (.inl (0, 188, .inl (fun j => Int32.ofInt (m96 8 j)))))], _, rfl, ⟨trivial, (Nat.lt_of_lt_of_le (Nat.le_of_ble_eq_true rfl) hN), trivial, trivial, ⟨zk_ra c m96 zA_8 (Nat.lt_of_lt_of_le (Nat.le_of_ble_eq_true rfl) hN), zi_in (by decide : (Int16.ofInt 185).toInt32 = Int32.ofInt 185) (by omega) (by omega) (by omega)⟩, trivial, trivial, ⟨zk_ra c m96 zA_8 (Nat.lt_of_lt_of_le (Nat.le_of_ble_eq_true rfl) hN), zi_in (by decide : (Int16.ofInt 185).toInt32 = Int32.ofInt 185) (by omega) (by omega) (by omega)⟩, trivial⟩⟩ (z_steq rfl rfl ((zk_ias c m96 zA_8 (by decide : (Int16.ofInt 185).toInt32 = Int32.ofInt 185) (⟨by decide, by decide⟩ : zR 185) (zi_add ((zk_rd (f := m96 8) (by decide : (Int16.ofInt 185).toInt32 = Int32.ofInt 185) (⟨by decide, by decide⟩ : zR 185)).trans rfl : Int32.ofInt (m96 8 ((Int16.ofInt 185).toInt32).toNatClampNeg) = Int32.ofInt (m96 8 185)) rfl)).trans (by rw [hm105]; rfl))) ?_
      refine zW.step (st1 := (134, [(some (.ref 3)), (some (.int (Int32.ofInt (m31 8 185)))), (some (.int (Int32.ofInt x2_47)))], [.int (Int32.ofInt 1)], zk c m105)) (st2 := (134, [(some (.ref 3)), (some (.int (Int32.ofInt (m31 8 185)))), (some (.int (Int32.ofInt x2_47)))], [.int (Int32.ofInt 1)], zk c m105)) ⟨[zo], _, rfl, ⟨trivial, trivial⟩⟩ rfl ?_
      exact zW.fin (zfin_i rfl rfl rfl) ⟨1, m105, rfl, rfl, hIm105, (by omega), (by omega), (by intro _; have a1 : m88 = zm_up m_47 8 (70 + (m 8 185).toNat) 1 := (by rw [hm88]; exact zupc (by omega) (by omega)); have a2 : m96 = zm_up m88 8 (140 + (m 8 185).toNat) (-1) := (by rw [hm96]; exact zupc (by omega) (by omega)); have a3 : m105 = zm_up m96 8 185 ((((m 8 185).toNat : Nat) : Int) + 1) := (by rw [hm105]; exact zupc rfl (by omega)); have c6 : m_47 8 (60 + (m 8 185).toNat) = (zic (mM 2) (mM 1 1) a9).2.2 6 := (j8_47 (60 + (m 8 185).toNat)).trans ((if_pos (by omega)).trans (congrArg _ (by omega))); have c7 : m_47 8 ((60 + (m31 8 185)).toNat) = m_47 8 (60 + (m 8 185).toNat) := congrArg _ (by omega); have aF : ((zic (mM 2) (mM 1 1) a9).2.2 6 = 6 ∧ m_47 = zm_up m_47 8 (60 + (m 8 185).toNat) (-1)) ∨ ((zic (mM 2) (mM 1 1) a9).2.2 6 ≠ 6 ∧ m_47 = m_47) := Or.inr ⟨by omega, rfl⟩; have cr : 0 ≤ (zic (mM 2) (mM 1 1) a9).2.2 6 := (zic_rg (mM 2) (mM 1 1) a9 6).1; rw [q46.2.2]; exact zWc_clock2 (by omega) (by omega) (by omega) tk111 (fun i => (j8_47 i).trans (if_congr (by omega) rfl rfl)) aF cr a1 a2 a3), (by omega), (by omega), tk110, tk111⟩

set_option maxRecDepth 100000 in
set_option maxHeartbeats 4000000 in
theorem L_X4_takesWay_F_2 (zn : Bool) (d : Nat) {c : Nat × Nat} {mM : zM} (hN : 107 ≤ c.1) (hC : c.1 < z_RO) (p : Int) (a9 : Int) (r_p : -2147483648 ≤ p ∧ p ≤ 2147483647) (hp : 0 ≤ p ∧ p ≤ 5) (hb9 : 0 ≤ a9 ∧ a9 ≤ mM 1 1) (m0 : zM) (Q : Option Value → z_H → Prop) (KR : ∀ v h1, (fun v h1 => ∃ (r : Int) (m1 : zM), v = some (.int (Int32.ofInt r)) ∧ h1 = zk c m1 ∧ zI c mM m1 ∧ (0 ≤ r ∧ r ≤ 1) ∧ (r = (zwz (mM 2) (mM 1 1) a9).1 ∧ m1 1 2 = (zwz (mM 2) (mM 1 1) a9).2.1) ∧ (r = 1 → m1 7 = zvu (m0 7) (p).toNat ((zwz (mM 2) (mM 1 1) a9).2.2.1 : Int) ∧ (zwz (mM 2) (mM 1 1) a9).2.2.1 ≤ 8 ∧ ∀ j : Nat, j < (zwz (mM 2) (mM 1 1) a9).2.2.1 → m1 6 (8 * (p).toNat + j) = (zwz (mM 2) (mM 1 1) a9).2.2.2 j) ∧ (∀ i : Nat, i < 8 * (p).toNat ∨ 8 * (p).toNat + 8 ≤ i → m1 6 i = m0 6 i) ∧ (a9 ≤ m1 1 2 ∧ m1 1 2 ≤ mM 1 1) ∧ zN m0 m1 ∧ zD9 (fun p i => (p = 1 ∧ (i = 2 ∨ i = 3)) ∨ (6 ≤ p ∧ p ≤ 7)) m0 m1) v h1 → Q v h1) :
    ∀ (w : Nat) (x2 : Int) (o3 : Option Value) (m : zM), zI c mM m → 0 ≤ x2 ∧ x2 ≤ 8 → a9 ≤ m 1 2 ∧ m 1 2 ≤ mM 1 1 → zwz (mM 2) (mM 1 1) a9 = zwy (mM 2) (mM 1 1) (9 - x2).toNat x2.toNat (m 1 2) (zwv m p x2) → (x2 = 0 ∧ m 7 = m0 7) ∨ (0 < x2 ∧ m 7 = zvu (m0 7) p.toNat x2) → (∀ i : Nat, i < 8 * p.toNat ∨ 8 * p.toNat + 8 ≤ i → m 6 i = m0 6 i) → zN m0 m → zD9 (fun p i => (p = 1 ∧ (i = 2 ∨ i = 3)) ∨ (6 ≤ p ∧ p ≤ 7)) m0 m → w = (9 - x2).toNat → zW zn (d + 2) 82 c (2, [(some (.ref 3)), (some (.int (Int32.ofInt p))), (some (.int (Int32.ofInt x2))), o3], [], zk c m) Q := by
  intro w
  induction w using Nat.strongRecOn with | _ w ih => ?_
  intro x2 o3 m hIm i1 jb J J7 J6 tN tD hw
  have f1 : (0 : Int) ≤ m 1 1 ∧ m 1 1 ≤ 240 := hIm.1 1 1
  have f2 : (0 : Int) ≤ m 1 2 ∧ m 1 2 ≤ 240 := hIm.1 1 2
  have f3 : (0 : Int) ≤ m 4 3 ∧ m 4 3 ≤ 5 := hIm.1 4 3
  have f4 : (0 : Int) ≤ m 4 4 ∧ m 4 4 ≤ 6 := hIm.1 4 4
  have f5 : (0 : Int) ≤ m 8 185 ∧ m 8 185 ≤ 10 := zr_c hIm zS_8
  have q6 := zn_c hIm
  have q7 := znx_le (b := mM 2) (n := mM 1 1) jb.2
  have b8 : ¬ (8 < x2) := by omega
  refine zW.step (st1 := (8, [(some (.ref 3)), (some (.int (Int32.ofInt p))), (some (.int (Int32.ofInt x2))), o3], [], zk c m)) (st2 := (8, [(some (.ref 3)), (some (.int (Int32.ofInt p))), (some (.int (Int32.ofInt x2))), o3], [], zk c m)) ⟨[zo, zo, zo], _, rfl, ⟨trivial, trivial, zbf (fun q => b8 ((zi_lt (by decide : (Int8.ofInt 8).toInt32 = Int32.ofInt 8) rfl (⟨by decide, by decide⟩ : zR 8) (by unfold zR; omega)).mp q)), trivial⟩⟩ rfl ?_
  refine zW.step (st1 := (12, [(some (.ref 3)), (some (.int (Int32.ofInt p))), (some (.int (Int32.ofInt x2))), o3], [.ref 1], zk c m)) (st2 := (12, [(some (.ref 3)), (some (.int (Int32.ofInt p))), (some (.int (Int32.ofInt x2))), o3], [.ref 1], zk c m)) ⟨[zo, zo], _, rfl, ⟨trivial, (Nat.lt_of_lt_of_le (Nat.le_of_ble_eq_true rfl) hN), trivial⟩⟩ rfl ?_
  obtain ⟨r9, m9, hs9, hIm9, z_9, f_9, p_9, b_9, l_9, c3_9, kN_9, kD_9⟩ := S_X8_next_F zn (d + 0) hN hC (m 1 2) m hIm (by omega) (by omega)
  refine zW.step (st1 := (15, [(some (.ref 3)), (some (.int (Int32.ofInt p))), (some (.int (Int32.ofInt x2))), o3], [.int (Int32.ofInt r9)], zk c m9)) ⟨[zc (some (.int (Int32.ofInt r9))) (zk c m9)], _, rfl, ⟨⟨⟨(Nat.lt_of_lt_of_le (Nat.le_of_ble_eq_true rfl) hN), (Nat.le_of_ble_eq_true rfl)⟩, hs9, (Nat.le_of_ble_eq_true rfl), Nat.le_refl _, Nat.le_refl _, Nat.le_refl _, Nat.le_refl _⟩, trivial⟩⟩ rfl ?_
  have f10 : (0 : Int) ≤ m9 1 1 ∧ m9 1 1 ≤ 240 := hIm9.1 1 1
  have f11 : m9 1 1 = m 1 1 := kD_9 1 1 (by omega)
  have f12 : (0 : Int) ≤ m9 1 2 ∧ m9 1 2 ≤ 240 := hIm9.1 1 2
  have f13 : (0 : Int) ≤ m9 4 3 ∧ m9 4 3 ≤ 5 := hIm9.1 4 3
  have f14 : m9 4 3 = m 4 3 := kD_9 4 3 (by omega)
  have f15 : (0 : Int) ≤ m9 4 4 ∧ m9 4 4 ≤ 6 := hIm9.1 4 4
  have f16 : m9 4 4 = m 4 4 := kD_9 4 4 (by omega)
  have f17 : (0 : Int) ≤ m9 8 185 ∧ m9 8 185 ≤ 10 := zr_c hIm9 zS_8
  have f18 : m9 8 185 = m 8 185 := kD_9 8 185 (by omega)
  have tk19 : zN m0 m9 := zN_tr tN kN_9
  have tk20 : zD9 (fun p i => (p = 1 ∧ (i = 2 ∨ i = 3)) ∨ (6 ≤ p ∧ p ≤ 7)) m0 m9 := zD9_tr tD (zD9_mo kD_9 (fun p i w => by have w2 : p = 1 ∧ (i = 2 ∨ i = 3) := w; show (p = 1 ∧ (i = 2 ∨ i = 3)) ∨ (6 ≤ p ∧ p ≤ 7); omega))
  refine zW.step (st1 := (17, [(some (.ref 3)), (some (.int (Int32.ofInt p))), (some (.int (Int32.ofInt x2))), (some (.int (Int32.ofInt r9)))], [.int (Int32.ofInt r9)], zk c m9)) (st2 := (17, [(some (.ref 3)), (some (.int (Int32.ofInt p))), (some (.int (Int32.ofInt x2))), (some (.int (Int32.ofInt r9)))], [.int (Int32.ofInt r9)], zk c m9)) ⟨[zo, zo], _, rfl, ⟨trivial, trivial, trivial⟩⟩ rfl ?_
  obtain ⟨r21, hs21, z_21, q_21⟩ := S_X8_isDigit zn (d + 1) hN hC r9 m9 hIm9 (by omega)
  refine zW.step (st1 := (20, [(some (.ref 3)), (some (.int (Int32.ofInt p))), (some (.int (Int32.ofInt x2))), (some (.int (Int32.ofInt r9)))], [.int (Int32.ofInt r21)], zk c m9)) ⟨[zc (some (.int (Int32.ofInt r21))) (zk c m9)], _, rfl, ⟨⟨(Nat.le_of_ble_eq_true rfl), hs21, (Nat.le_of_ble_eq_true rfl), Nat.le_refl _, Nat.le_refl _, Nat.le_refl _, Nat.le_refl _⟩, trivial⟩⟩ rfl ?_
  by_cases b22 : r21 = 0
  · refine zW.step (st1 := (23, [(some (.ref 3)), (some (.int (Int32.ofInt p))), (some (.int (Int32.ofInt x2))), (some (.int (Int32.ofInt r9)))], [], zk c m9)) (st2 := (23, [(some (.ref 3)), (some (.int (Int32.ofInt p))), (some (.int (Int32.ofInt x2))), (some (.int (Int32.ofInt r9)))], [], zk c m9)) ⟨[zo], _, rfl, ⟨zbf (fun q => q ((zi_eq rfl (rfl : (0 : Int32) = Int32.ofInt 0) (by unfold zR; omega) (⟨by decide, by decide⟩ : zR 0)).mpr b22)), trivial⟩⟩ rfl ?_
    have qE := zwy_l1 J (by omega) (by omega)
    by_cases b24 : x2 ≤ 0
    · refine zW.step (st1 := (31, [(some (.ref 3)), (some (.int (Int32.ofInt p))), (some (.int (Int32.ofInt x2))), (some (.int (Int32.ofInt r9)))], [], zk c m9)) (st2 := (31, [(some (.ref 3)), (some (.int (Int32.ofInt p))), (some (.int (Int32.ofInt x2))), (some (.int (Int32.ofInt r9)))], [], zk c m9)) ⟨[zo, zt], _, rfl, ⟨trivial, zbt ((zi_le rfl (rfl : (0 : Int32) = Int32.ofInt 0) (by unfold zR; omega) (⟨by decide, by decide⟩ : zR 0)).mpr b24), trivial⟩⟩ rfl ?_
      refine zW.step (st1 := (32, [(some (.ref 3)), (some (.int (Int32.ofInt p))), (some (.int (Int32.ofInt x2))), (some (.int (Int32.ofInt r9)))], [.int (Int32.ofInt 0)], zk c m9)) (st2 := (32, [(some (.ref 3)), (some (.int (Int32.ofInt p))), (some (.int (Int32.ofInt x2))), (some (.int (Int32.ofInt r9)))], [.int (Int32.ofInt 0)], zk c m9)) ⟨[zo], _, rfl, ⟨trivial, trivial⟩⟩ rfl ?_
      exact zW.fin (zfin_i rfl rfl rfl) (KR _ _ ⟨0, m9, rfl, rfl, hIm9, (by omega), (by omega), (by first | (intro h; exact absurd h (by decide)) | (intro _; exact zwl_e J7 kD_9 qE.2.2.2.1 qE.2.2.2.2 (by omega) (by omega))), (by intro i hi; exact (kD_9 6 i (by omega)).trans (J6 i hi)), (by omega), tk19, tk20⟩)
    · refine zW.step (st1 := (27, [(some (.ref 3)), (some (.int (Int32.ofInt p))), (some (.int (Int32.ofInt x2))), (some (.int (Int32.ofInt r9)))], [], zk c m9)) (st2 := (27, [(some (.ref 3)), (some (.int (Int32.ofInt p))), (some (.int (Int32.ofInt x2))), (some (.int (Int32.ofInt r9)))], [], zk c m9)) ⟨[zo, zo], _, rfl, ⟨trivial, zbf (fun q => b24 ((zi_le rfl (rfl : (0 : Int32) = Int32.ofInt 0) (by unfold zR; omega) (⟨by decide, by decide⟩ : zR 0)).mp q)), trivial⟩⟩ rfl ?_
      refine zW.step (st1 := (32, [(some (.ref 3)), (some (.int (Int32.ofInt p))), (some (.int (Int32.ofInt x2))), (some (.int (Int32.ofInt r9)))], [.int (Int32.ofInt 1)], zk c m9)) (st2 := (32, [(some (.ref 3)), (some (.int (Int32.ofInt p))), (some (.int (Int32.ofInt x2))), (some (.int (Int32.ofInt r9)))], [.int (Int32.ofInt 1)], zk c m9)) ⟨[zo, zo], _, rfl, ⟨trivial, trivial, trivial⟩⟩ rfl ?_
      exact zW.fin (zfin_i rfl rfl rfl) (KR _ _ ⟨1, m9, rfl, rfl, hIm9, (by omega), (by omega), (by first | (intro h; exact absurd h (by decide)) | (intro _; exact zwl_e J7 kD_9 qE.2.2.2.1 qE.2.2.2.2 (by omega) (by omega))), (by intro i hi; exact (kD_9 6 i (by omega)).trans (J6 i hi)), (by omega), tk19, tk20⟩)
  · refine zW.step (st1 := (33, [(some (.ref 3)), (some (.int (Int32.ofInt p))), (some (.int (Int32.ofInt x2))), (some (.int (Int32.ofInt r9)))], [], zk c m9)) (st2 := (33, [(some (.ref 3)), (some (.int (Int32.ofInt p))), (some (.int (Int32.ofInt x2))), (some (.int (Int32.ofInt r9)))], [], zk c m9)) ⟨[zt], _, rfl, ⟨zbt (fun q => b22 ((zi_eq rfl (rfl : (0 : Int32) = Int32.ofInt 0) (by unfold zR; omega) (⟨by decide, by decide⟩ : zR 0)).mp q)), trivial⟩⟩ rfl ?_
    by_cases b25 : x2 = 8
    · refine zW.step (st1 := (45, [(some (.ref 3)), (some (.int (Int32.ofInt p))), (some (.int (Int32.ofInt x2))), (some (.int (Int32.ofInt r9)))], [], zk c m9)) (st2 := (45, [(some (.ref 3)), (some (.int (Int32.ofInt p))), (some (.int (Int32.ofInt x2))), (some (.int (Int32.ofInt r9)))], [], zk c m9)) ⟨[zo, zo, zt], _, rfl, ⟨trivial, trivial, zbt ((zi_eq rfl (by decide : (Int8.ofInt 8).toInt32 = Int32.ofInt 8) (by unfold zR; omega) (⟨by decide, by decide⟩ : zR 8)).mpr b25), trivial⟩⟩ rfl ?_
      have q26 := zwy_l2 J (by omega) (by omega) (by omega)
      refine zW.step (st1 := (46, [(some (.ref 3)), (some (.int (Int32.ofInt p))), (some (.int (Int32.ofInt x2))), (some (.int (Int32.ofInt r9)))], [.int (Int32.ofInt 0)], zk c m9)) (st2 := (46, [(some (.ref 3)), (some (.int (Int32.ofInt p))), (some (.int (Int32.ofInt x2))), (some (.int (Int32.ofInt r9)))], [.int (Int32.ofInt 0)], zk c m9)) ⟨[zo], _, rfl, ⟨trivial, trivial⟩⟩ rfl ?_
      exact zW.fin (zfin_i rfl rfl rfl) (KR _ _ ⟨0, m9, rfl, rfl, hIm9, (by omega), (by omega), (by first | (intro h; exact absurd h (by decide)) | (intro _; exact zwl_e J7 kD_9 qE.2.2.2.1 qE.2.2.2.2 (by omega) (by omega))), (by intro i hi; exact (kD_9 6 i (by omega)).trans (J6 i hi)), (by omega), tk19, tk20⟩)
    · refine zW.step (st1 := (39, [(some (.ref 3)), (some (.int (Int32.ofInt p))), (some (.int (Int32.ofInt x2))), (some (.int (Int32.ofInt r9)))], [], zk c m9)) (st2 := (39, [(some (.ref 3)), (some (.int (Int32.ofInt p))), (some (.int (Int32.ofInt x2))), (some (.int (Int32.ofInt r9)))], [], zk c m9)) ⟨[zo, zo, zo], _, rfl, ⟨trivial, trivial, zbf (fun q => b25 ((zi_eq rfl (by decide : (Int8.ofInt 8).toInt32 = Int32.ofInt 8) (by unfold zR; omega) (⟨by decide, by decide⟩ : zR 8)).mp q)), trivial⟩⟩ rfl ?_
      by_cases b27 : r9 ≤ 52
      · refine zW.step (st1 := (47, [(some (.ref 3)), (some (.int (Int32.ofInt p))), (some (.int (Int32.ofInt x2))), (some (.int (Int32.ofInt r9)))], [], zk c m9)) (st2 := (47, [(some (.ref 3)), (some (.int (Int32.ofInt p))), (some (.int (Int32.ofInt x2))), (some (.int (Int32.ofInt r9)))], [], zk c m9)) ⟨[zo, zo, zt], _, rfl, ⟨trivial, trivial, zbt ((zi_le rfl (by decide : (Int8.ofInt 52).toInt32 = Int32.ofInt 52) (by unfold zR; omega) (⟨by decide, by decide⟩ : zR 52)).mpr b27), trivial⟩⟩ rfl ?_
        have f28 := zwR (r9 - 48)
        have f29 := zwI (r9 - 48)
        obtain ⟨m30, hm30⟩ : ∃ q, q = zm_up m9 6 (((p * 8) + x2).toNat) (zw (r9 - 48)) := ⟨_, rfl⟩
        have hIm30 : zI c mM m30 := by rw [hm30]; exact zI_up hIm9 (zOk_p (by decide)) (show (-2147483648 : Int) ≤ (zw (r9 - 48)) ∧ (zw (r9 - 48)) ≤ 2147483647 by omega)
        have em30 : m30 6 (((p * 8) + x2).toNat) = (zw (r9 - 48)) := by rw [hm30]; exact zm_eq
        have f31 : m30 1 1 = m9 1 1 := by rw [hm30]; exact zm_ne (by omega)
        have f32 : m30 1 2 = m9 1 2 := by rw [hm30]; exact zm_ne (by omega)
        have f33 : m30 4 3 = m9 4 3 := by rw [hm30]; exact zm_ne (by omega)
        have f34 : m30 4 4 = m9 4 4 := by rw [hm30]; exact zm_ne (by omega)
        have f35 : m30 8 185 = m9 8 185 := by rw [hm30]; exact zm_ne (by omega)
        have tk36 : zN m0 m30 := by rw [hm30]; exact zN_up tk19 (by unfold zRow; omega)
        have tk37 : zD9 (fun p i => (p = 1 ∧ (i = 2 ∨ i = 3)) ∨ (6 ≤ p ∧ p ≤ 7)) m0 m30 := by rw [hm30]; exact zD9_up tk20 (by first | rfl | omega | (dsimp only; omega))
        clear tk19 tk20
        refine zW.step (st1 := (65, [(some (.ref 3)), (some (.int (Int32.ofInt p))), (some (.int (Int32.ofInt x2))), (some (.int (Int32.ofInt r9)))], [], z_hup (zk c m9) 6 (.inl (0, 48, .inl (upd (fun j => Int32.ofInt (m9 6 j)) (((Int32.ofInt p) * ((Int8.ofInt 8).toInt32)) + (Int32.ofInt x2)).toNatClampNeg ((Int32.ofInt r9) - ((Int8.ofInt 48).toInt32))))))) (st2 := (65, [(some (.ref 3)), (some (.int (Int32.ofInt p))), (some (.int (Int32.ofInt x2))), (some (.int (Int32.ofInt r9)))], [], zk c m30)) ⟨[zo, zo, zo, zo, zo, zo, zo, zo, zo, zo, zo, (false, 0, none, zh0, some (.inl (0, 48, .inl (fun j => Int32.ofInt (m9 6 j)))))], _, rfl, ⟨trivial, (Nat.lt_of_lt_of_le (Nat.le_of_ble_eq_true rfl) hN), (Nat.lt_of_lt_of_le (Nat.le_of_ble_eq_true rfl) hN), trivial, trivial, trivial, trivial, trivial, trivial, trivial, trivial, ⟨zk_ra c m9 zA_6 (Nat.lt_of_lt_of_le (Nat.le_of_ble_eq_true rfl) hN), zi_in (zi_add (zi_mul rfl (by decide : (Int8.ofInt 8).toInt32 = Int32.ofInt 8)) rfl) (by omega) (by omega) (by omega)⟩, trivial⟩⟩ (z_steq rfl rfl ((zk_ias c m9 zA_6 (zi_add (zi_mul rfl (by decide : (Int8.ofInt 8).toInt32 = Int32.ofInt 8)) rfl) (by unfold zR; omega) (Eq.trans (zi_sub rfl (by decide : (Int8.ofInt 48).toInt32 = Int32.ofInt 48)) (zw_eq _))).trans (by rw [hm30]))) ?_
        obtain ⟨m38, hm38⟩ : ∃ q, q = zm_up m30 7 p.toNat (x2 + 1) := ⟨_, rfl⟩
        have hIm38 : zI c mM m38 := by rw [hm38]; exact zI_up hIm30 (zOk_p (by decide)) (show (0 : Int) ≤ (x2 + 1) ∧ (x2 + 1) ≤ 8 by omega)
        have em38 : m38 7 p.toNat = (x2 + 1) := by rw [hm38]; exact zm_eq
        have f39 : m38 1 1 = m30 1 1 := by rw [hm38]; exact zm_ne (by omega)
        have f40 : m38 1 2 = m30 1 2 := by rw [hm38]; exact zm_ne (by omega)
        have f41 : m38 4 3 = m30 4 3 := by rw [hm38]; exact zm_ne (by omega)
        have f42 : m38 4 4 = m30 4 4 := by rw [hm38]; exact zm_ne (by omega)
        have f43 : m38 8 185 = m30 8 185 := by rw [hm38]; exact zm_ne (by omega)
        have tk44 : zN m0 m38 := by rw [hm38]; exact zN_up tk36 (by unfold zRow; omega)
        have tk45 : zD9 (fun p i => (p = 1 ∧ (i = 2 ∨ i = 3)) ∨ (6 ≤ p ∧ p ≤ 7)) m0 m38 := by rw [hm38]; exact zD9_up tk37 (by first | rfl | omega | (dsimp only; omega))
        clear tk36 tk37
        refine zW.step (st1 := (77, [(some (.ref 3)), (some (.int (Int32.ofInt p))), (some (.int (Int32.ofInt x2))), (some (.int (Int32.ofInt r9)))], [], z_hup (zk c m30) 7 (.inl (0, 6, .inl (upd (fun j => Int32.ofInt (m30 7 j)) (Int32.ofInt p).toNatClampNeg ((Int32.ofInt x2) + (Int32.ofInt 1))))))) (st2 := (77, [(some (.ref 3)), (some (.int (Int32.ofInt p))), (some (.int (Int32.ofInt x2))), (some (.int (Int32.ofInt r9)))], [], zk c m38)) ⟨[zo, zo, zo, zo, zo, zo, zo, (false, 0, none, zh0, some (.inl (0, 6, .inl (fun j => Int32.ofInt (m30 7 j)))))], _, rfl, ⟨trivial, (Nat.lt_of_lt_of_le (Nat.le_of_ble_eq_true rfl) hN), (Nat.lt_of_lt_of_le (Nat.le_of_ble_eq_true rfl) hN), trivial, trivial, trivial, trivial, ⟨zk_ra c m30 zA_7 (Nat.lt_of_lt_of_le (Nat.le_of_ble_eq_true rfl) hN), zi_in rfl (by omega) (by omega) (by omega)⟩, trivial⟩⟩ (z_steq rfl rfl ((zk_ias c m30 zA_7 rfl (by unfold zR; omega) (zi_add rfl rfl)).trans (by rw [hm38]))) ?_
        have f46 : (0 : Int) ≤ m38 1 2 ∧ m38 1 2 ≤ 240 := hIm38.1 1 2
        obtain ⟨m47, hm47⟩ : ∃ q, q = zm_up m38 1 2 ((m38 1 2) + 1) := ⟨_, rfl⟩
        have hIm47 : zI c mM m47 := by rw [hm47]; exact zI_up hIm38 (by unfold zOk; decide) (show (0 : Int) ≤ ((m38 1 2) + 1) ∧ ((m38 1 2) + 1) ≤ 240 by omega)
        have em47 : m47 1 2 = ((m38 1 2) + 1) := by rw [hm47]; exact zm_eq
        have f48 : m47 1 1 = m38 1 1 := by rw [hm47]; exact zm_ne (by omega)
        have f49 : m47 4 3 = m38 4 3 := by rw [hm47]; exact zm_ne (by omega)
        have f50 : m47 4 4 = m38 4 4 := by rw [hm47]; exact zm_ne (by omega)
        have f51 : m47 8 185 = m38 8 185 := by rw [hm47]; exact zm_ne (by omega)
        have tk52 : zN m0 m47 := by rw [hm47]; exact zN_up tk44 (by unfold zRow; omega)
        have tk53 : zD9 (fun p i => (p = 1 ∧ (i = 2 ∨ i = 3)) ∨ (6 ≤ p ∧ p ≤ 7)) m0 m47 := by rw [hm47]; exact zD9_up tk45 (by first | rfl | omega | (dsimp only; omega))
        clear tk44 tk45
        refine zW.step (st1 := (90, [(some (.ref 3)), (some (.int (Int32.ofInt p))), (some (.int (Int32.ofInt x2))), (some (.int (Int32.ofInt r9)))], [], z_hup (zk c m38) 1 (.inr (8, [.ref 2, .int (Int32.ofInt (m38 1 1)), .int ((Int32.ofInt (m38 1 2)) + (Int32.ofInt 1)), .int (Int32.ofInt (m38 1 3))])))) (st2 := (90, [(some (.ref 3)), (some (.int (Int32.ofInt p))), (some (.int (Int32.ofInt x2))), (some (.int (Int32.ofInt r9)))], [], zk c m47)) ⟨[zo, zo, zo, zo, zo, zo, zo], _, rfl, ⟨trivial, (Nat.lt_of_lt_of_le (Nat.le_of_ble_eq_true rfl) hN), trivial, (Nat.lt_of_lt_of_le (Nat.le_of_ble_eq_true rfl) hN), trivial, trivial, ⟨(Nat.lt_of_lt_of_le (Nat.le_of_ble_eq_true rfl) hN), rfl, rfl⟩, trivial⟩⟩ (z_steq rfl rfl ((zk_up c m38 1 2 ((m38 1 2) + 1) _ ((congrArg (fun q => (.inr (8, [.ref 2, .int (Int32.ofInt (m38 1 1)), .int q, .int (Int32.ofInt (m38 1 3))]) : z_E)) (zi_add rfl rfl)).trans rfl)).trans (by rw [hm47]))) ?_
        have qS := zwy_l3 J (by omega) (by omega) (show m47 1 2 = znx (mM 2) (mM 1 1) (m 1 2) + 1 by omega) (zwv_s (M := m47) (m := m) (p := p) (x := x2) (d := zpk (mM 2) (mM 1 1) (znx (mM 2) (mM 1 1) (m 1 2)) - 48) (by rw [hm47, zup_o (by decide), hm38, zup_o (by decide), hm30, zvu_up, zD9_r kD_9 (by decide)]; exact zvuc (by omega) (by omega)) (by omega))
        refine zW.step (st1 := (2, [(some (.ref 3)), (some (.int (Int32.ofInt p))), (some (.int ((Int32.ofInt x2) + Int32.ofInt 1))), (some (.int (Int32.ofInt r9)))], [], zk c m47)) (st2 := (2, [(some (.ref 3)), (some (.int (Int32.ofInt p))), (some (.int (Int32.ofInt (x2 + 1)))), (some (.int (Int32.ofInt r9)))], [], zk c m47)) ⟨[zo, zo], _, rfl, ⟨trivial, trivial, trivial⟩⟩ (z_steq (z_c1 rfl (z_c1 rfl (z_c1 (z_si (zi_add rfl rfl)) rfl))) rfl rfl) ?_
        exact ih _ (by omega) (x2 + 1) (some (.int (Int32.ofInt r9))) m47 hIm47 (by omega) (by omega) (by exact qS) (by exact zwl_7 J7 kD_9 (show m30 7 = m9 7 by rw [hm30]; exact zup_o (by decide)) hm38 (by omega) (by omega) (show m47 7 = m38 7 by rw [hm47]; exact zup_o (by decide)) (by omega)) (by intro i hi; rw [hm47, zm_ne (Or.inl (by decide)), hm38, zm_ne (Or.inl (by decide)), hm30, zm_ne (Or.inr (by omega))]; exact (kD_9 6 i (by omega)).trans (J6 i hi)) tk52 tk53 rfl
      · refine zW.step (st1 := (45, [(some (.ref 3)), (some (.int (Int32.ofInt p))), (some (.int (Int32.ofInt x2))), (some (.int (Int32.ofInt r9)))], [], zk c m9)) (st2 := (45, [(some (.ref 3)), (some (.int (Int32.ofInt p))), (some (.int (Int32.ofInt x2))), (some (.int (Int32.ofInt r9)))], [], zk c m9)) ⟨[zo, zo, zo], _, rfl, ⟨trivial, trivial, zbf (fun q => b27 ((zi_le rfl (by decide : (Int8.ofInt 52).toInt32 = Int32.ofInt 52) (by unfold zR; omega) (⟨by decide, by decide⟩ : zR 52)).mp q)), trivial⟩⟩ rfl ?_
        have q55 := zwy_l2 J (by omega) (by omega) (by omega)
        refine zW.step (st1 := (46, [(some (.ref 3)), (some (.int (Int32.ofInt p))), (some (.int (Int32.ofInt x2))), (some (.int (Int32.ofInt r9)))], [.int (Int32.ofInt 0)], zk c m9)) (st2 := (46, [(some (.ref 3)), (some (.int (Int32.ofInt p))), (some (.int (Int32.ofInt x2))), (some (.int (Int32.ofInt r9)))], [.int (Int32.ofInt 0)], zk c m9)) ⟨[zo], _, rfl, ⟨trivial, trivial⟩⟩ rfl ?_
        exact zW.fin (zfin_i rfl rfl rfl) (KR _ _ ⟨0, m9, rfl, rfl, hIm9, (by omega), (by omega), (by first | (intro h; exact absurd h (by decide)) | (intro _; exact zwl_e J7 kD_9 qE.2.2.2.1 qE.2.2.2.2 (by omega) (by omega))), (by intro i hi; exact (kD_9 6 i (by omega)).trans (J6 i hi)), (by omega), tk19, tk20⟩)

set_option maxRecDepth 100000 in
set_option maxHeartbeats 4000000 in
theorem S_X4_takesWay_F (zn : Bool) (d : Nat) {c : Nat × Nat} {mM : zM} (hN : 107 ≤ c.1) (hC : c.1 < z_RO) (p : Int) (a9 : Int) (m : zM) (hIm : zI c mM m) (r_p : -2147483648 ≤ p ∧ p ≤ 2147483647) (hp : 0 ≤ p ∧ p ≤ 5) (ha9 : m 1 2 = a9) (hb9 : 0 ≤ a9 ∧ a9 ≤ mM 1 1) : zCi zn (d + 3) 82 [.ref 3, .int (Int32.ofInt p)] c m (fun (r : Int) (m1 : zM) => zI c mM m1 ∧ (0 ≤ r ∧ r ≤ 1) ∧ (r = (zwz (mM 2) (mM 1 1) a9).1 ∧ m1 1 2 = (zwz (mM 2) (mM 1 1) a9).2.1) ∧ (r = 1 → m1 7 = zvu (m 7) (p).toNat ((zwz (mM 2) (mM 1 1) a9).2.2.1 : Int) ∧ (zwz (mM 2) (mM 1 1) a9).2.2.1 ≤ 8 ∧ ∀ j : Nat, j < (zwz (mM 2) (mM 1 1) a9).2.2.1 → m1 6 (8 * (p).toNat + j) = (zwz (mM 2) (mM 1 1) a9).2.2.2 j) ∧ (∀ i : Nat, i < 8 * (p).toNat ∨ 8 * (p).toNat + 8 ≤ i → m1 6 i = m 6 i) ∧ (a9 ≤ m1 1 2 ∧ m1 1 2 ≤ mM 1 1) ∧ zN m m1 ∧ zD9 (fun p i => (p = 1 ∧ (i = 2 ∨ i = 3)) ∨ (6 ≤ p ∧ p ≤ 7)) m m1) := by
  refine zCi.of zu_X4_takesWay hC (Nat.le_of_ble_eq_true rfl) ?_
  show zW zn (d + 2) 82 c (0, [(some (.ref 3)), (some (.int (Int32.ofInt p))), none, none], [], zk c m) (fun v h1 => ∃ (r : Int) (m1 : zM), v = some (.int (Int32.ofInt r)) ∧ h1 = zk c m1 ∧ zI c mM m1 ∧ (0 ≤ r ∧ r ≤ 1) ∧ (r = (zwz (mM 2) (mM 1 1) a9).1 ∧ m1 1 2 = (zwz (mM 2) (mM 1 1) a9).2.1) ∧ (r = 1 → m1 7 = zvu (m 7) (p).toNat ((zwz (mM 2) (mM 1 1) a9).2.2.1 : Int) ∧ (zwz (mM 2) (mM 1 1) a9).2.2.1 ≤ 8 ∧ ∀ j : Nat, j < (zwz (mM 2) (mM 1 1) a9).2.2.1 → m1 6 (8 * (p).toNat + j) = (zwz (mM 2) (mM 1 1) a9).2.2.2 j) ∧ (∀ i : Nat, i < 8 * (p).toNat ∨ 8 * (p).toNat + 8 ≤ i → m1 6 i = m 6 i) ∧ (a9 ≤ m1 1 2 ∧ m1 1 2 ≤ mM 1 1) ∧ zN m m1 ∧ zD9 (fun p i => (p = 1 ∧ (i = 2 ∨ i = 3)) ∨ (6 ≤ p ∧ p ≤ 7)) m m1)
  have f56 : (0 : Int) ≤ m 1 1 ∧ m 1 1 ≤ 240 := hIm.1 1 1
  have f57 : (0 : Int) ≤ m 1 2 ∧ m 1 2 ≤ 240 := hIm.1 1 2
  have f58 : (0 : Int) ≤ m 4 3 ∧ m 4 3 ≤ 5 := hIm.1 4 3
  have f59 : (0 : Int) ≤ m 4 4 ∧ m 4 4 ≤ 6 := hIm.1 4 4
  have f60 : (0 : Int) ≤ m 8 185 ∧ m 8 185 ≤ 10 := zr_c hIm zS_8
  have q61 := zn_c hIm
  refine zW.step (st1 := (2, [(some (.ref 3)), (some (.int (Int32.ofInt p))), (some (.int (Int32.ofInt 0))), none], [], zk c m)) (st2 := (2, [(some (.ref 3)), (some (.int (Int32.ofInt p))), (some (.int (Int32.ofInt 0))), none], [], zk c m)) ⟨[zo, zo], _, rfl, ⟨trivial, trivial, trivial⟩⟩ rfl ?_
  exact L_X4_takesWay_F_2 zn _ hN hC p a9 r_p hp hb9 m _ (fun v9 h9 hq9 => hq9) _ 0 none m hIm (by omega) (by omega) (by rw [ha9, zwv_0]; rfl) (by exact Or.inl ⟨rfl, rfl⟩) (by intro i _; rfl) zN_rf zD9_rf rfl

