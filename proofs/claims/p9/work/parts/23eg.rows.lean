/-! texts, by program (wip/tools/gw5): X4_clause_F -/
set_option maxRecDepth 100000 in
set_option maxHeartbeats 4000000 in
theorem S_X4_clause_F (zn : Bool) (d : Nat) {c : Nat × Nat} {mM : zM} (hN : 107 ≤ c.1) (hC : c.1 < z_RO) (a9 : Int) (m : zM) (hIm : zI c mM m) (ha9 : m 1 2 = a9) (hb9 : 0 ≤ a9 ∧ a9 ≤ mM 1 1) : zCi zn (d + 7) 74 [.ref 3] c m (fun (r : Int) (m1 : zM) => zI c mM m1 ∧ (0 ≤ r ∧ r ≤ 1) ∧ (r = (zcl (mM 2) (mM 1 1) a9 (zWc m)).1 ∧ m1 1 2 = (zcl (mM 2) (mM 1 1) a9 (zWc m)).2.1) ∧ (r = 1 → zWc m1 = (zcl (mM 2) (mM 1 1) a9 (zWc m)).2.2) ∧ (a9 ≤ m1 1 2 ∧ m1 1 2 ≤ mM 1 1 ∧ (r = 1 → a9 < m1 1 2)) ∧ (m 8 185 ≤ 6 → m1 8 185 ≤ 6) ∧ zN m m1 ∧ zD9 (fun p i => (p = 1 ∧ (i = 2 ∨ i = 3)) ∨ (4 ≤ p ∧ p ≤ 9)) m m1) := by
  refine zCi.of zu_X4_clause hC (Nat.le_of_ble_eq_true rfl) ?_
  show zW zn (d + 6) 74 c (0, [(some (.ref 3))], [], zk c m) (fun v h1 => ∃ (r : Int) (m1 : zM), v = some (.int (Int32.ofInt r)) ∧ h1 = zk c m1 ∧ zI c mM m1 ∧ (0 ≤ r ∧ r ≤ 1) ∧ (r = (zcl (mM 2) (mM 1 1) a9 (zWc m)).1 ∧ m1 1 2 = (zcl (mM 2) (mM 1 1) a9 (zWc m)).2.1) ∧ (r = 1 → zWc m1 = (zcl (mM 2) (mM 1 1) a9 (zWc m)).2.2) ∧ (a9 ≤ m1 1 2 ∧ m1 1 2 ≤ mM 1 1 ∧ (r = 1 → a9 < m1 1 2)) ∧ (m 8 185 ≤ 6 → m1 8 185 ≤ 6) ∧ zN m m1 ∧ zD9 (fun p i => (p = 1 ∧ (i = 2 ∨ i = 3)) ∨ (4 ≤ p ∧ p ≤ 9)) m m1)
  have f1 : (0 : Int) ≤ m 1 1 ∧ m 1 1 ≤ 240 := hIm.1 1 1
  have f2 : (0 : Int) ≤ m 1 2 ∧ m 1 2 ≤ 240 := hIm.1 1 2
  have f3 : (0 : Int) ≤ m 4 3 ∧ m 4 3 ≤ 5 := hIm.1 4 3
  have f4 : (0 : Int) ≤ m 4 4 ∧ m 4 4 ≤ 6 := hIm.1 4 4
  have f5 : (0 : Int) ≤ m 8 185 ∧ m 8 185 ≤ 10 := zr_c hIm zS_8
  have q6 := zn_c hIm
  by_cases b7 : 5 ≤ (m 4 3)
  · refine zW.step (st1 := (28, [(some (.ref 3))], [], zk c m)) (st2 := (28, [(some (.ref 3))], [], zk c m)) ⟨[zo, zo, zo, zo, zt], _, rfl, ⟨trivial, (Nat.lt_of_lt_of_le (Nat.le_of_ble_eq_true rfl) hN), (Nat.lt_of_lt_of_le (Nat.le_of_ble_eq_true rfl) hN), trivial, zbt ((zi_le rfl rfl (⟨by decide, by decide⟩ : zR 5) (by unfold zR; omega)).mpr b7), trivial⟩⟩ rfl ?_
    have q8 := trivial
    have q9 := congrArg (zpk (mM 2) (mM 1 1)) (znx_i (b := mM 2) (n := mM 1 1) (a := a9) (by omega) (by omega))
    by_cases b10 : 6 ≤ (m 8 185)
    · refine zW.step (st1 := (58, [(some (.ref 3))], [], zk c m)) (st2 := (58, [(some (.ref 3))], [], zk c m)) ⟨[zo, zo, zo, (false, 0, none, zh0, some (.inl (0, 188, .inl (fun j => Int32.ofInt (m 8 j))))), zo, zt], _, rfl, ⟨trivial, (Nat.lt_of_lt_of_le (Nat.le_of_ble_eq_true rfl) hN), trivial, ⟨zk_ra c m zA_8 (Nat.lt_of_lt_of_le (Nat.le_of_ble_eq_true rfl) hN), zi_in (by decide : (Int16.ofInt 185).toInt32 = Int32.ofInt 185) (by omega) (by omega) (by omega)⟩, trivial, zbt ((zi_le (by decide : (Int8.ofInt 6).toInt32 = Int32.ofInt 6) ((zk_rd (f := m 8) (by decide : (Int16.ofInt 185).toInt32 = Int32.ofInt 185) (⟨by decide, by decide⟩ : zR 185)).trans rfl : Int32.ofInt (m 8 ((Int16.ofInt 185).toInt32).toNatClampNeg) = Int32.ofInt (m 8 185)) (⟨by decide, by decide⟩ : zR 6) (by unfold zR; omega)).mpr b10), trivial⟩⟩ rfl ?_
      have q11 := trivial
      by_cases b12 : 6 ≤ (m 4 4)
      · refine zW.step (st1 := (87, [(some (.ref 3))], [], zk c m)) (st2 := (87, [(some (.ref 3))], [], zk c m)) ⟨[zo, zo, zo, zo, zt], _, rfl, ⟨trivial, (Nat.lt_of_lt_of_le (Nat.le_of_ble_eq_true rfl) hN), (Nat.lt_of_lt_of_le (Nat.le_of_ble_eq_true rfl) hN), trivial, zbt ((zi_le (by decide : (Int8.ofInt 6).toInt32 = Int32.ofInt 6) rfl (⟨by decide, by decide⟩ : zR 6) (by unfold zR; omega)).mpr b12), trivial⟩⟩ rfl ?_
        have q13 := trivial
        refine zW.step (st1 := (91, [(some (.ref 3))], [.ref 1], zk c m)) (st2 := (91, [(some (.ref 3))], [.ref 1], zk c m)) ⟨[zo, zo], _, rfl, ⟨trivial, (Nat.lt_of_lt_of_le (Nat.le_of_ble_eq_true rfl) hN), trivial⟩⟩ rfl ?_
        obtain ⟨r14, m14, hs14, hIm14, z_14, f_14, p_14, b_14, l_14, c3_14, kN_14, kD_14⟩ := S_X8_next_F zn (d + 4) hN hC a9 m hIm (by omega) (by omega)
        refine zW.step (st1 := (94, [(some (.ref 3))], [.int (Int32.ofInt r14)], zk c m14)) ⟨[zc (some (.int (Int32.ofInt r14))) (zk c m14)], _, rfl, ⟨⟨⟨(Nat.lt_of_lt_of_le (Nat.le_of_ble_eq_true rfl) hN), (Nat.le_of_ble_eq_true rfl)⟩, hs14, (Nat.le_of_ble_eq_true rfl), Nat.le_refl _, Nat.le_refl _, Nat.le_refl _, Nat.le_refl _⟩, trivial⟩⟩ rfl ?_
        have f15 : (0 : Int) ≤ m14 1 1 ∧ m14 1 1 ≤ 240 := hIm14.1 1 1
        have f16 : m14 1 1 = m 1 1 := kD_14 1 1 (by omega)
        have f17 : (0 : Int) ≤ m14 1 2 ∧ m14 1 2 ≤ 240 := hIm14.1 1 2
        have f18 : (0 : Int) ≤ m14 4 3 ∧ m14 4 3 ≤ 5 := hIm14.1 4 3
        have f19 : m14 4 3 = m 4 3 := kD_14 4 3 (by omega)
        have f20 : (0 : Int) ≤ m14 4 4 ∧ m14 4 4 ≤ 6 := hIm14.1 4 4
        have f21 : m14 4 4 = m 4 4 := kD_14 4 4 (by omega)
        have f22 : (0 : Int) ≤ m14 8 185 ∧ m14 8 185 ≤ 10 := zr_c hIm14 zS_8
        have f23 : m14 8 185 = m 8 185 := kD_14 8 185 (by omega)
        have tk24 : zN m m14 := zN_tr zN_rf kN_14
        have tk25 : zD9 (fun p i => (p = 1 ∧ (i = 2 ∨ i = 3)) ∨ (4 ≤ p ∧ p ≤ 9)) m m14 := zD9_tr zD9_rf (zD9_mo kD_14 (fun p i w => by have w2 : p = 1 ∧ (i = 2 ∨ i = 3) := w; show (p = 1 ∧ (i = 2 ∨ i = 3)) ∨ (4 ≤ p ∧ p ≤ 9); omega))
        have q26 := zcl_0 (b := mM 2) (n := mM 1 1) (a := a9) (w := zWc m) (by rw [zWc_28]; omega) (by rw [zWc_29]; omega) (by rw [zWc_30]; omega)
        refine zW.step (st1 := (96, [(some (.ref 3))], [.int (Int32.ofInt 0)], zk c m14)) (st2 := (96, [(some (.ref 3))], [.int (Int32.ofInt 0)], zk c m14)) ⟨[zo, zo], _, rfl, ⟨trivial, trivial, trivial⟩⟩ rfl ?_
        exact zW.fin (zfin_i rfl rfl rfl) ⟨0, m14, rfl, rfl, hIm14, (by omega), (by omega), (by intro h; exact absurd h (by decide)), (by omega), (by omega), tk24, tk25⟩
      · refine zW.step (st1 := (70, [(some (.ref 3))], [], zk c m)) (st2 := (70, [(some (.ref 3))], [], zk c m)) ⟨[zo, zo, zo, zo, zo], _, rfl, ⟨trivial, (Nat.lt_of_lt_of_le (Nat.le_of_ble_eq_true rfl) hN), (Nat.lt_of_lt_of_le (Nat.le_of_ble_eq_true rfl) hN), trivial, zbf (fun q => b12 ((zi_le (by decide : (Int8.ofInt 6).toInt32 = Int32.ofInt 6) rfl (⟨by decide, by decide⟩ : zR 6) (by unfold zR; omega)).mp q)), trivial⟩⟩ rfl ?_
        have q27 := ztk_f (mM 2) (mM 1 1) 112 a9
        refine zW.step (st1 := (76, [(some (.ref 3))], [.int ((Int8.ofInt 112).toInt32), .ref 1], zk c m)) (st2 := (76, [(some (.ref 3))], [.int (Int32.ofInt 112), .ref 1], zk c m)) ⟨[zo, zo, zo], _, rfl, ⟨trivial, (Nat.lt_of_lt_of_le (Nat.le_of_ble_eq_true rfl) hN), trivial, trivial⟩⟩ (z_steq rfl (z_c1 (z_vi (by decide : (Int8.ofInt 112).toInt32 = Int32.ofInt 112)) rfl) rfl) ?_
        obtain ⟨r28, m28, hs28, hIm28, z_28, p_28, b_28, kN_28, kD_28⟩ := S_X8_takes_F zn (d + 3) hN hC 112 a9 m hIm (by omega) (by omega) (by omega) (by omega)
        refine zW.step (st1 := (79, [(some (.ref 3))], [.int (Int32.ofInt r28)], zk c m28)) ⟨[zc (some (.int (Int32.ofInt r28))) (zk c m28)], _, rfl, ⟨⟨⟨(Nat.lt_of_lt_of_le (Nat.le_of_ble_eq_true rfl) hN), (Nat.le_of_ble_eq_true rfl)⟩, hs28, (Nat.le_of_ble_eq_true rfl), Nat.le_refl _, Nat.le_refl _, Nat.le_refl _, Nat.le_refl _⟩, trivial⟩⟩ rfl ?_
        have f29 : (0 : Int) ≤ m28 1 1 ∧ m28 1 1 ≤ 240 := hIm28.1 1 1
        have f30 : m28 1 1 = m 1 1 := kD_28 1 1 (by omega)
        have f31 : (0 : Int) ≤ m28 1 2 ∧ m28 1 2 ≤ 240 := hIm28.1 1 2
        have f32 : (0 : Int) ≤ m28 4 3 ∧ m28 4 3 ≤ 5 := hIm28.1 4 3
        have f33 : m28 4 3 = m 4 3 := kD_28 4 3 (by omega)
        have f34 : (0 : Int) ≤ m28 4 4 ∧ m28 4 4 ≤ 6 := hIm28.1 4 4
        have f35 : m28 4 4 = m 4 4 := kD_28 4 4 (by omega)
        have f36 : (0 : Int) ≤ m28 8 185 ∧ m28 8 185 ≤ 10 := zr_c hIm28 zS_8
        have f37 : m28 8 185 = m 8 185 := kD_28 8 185 (by omega)
        have tk38 : zN m m28 := zN_tr zN_rf kN_28
        have tk39 : zD9 (fun p i => (p = 1 ∧ (i = 2 ∨ i = 3)) ∨ (4 ≤ p ∧ p ≤ 9)) m m28 := zD9_tr zD9_rf (zD9_mo kD_28 (fun p i w => by have w2 : p = 1 ∧ (i = 2 ∨ i = 3) := w; show (p = 1 ∧ (i = 2 ∨ i = 3)) ∨ (4 ≤ p ∧ p ≤ 9); omega))
        by_cases b40 : r28 = 0
        · refine zW.step (st1 := (87, [(some (.ref 3))], [], zk c m28)) (st2 := (87, [(some (.ref 3))], [], zk c m28)) ⟨[zt], _, rfl, ⟨zbt ((zi_eq rfl (rfl : (0 : Int32) = Int32.ofInt 0) (by unfold zR; omega) (⟨by decide, by decide⟩ : zR 0)).mpr b40), trivial⟩⟩ rfl ?_
          have q41 := znx_i (b := mM 2) (n := mM 1 1) (a := a9) (by omega) (by omega)
          refine zW.step (st1 := (91, [(some (.ref 3))], [.ref 1], zk c m28)) (st2 := (91, [(some (.ref 3))], [.ref 1], zk c m28)) ⟨[zo, zo], _, rfl, ⟨trivial, (Nat.lt_of_lt_of_le (Nat.le_of_ble_eq_true rfl) hN), trivial⟩⟩ rfl ?_
          obtain ⟨r42, m42, hs42, hIm42, z_42, f_42, p_42, b_42, l_42, c3_42, kN_42, kD_42⟩ := S_X8_next_F zn (d + 4) hN hC (znx (mM 2) (mM 1 1) a9) m28 hIm28 (by omega) (by omega)
          refine zW.step (st1 := (94, [(some (.ref 3))], [.int (Int32.ofInt r42)], zk c m42)) ⟨[zc (some (.int (Int32.ofInt r42))) (zk c m42)], _, rfl, ⟨⟨⟨(Nat.lt_of_lt_of_le (Nat.le_of_ble_eq_true rfl) hN), (Nat.le_of_ble_eq_true rfl)⟩, hs42, (Nat.le_of_ble_eq_true rfl), Nat.le_refl _, Nat.le_refl _, Nat.le_refl _, Nat.le_refl _⟩, trivial⟩⟩ rfl ?_
          have f43 : (0 : Int) ≤ m42 1 1 ∧ m42 1 1 ≤ 240 := hIm42.1 1 1
          have f44 : m42 1 1 = m28 1 1 := kD_42 1 1 (by omega)
          have f45 : (0 : Int) ≤ m42 1 2 ∧ m42 1 2 ≤ 240 := hIm42.1 1 2
          have f46 : (0 : Int) ≤ m42 4 3 ∧ m42 4 3 ≤ 5 := hIm42.1 4 3
          have f47 : m42 4 3 = m28 4 3 := kD_42 4 3 (by omega)
          have f48 : (0 : Int) ≤ m42 4 4 ∧ m42 4 4 ≤ 6 := hIm42.1 4 4
          have f49 : m42 4 4 = m28 4 4 := kD_42 4 4 (by omega)
          have f50 : (0 : Int) ≤ m42 8 185 ∧ m42 8 185 ≤ 10 := zr_c hIm42 zS_8
          have f51 : m42 8 185 = m28 8 185 := kD_42 8 185 (by omega)
          have tk52 : zN m m42 := zN_tr tk38 kN_42
          have tk53 : zD9 (fun p i => (p = 1 ∧ (i = 2 ∨ i = 3)) ∨ (4 ≤ p ∧ p ≤ 9)) m m42 := zD9_tr tk39 (zD9_mo kD_42 (fun p i w => by have w2 : p = 1 ∧ (i = 2 ∨ i = 3) := w; show (p = 1 ∧ (i = 2 ∨ i = 3)) ∨ (4 ≤ p ∧ p ≤ 9); omega))
          have q54 := zcl_0 (b := mM 2) (n := mM 1 1) (a := a9) (w := zWc m) (by rw [zWc_28]; omega) (by rw [zWc_29]; omega) (by rw [zWc_30]; omega)
          refine zW.step (st1 := (96, [(some (.ref 3))], [.int (Int32.ofInt 0)], zk c m42)) (st2 := (96, [(some (.ref 3))], [.int (Int32.ofInt 0)], zk c m42)) ⟨[zo, zo], _, rfl, ⟨trivial, trivial, trivial⟩⟩ rfl ?_
          exact zW.fin (zfin_i rfl rfl rfl) ⟨0, m42, rfl, rfl, hIm42, (by omega), (by omega), (by intro h; exact absurd h (by decide)), (by omega), (by omega), tk52, tk53⟩
        · refine zW.step (st1 := (82, [(some (.ref 3))], [], zk c m28)) (st2 := (82, [(some (.ref 3))], [], zk c m28)) ⟨[zo], _, rfl, ⟨zbf (fun q => b40 ((zi_eq rfl (rfl : (0 : Int32) = Int32.ofInt 0) (by unfold zR; omega) (⟨by decide, by decide⟩ : zR 0)).mp q)), trivial⟩⟩ rfl ?_
          have q55 := trivial
          refine zW.step (st1 := (83, [(some (.ref 3))], [.ref 3], zk c m28)) (st2 := (83, [(some (.ref 3))], [.ref 3], zk c m28)) ⟨[zo], _, rfl, ⟨trivial, trivial⟩⟩ rfl ?_
          obtain ⟨r56, m56, hs56, hIm56, z_56, p_56, w_56, b_56, c9_56, kN_56, kD_56⟩ := S_X4_onePerson_F zn (d + 0) hN hC (znx (mM 2) (mM 1 1) a9 + 1) m28 hIm28 (by omega) (by omega) (by omega)
          refine zW.step (st1 := (86, [(some (.ref 3))], [.int (Int32.ofInt r56)], zk c m56)) ⟨[zc (some (.int (Int32.ofInt r56))) (zk c m56)], _, rfl, ⟨⟨⟨(Nat.lt_of_lt_of_le (Nat.le_of_ble_eq_true rfl) hN), (Nat.le_of_ble_eq_true rfl)⟩, hs56, (Nat.le_of_ble_eq_true rfl), Nat.le_refl _, Nat.le_refl _, Nat.le_refl _, Nat.le_refl _⟩, trivial⟩⟩ rfl ?_
          have f57 : (0 : Int) ≤ m56 1 1 ∧ m56 1 1 ≤ 240 := hIm56.1 1 1
          have f58 : m56 1 1 = m28 1 1 := kD_56 1 1 (by omega)
          have f59 : (0 : Int) ≤ m56 1 2 ∧ m56 1 2 ≤ 240 := hIm56.1 1 2
          have f60 : (0 : Int) ≤ m56 4 3 ∧ m56 4 3 ≤ 5 := hIm56.1 4 3
          have f61 : (0 : Int) ≤ m56 4 4 ∧ m56 4 4 ≤ 6 := hIm56.1 4 4
          have f62 : (0 : Int) ≤ m56 8 185 ∧ m56 8 185 ≤ 10 := zr_c hIm56 zS_8
          have tk63 : zN m m56 := zN_tr tk38 kN_56
          have tk64 : zD9 (fun p i => (p = 1 ∧ (i = 2 ∨ i = 3)) ∨ (4 ≤ p ∧ p ≤ 9)) m m56 := zD9_tr tk39 kD_56
          have q65 := zcl_3 (b := mM 2) (n := mM 1 1) (a := a9) (w := zWc m) (w1 := zWc m28) (((zWc_D1 kD_28).trans rfl)) (by omega) (by rw [zWc_30]; omega)
          exact zW.fin (zfin_i rfl rfl (z_narZ rfl (by omega))) ⟨r56, m56, rfl, rfl, hIm56, (by omega), (by omega), (by intro h; exact (w_56 h).trans q65.2.2.symm), (by omega), (by omega), tk63, tk64⟩
    · refine zW.step (st1 := (41, [(some (.ref 3))], [], zk c m)) (st2 := (41, [(some (.ref 3))], [], zk c m)) ⟨[zo, zo, zo, (false, 0, none, zh0, some (.inl (0, 188, .inl (fun j => Int32.ofInt (m 8 j))))), zo, zo], _, rfl, ⟨trivial, (Nat.lt_of_lt_of_le (Nat.le_of_ble_eq_true rfl) hN), trivial, ⟨zk_ra c m zA_8 (Nat.lt_of_lt_of_le (Nat.le_of_ble_eq_true rfl) hN), zi_in (by decide : (Int16.ofInt 185).toInt32 = Int32.ofInt 185) (by omega) (by omega) (by omega)⟩, trivial, zbf (fun q => b10 ((zi_le (by decide : (Int8.ofInt 6).toInt32 = Int32.ofInt 6) ((zk_rd (f := m 8) (by decide : (Int16.ofInt 185).toInt32 = Int32.ofInt 185) (⟨by decide, by decide⟩ : zR 185)).trans rfl : Int32.ofInt (m 8 ((Int16.ofInt 185).toInt32).toNatClampNeg) = Int32.ofInt (m 8 185)) (⟨by decide, by decide⟩ : zR 6) (by unfold zR; omega)).mp q)), trivial⟩⟩ rfl ?_
      have q66 := ztk_f (mM 2) (mM 1 1) 99 a9
      refine zW.step (st1 := (47, [(some (.ref 3))], [.int ((Int8.ofInt 99).toInt32), .ref 1], zk c m)) (st2 := (47, [(some (.ref 3))], [.int (Int32.ofInt 99), .ref 1], zk c m)) ⟨[zo, zo, zo], _, rfl, ⟨trivial, (Nat.lt_of_lt_of_le (Nat.le_of_ble_eq_true rfl) hN), trivial, trivial⟩⟩ (z_steq rfl (z_c1 (z_vi (by decide : (Int8.ofInt 99).toInt32 = Int32.ofInt 99)) rfl) rfl) ?_
      obtain ⟨r67, m67, hs67, hIm67, z_67, p_67, b_67, kN_67, kD_67⟩ := S_X8_takes_F zn (d + 3) hN hC 99 a9 m hIm (by omega) (by omega) (by omega) (by omega)
      refine zW.step (st1 := (50, [(some (.ref 3))], [.int (Int32.ofInt r67)], zk c m67)) ⟨[zc (some (.int (Int32.ofInt r67))) (zk c m67)], _, rfl, ⟨⟨⟨(Nat.lt_of_lt_of_le (Nat.le_of_ble_eq_true rfl) hN), (Nat.le_of_ble_eq_true rfl)⟩, hs67, (Nat.le_of_ble_eq_true rfl), Nat.le_refl _, Nat.le_refl _, Nat.le_refl _, Nat.le_refl _⟩, trivial⟩⟩ rfl ?_
      have f68 : (0 : Int) ≤ m67 1 1 ∧ m67 1 1 ≤ 240 := hIm67.1 1 1
      have f69 : m67 1 1 = m 1 1 := kD_67 1 1 (by omega)
      have f70 : (0 : Int) ≤ m67 1 2 ∧ m67 1 2 ≤ 240 := hIm67.1 1 2
      have f71 : (0 : Int) ≤ m67 4 3 ∧ m67 4 3 ≤ 5 := hIm67.1 4 3
      have f72 : m67 4 3 = m 4 3 := kD_67 4 3 (by omega)
      have f73 : (0 : Int) ≤ m67 4 4 ∧ m67 4 4 ≤ 6 := hIm67.1 4 4
      have f74 : m67 4 4 = m 4 4 := kD_67 4 4 (by omega)
      have f75 : (0 : Int) ≤ m67 8 185 ∧ m67 8 185 ≤ 10 := zr_c hIm67 zS_8
      have f76 : m67 8 185 = m 8 185 := kD_67 8 185 (by omega)
      have tk77 : zN m m67 := zN_tr zN_rf kN_67
      have tk78 : zD9 (fun p i => (p = 1 ∧ (i = 2 ∨ i = 3)) ∨ (4 ≤ p ∧ p ≤ 9)) m m67 := zD9_tr zD9_rf (zD9_mo kD_67 (fun p i w => by have w2 : p = 1 ∧ (i = 2 ∨ i = 3) := w; show (p = 1 ∧ (i = 2 ∨ i = 3)) ∨ (4 ≤ p ∧ p ≤ 9); omega))
      by_cases b79 : r67 = 0
      · refine zW.step (st1 := (58, [(some (.ref 3))], [], zk c m67)) (st2 := (58, [(some (.ref 3))], [], zk c m67)) ⟨[zt], _, rfl, ⟨zbt ((zi_eq rfl (rfl : (0 : Int32) = Int32.ofInt 0) (by unfold zR; omega) (⟨by decide, by decide⟩ : zR 0)).mpr b79), trivial⟩⟩ rfl ?_
        have q80 := znx_i (b := mM 2) (n := mM 1 1) (a := a9) (by omega) (by omega)
        by_cases b81 : 6 ≤ (m67 4 4)
        · refine zW.step (st1 := (87, [(some (.ref 3))], [], zk c m67)) (st2 := (87, [(some (.ref 3))], [], zk c m67)) ⟨[zo, zo, zo, zo, zt], _, rfl, ⟨trivial, (Nat.lt_of_lt_of_le (Nat.le_of_ble_eq_true rfl) hN), (Nat.lt_of_lt_of_le (Nat.le_of_ble_eq_true rfl) hN), trivial, zbt ((zi_le (by decide : (Int8.ofInt 6).toInt32 = Int32.ofInt 6) rfl (⟨by decide, by decide⟩ : zR 6) (by unfold zR; omega)).mpr b81), trivial⟩⟩ rfl ?_
          have q82 := znx_i (b := mM 2) (n := mM 1 1) (a := a9) (by omega) (by omega)
          refine zW.step (st1 := (91, [(some (.ref 3))], [.ref 1], zk c m67)) (st2 := (91, [(some (.ref 3))], [.ref 1], zk c m67)) ⟨[zo, zo], _, rfl, ⟨trivial, (Nat.lt_of_lt_of_le (Nat.le_of_ble_eq_true rfl) hN), trivial⟩⟩ rfl ?_
          obtain ⟨r83, m83, hs83, hIm83, z_83, f_83, p_83, b_83, l_83, c3_83, kN_83, kD_83⟩ := S_X8_next_F zn (d + 4) hN hC (znx (mM 2) (mM 1 1) a9) m67 hIm67 (by omega) (by omega)
          refine zW.step (st1 := (94, [(some (.ref 3))], [.int (Int32.ofInt r83)], zk c m83)) ⟨[zc (some (.int (Int32.ofInt r83))) (zk c m83)], _, rfl, ⟨⟨⟨(Nat.lt_of_lt_of_le (Nat.le_of_ble_eq_true rfl) hN), (Nat.le_of_ble_eq_true rfl)⟩, hs83, (Nat.le_of_ble_eq_true rfl), Nat.le_refl _, Nat.le_refl _, Nat.le_refl _, Nat.le_refl _⟩, trivial⟩⟩ rfl ?_
          have f84 : (0 : Int) ≤ m83 1 1 ∧ m83 1 1 ≤ 240 := hIm83.1 1 1
          have f85 : m83 1 1 = m67 1 1 := kD_83 1 1 (by omega)
          have f86 : (0 : Int) ≤ m83 1 2 ∧ m83 1 2 ≤ 240 := hIm83.1 1 2
          have f87 : (0 : Int) ≤ m83 4 3 ∧ m83 4 3 ≤ 5 := hIm83.1 4 3
          have f88 : m83 4 3 = m67 4 3 := kD_83 4 3 (by omega)
          have f89 : (0 : Int) ≤ m83 4 4 ∧ m83 4 4 ≤ 6 := hIm83.1 4 4
          have f90 : m83 4 4 = m67 4 4 := kD_83 4 4 (by omega)
          have f91 : (0 : Int) ≤ m83 8 185 ∧ m83 8 185 ≤ 10 := zr_c hIm83 zS_8
          have f92 : m83 8 185 = m67 8 185 := kD_83 8 185 (by omega)
          have tk93 : zN m m83 := zN_tr tk77 kN_83
          have tk94 : zD9 (fun p i => (p = 1 ∧ (i = 2 ∨ i = 3)) ∨ (4 ≤ p ∧ p ≤ 9)) m m83 := zD9_tr tk78 (zD9_mo kD_83 (fun p i w => by have w2 : p = 1 ∧ (i = 2 ∨ i = 3) := w; show (p = 1 ∧ (i = 2 ∨ i = 3)) ∨ (4 ≤ p ∧ p ≤ 9); omega))
          have q95 := zcl_0 (b := mM 2) (n := mM 1 1) (a := a9) (w := zWc m) (by rw [zWc_28]; omega) (by rw [zWc_29]; omega) (by rw [zWc_30]; omega)
          refine zW.step (st1 := (96, [(some (.ref 3))], [.int (Int32.ofInt 0)], zk c m83)) (st2 := (96, [(some (.ref 3))], [.int (Int32.ofInt 0)], zk c m83)) ⟨[zo, zo], _, rfl, ⟨trivial, trivial, trivial⟩⟩ rfl ?_
          exact zW.fin (zfin_i rfl rfl rfl) ⟨0, m83, rfl, rfl, hIm83, (by omega), (by omega), (by intro h; exact absurd h (by decide)), (by omega), (by omega), tk93, tk94⟩
        · refine zW.step (st1 := (70, [(some (.ref 3))], [], zk c m67)) (st2 := (70, [(some (.ref 3))], [], zk c m67)) ⟨[zo, zo, zo, zo, zo], _, rfl, ⟨trivial, (Nat.lt_of_lt_of_le (Nat.le_of_ble_eq_true rfl) hN), (Nat.lt_of_lt_of_le (Nat.le_of_ble_eq_true rfl) hN), trivial, zbf (fun q => b81 ((zi_le (by decide : (Int8.ofInt 6).toInt32 = Int32.ofInt 6) rfl (⟨by decide, by decide⟩ : zR 6) (by unfold zR; omega)).mp q)), trivial⟩⟩ rfl ?_
          have q96 := ztk_f (mM 2) (mM 1 1) 112 (znx (mM 2) (mM 1 1) a9)
          refine zW.step (st1 := (76, [(some (.ref 3))], [.int ((Int8.ofInt 112).toInt32), .ref 1], zk c m67)) (st2 := (76, [(some (.ref 3))], [.int (Int32.ofInt 112), .ref 1], zk c m67)) ⟨[zo, zo, zo], _, rfl, ⟨trivial, (Nat.lt_of_lt_of_le (Nat.le_of_ble_eq_true rfl) hN), trivial, trivial⟩⟩ (z_steq rfl (z_c1 (z_vi (by decide : (Int8.ofInt 112).toInt32 = Int32.ofInt 112)) rfl) rfl) ?_
          obtain ⟨r97, m97, hs97, hIm97, z_97, p_97, b_97, kN_97, kD_97⟩ := S_X8_takes_F zn (d + 3) hN hC 112 (znx (mM 2) (mM 1 1) a9) m67 hIm67 (by omega) (by omega) (by omega) (by omega)
          refine zW.step (st1 := (79, [(some (.ref 3))], [.int (Int32.ofInt r97)], zk c m97)) ⟨[zc (some (.int (Int32.ofInt r97))) (zk c m97)], _, rfl, ⟨⟨⟨(Nat.lt_of_lt_of_le (Nat.le_of_ble_eq_true rfl) hN), (Nat.le_of_ble_eq_true rfl)⟩, hs97, (Nat.le_of_ble_eq_true rfl), Nat.le_refl _, Nat.le_refl _, Nat.le_refl _, Nat.le_refl _⟩, trivial⟩⟩ rfl ?_
          have f98 : (0 : Int) ≤ m97 1 1 ∧ m97 1 1 ≤ 240 := hIm97.1 1 1
          have f99 : m97 1 1 = m67 1 1 := kD_97 1 1 (by omega)
          have f100 : (0 : Int) ≤ m97 1 2 ∧ m97 1 2 ≤ 240 := hIm97.1 1 2
          have f101 : (0 : Int) ≤ m97 4 3 ∧ m97 4 3 ≤ 5 := hIm97.1 4 3
          have f102 : m97 4 3 = m67 4 3 := kD_97 4 3 (by omega)
          have f103 : (0 : Int) ≤ m97 4 4 ∧ m97 4 4 ≤ 6 := hIm97.1 4 4
          have f104 : m97 4 4 = m67 4 4 := kD_97 4 4 (by omega)
          have f105 : (0 : Int) ≤ m97 8 185 ∧ m97 8 185 ≤ 10 := zr_c hIm97 zS_8
          have f106 : m97 8 185 = m67 8 185 := kD_97 8 185 (by omega)
          have tk107 : zN m m97 := zN_tr tk77 kN_97
          have tk108 : zD9 (fun p i => (p = 1 ∧ (i = 2 ∨ i = 3)) ∨ (4 ≤ p ∧ p ≤ 9)) m m97 := zD9_tr tk78 (zD9_mo kD_97 (fun p i w => by have w2 : p = 1 ∧ (i = 2 ∨ i = 3) := w; show (p = 1 ∧ (i = 2 ∨ i = 3)) ∨ (4 ≤ p ∧ p ≤ 9); omega))
          by_cases b109 : r97 = 0
          · refine zW.step (st1 := (87, [(some (.ref 3))], [], zk c m97)) (st2 := (87, [(some (.ref 3))], [], zk c m97)) ⟨[zt], _, rfl, ⟨zbt ((zi_eq rfl (rfl : (0 : Int32) = Int32.ofInt 0) (by unfold zR; omega) (⟨by decide, by decide⟩ : zR 0)).mpr b109), trivial⟩⟩ rfl ?_
            have q110 := znx_i (b := mM 2) (n := mM 1 1) (a := a9) (by omega) (by omega)
            refine zW.step (st1 := (91, [(some (.ref 3))], [.ref 1], zk c m97)) (st2 := (91, [(some (.ref 3))], [.ref 1], zk c m97)) ⟨[zo, zo], _, rfl, ⟨trivial, (Nat.lt_of_lt_of_le (Nat.le_of_ble_eq_true rfl) hN), trivial⟩⟩ rfl ?_
            obtain ⟨r111, m111, hs111, hIm111, z_111, f_111, p_111, b_111, l_111, c3_111, kN_111, kD_111⟩ := S_X8_next_F zn (d + 4) hN hC (znx (mM 2) (mM 1 1) a9) m97 hIm97 (by omega) (by omega)
            refine zW.step (st1 := (94, [(some (.ref 3))], [.int (Int32.ofInt r111)], zk c m111)) ⟨[zc (some (.int (Int32.ofInt r111))) (zk c m111)], _, rfl, ⟨⟨⟨(Nat.lt_of_lt_of_le (Nat.le_of_ble_eq_true rfl) hN), (Nat.le_of_ble_eq_true rfl)⟩, hs111, (Nat.le_of_ble_eq_true rfl), Nat.le_refl _, Nat.le_refl _, Nat.le_refl _, Nat.le_refl _⟩, trivial⟩⟩ rfl ?_
            have f112 : (0 : Int) ≤ m111 1 1 ∧ m111 1 1 ≤ 240 := hIm111.1 1 1
            have f113 : m111 1 1 = m97 1 1 := kD_111 1 1 (by omega)
            have f114 : (0 : Int) ≤ m111 1 2 ∧ m111 1 2 ≤ 240 := hIm111.1 1 2
            have f115 : (0 : Int) ≤ m111 4 3 ∧ m111 4 3 ≤ 5 := hIm111.1 4 3
            have f116 : m111 4 3 = m97 4 3 := kD_111 4 3 (by omega)
            have f117 : (0 : Int) ≤ m111 4 4 ∧ m111 4 4 ≤ 6 := hIm111.1 4 4
            have f118 : m111 4 4 = m97 4 4 := kD_111 4 4 (by omega)
            have f119 : (0 : Int) ≤ m111 8 185 ∧ m111 8 185 ≤ 10 := zr_c hIm111 zS_8
            have f120 : m111 8 185 = m97 8 185 := kD_111 8 185 (by omega)
            have tk121 : zN m m111 := zN_tr tk107 kN_111
            have tk122 : zD9 (fun p i => (p = 1 ∧ (i = 2 ∨ i = 3)) ∨ (4 ≤ p ∧ p ≤ 9)) m m111 := zD9_tr tk108 (zD9_mo kD_111 (fun p i w => by have w2 : p = 1 ∧ (i = 2 ∨ i = 3) := w; show (p = 1 ∧ (i = 2 ∨ i = 3)) ∨ (4 ≤ p ∧ p ≤ 9); omega))
            have q123 := zcl_0 (b := mM 2) (n := mM 1 1) (a := a9) (w := zWc m) (by rw [zWc_28]; omega) (by rw [zWc_29]; omega) (by rw [zWc_30]; omega)
            refine zW.step (st1 := (96, [(some (.ref 3))], [.int (Int32.ofInt 0)], zk c m111)) (st2 := (96, [(some (.ref 3))], [.int (Int32.ofInt 0)], zk c m111)) ⟨[zo, zo], _, rfl, ⟨trivial, trivial, trivial⟩⟩ rfl ?_
            exact zW.fin (zfin_i rfl rfl rfl) ⟨0, m111, rfl, rfl, hIm111, (by omega), (by omega), (by intro h; exact absurd h (by decide)), (by omega), (by omega), tk121, tk122⟩
          · refine zW.step (st1 := (82, [(some (.ref 3))], [], zk c m97)) (st2 := (82, [(some (.ref 3))], [], zk c m97)) ⟨[zo], _, rfl, ⟨zbf (fun q => b109 ((zi_eq rfl (rfl : (0 : Int32) = Int32.ofInt 0) (by unfold zR; omega) (⟨by decide, by decide⟩ : zR 0)).mp q)), trivial⟩⟩ rfl ?_
            have q124 := trivial
            refine zW.step (st1 := (83, [(some (.ref 3))], [.ref 3], zk c m97)) (st2 := (83, [(some (.ref 3))], [.ref 3], zk c m97)) ⟨[zo], _, rfl, ⟨trivial, trivial⟩⟩ rfl ?_
            obtain ⟨r125, m125, hs125, hIm125, z_125, p_125, w_125, b_125, c9_125, kN_125, kD_125⟩ := S_X4_onePerson_F zn (d + 0) hN hC (znx (mM 2) (mM 1 1) a9 + 1) m97 hIm97 (by omega) (by omega) (by omega)
            refine zW.step (st1 := (86, [(some (.ref 3))], [.int (Int32.ofInt r125)], zk c m125)) ⟨[zc (some (.int (Int32.ofInt r125))) (zk c m125)], _, rfl, ⟨⟨⟨(Nat.lt_of_lt_of_le (Nat.le_of_ble_eq_true rfl) hN), (Nat.le_of_ble_eq_true rfl)⟩, hs125, (Nat.le_of_ble_eq_true rfl), Nat.le_refl _, Nat.le_refl _, Nat.le_refl _, Nat.le_refl _⟩, trivial⟩⟩ rfl ?_
            have f126 : (0 : Int) ≤ m125 1 1 ∧ m125 1 1 ≤ 240 := hIm125.1 1 1
            have f127 : m125 1 1 = m97 1 1 := kD_125 1 1 (by omega)
            have f128 : (0 : Int) ≤ m125 1 2 ∧ m125 1 2 ≤ 240 := hIm125.1 1 2
            have f129 : (0 : Int) ≤ m125 4 3 ∧ m125 4 3 ≤ 5 := hIm125.1 4 3
            have f130 : (0 : Int) ≤ m125 4 4 ∧ m125 4 4 ≤ 6 := hIm125.1 4 4
            have f131 : (0 : Int) ≤ m125 8 185 ∧ m125 8 185 ≤ 10 := zr_c hIm125 zS_8
            have tk132 : zN m m125 := zN_tr tk107 kN_125
            have tk133 : zD9 (fun p i => (p = 1 ∧ (i = 2 ∨ i = 3)) ∨ (4 ≤ p ∧ p ≤ 9)) m m125 := zD9_tr tk108 kD_125
            have q134 := zcl_3 (b := mM 2) (n := mM 1 1) (a := a9) (w := zWc m) (w1 := zWc m97) (((zWc_D1 kD_97).trans ((zWc_D1 kD_67).trans rfl))) (by omega) (by rw [zWc_30]; omega)
            exact zW.fin (zfin_i rfl rfl (z_narZ rfl (by omega))) ⟨r125, m125, rfl, rfl, hIm125, (by omega), (by omega), (by intro h; exact (w_125 h).trans q134.2.2.symm), (by omega), (by omega), tk132, tk133⟩
      · refine zW.step (st1 := (53, [(some (.ref 3))], [], zk c m67)) (st2 := (53, [(some (.ref 3))], [], zk c m67)) ⟨[zo], _, rfl, ⟨zbf (fun q => b79 ((zi_eq rfl (rfl : (0 : Int32) = Int32.ofInt 0) (by unfold zR; omega) (⟨by decide, by decide⟩ : zR 0)).mp q)), trivial⟩⟩ rfl ?_
        have q135 := trivial
        refine zW.step (st1 := (54, [(some (.ref 3))], [.ref 3], zk c m67)) (st2 := (54, [(some (.ref 3))], [.ref 3], zk c m67)) ⟨[zo], _, rfl, ⟨trivial, trivial⟩⟩ rfl ?_
        obtain ⟨r136, m136, hs136, hIm136, z_136, p_136, w_136, b_136, c9_136, kN_136, kD_136⟩ := S_X4_oneClock_F zn (d + 0) hN hC (znx (mM 2) (mM 1 1) a9 + 1) m67 hIm67 (by omega) (by omega) (by omega)
        refine zW.step (st1 := (57, [(some (.ref 3))], [.int (Int32.ofInt r136)], zk c m136)) ⟨[zc (some (.int (Int32.ofInt r136))) (zk c m136)], _, rfl, ⟨⟨⟨(Nat.lt_of_lt_of_le (Nat.le_of_ble_eq_true rfl) hN), (Nat.le_of_ble_eq_true rfl)⟩, hs136, (Nat.le_of_ble_eq_true rfl), Nat.le_refl _, Nat.le_refl _, Nat.le_refl _, Nat.le_refl _⟩, trivial⟩⟩ rfl ?_
        have f137 : (0 : Int) ≤ m136 1 1 ∧ m136 1 1 ≤ 240 := hIm136.1 1 1
        have f138 : m136 1 1 = m67 1 1 := kD_136 1 1 (by omega)
        have f139 : (0 : Int) ≤ m136 1 2 ∧ m136 1 2 ≤ 240 := hIm136.1 1 2
        have f140 : (0 : Int) ≤ m136 4 3 ∧ m136 4 3 ≤ 5 := hIm136.1 4 3
        have f141 : m136 4 3 = m67 4 3 := kD_136 4 3 (by omega)
        have f142 : (0 : Int) ≤ m136 4 4 ∧ m136 4 4 ≤ 6 := hIm136.1 4 4
        have f143 : m136 4 4 = m67 4 4 := kD_136 4 4 (by omega)
        have f144 : (0 : Int) ≤ m136 8 185 ∧ m136 8 185 ≤ 10 := zr_c hIm136 zS_8
        have tk145 : zN m m136 := zN_tr tk77 kN_136
        have tk146 : zD9 (fun p i => (p = 1 ∧ (i = 2 ∨ i = 3)) ∨ (4 ≤ p ∧ p ≤ 9)) m m136 := zD9_tr tk78 (zD9_mo kD_136 (fun p i w => by have w2 : (p = 1 ∧ (i = 2 ∨ i = 3)) ∨ (8 ≤ p ∧ p ≤ 9) := w; show (p = 1 ∧ (i = 2 ∨ i = 3)) ∨ (4 ≤ p ∧ p ≤ 9); omega))
        have q147 := zcl_2 (b := mM 2) (n := mM 1 1) (a := a9) (w := zWc m) (w1 := zWc m67) (((zWc_D1 kD_67).trans rfl)) (by omega) (by rw [zWc_29]; omega)
        exact zW.fin (zfin_i rfl rfl (z_narZ rfl (by omega))) ⟨r136, m136, rfl, rfl, hIm136, (by omega), (by omega), (by intro h; exact (w_136 h).trans q147.2.2.symm), (by omega), (by omega), tk145, tk146⟩
  · refine zW.step (st1 := (11, [(some (.ref 3))], [], zk c m)) (st2 := (11, [(some (.ref 3))], [], zk c m)) ⟨[zo, zo, zo, zo, zo], _, rfl, ⟨trivial, (Nat.lt_of_lt_of_le (Nat.le_of_ble_eq_true rfl) hN), (Nat.lt_of_lt_of_le (Nat.le_of_ble_eq_true rfl) hN), trivial, zbf (fun q => b7 ((zi_le rfl rfl (⟨by decide, by decide⟩ : zR 5) (by unfold zR; omega)).mp q)), trivial⟩⟩ rfl ?_
    have q148 := ztk_f (mM 2) (mM 1 1) 114 a9
    refine zW.step (st1 := (17, [(some (.ref 3))], [.int ((Int8.ofInt 114).toInt32), .ref 1], zk c m)) (st2 := (17, [(some (.ref 3))], [.int (Int32.ofInt 114), .ref 1], zk c m)) ⟨[zo, zo, zo], _, rfl, ⟨trivial, (Nat.lt_of_lt_of_le (Nat.le_of_ble_eq_true rfl) hN), trivial, trivial⟩⟩ (z_steq rfl (z_c1 (z_vi (by decide : (Int8.ofInt 114).toInt32 = Int32.ofInt 114)) rfl) rfl) ?_
    obtain ⟨r149, m149, hs149, hIm149, z_149, p_149, b_149, kN_149, kD_149⟩ := S_X8_takes_F zn (d + 3) hN hC 114 a9 m hIm (by omega) (by omega) (by omega) (by omega)
    refine zW.step (st1 := (20, [(some (.ref 3))], [.int (Int32.ofInt r149)], zk c m149)) ⟨[zc (some (.int (Int32.ofInt r149))) (zk c m149)], _, rfl, ⟨⟨⟨(Nat.lt_of_lt_of_le (Nat.le_of_ble_eq_true rfl) hN), (Nat.le_of_ble_eq_true rfl)⟩, hs149, (Nat.le_of_ble_eq_true rfl), Nat.le_refl _, Nat.le_refl _, Nat.le_refl _, Nat.le_refl _⟩, trivial⟩⟩ rfl ?_
    have f150 : (0 : Int) ≤ m149 1 1 ∧ m149 1 1 ≤ 240 := hIm149.1 1 1
    have f151 : m149 1 1 = m 1 1 := kD_149 1 1 (by omega)
    have f152 : (0 : Int) ≤ m149 1 2 ∧ m149 1 2 ≤ 240 := hIm149.1 1 2
    have f153 : (0 : Int) ≤ m149 4 3 ∧ m149 4 3 ≤ 5 := hIm149.1 4 3
    have f154 : m149 4 3 = m 4 3 := kD_149 4 3 (by omega)
    have f155 : (0 : Int) ≤ m149 4 4 ∧ m149 4 4 ≤ 6 := hIm149.1 4 4
    have f156 : m149 4 4 = m 4 4 := kD_149 4 4 (by omega)
    have f157 : (0 : Int) ≤ m149 8 185 ∧ m149 8 185 ≤ 10 := zr_c hIm149 zS_8
    have f158 : m149 8 185 = m 8 185 := kD_149 8 185 (by omega)
    have tk159 : zN m m149 := zN_tr zN_rf kN_149
    have tk160 : zD9 (fun p i => (p = 1 ∧ (i = 2 ∨ i = 3)) ∨ (4 ≤ p ∧ p ≤ 9)) m m149 := zD9_tr zD9_rf (zD9_mo kD_149 (fun p i w => by have w2 : p = 1 ∧ (i = 2 ∨ i = 3) := w; show (p = 1 ∧ (i = 2 ∨ i = 3)) ∨ (4 ≤ p ∧ p ≤ 9); omega))
    by_cases b161 : r149 = 0
    · refine zW.step (st1 := (28, [(some (.ref 3))], [], zk c m149)) (st2 := (28, [(some (.ref 3))], [], zk c m149)) ⟨[zt], _, rfl, ⟨zbt ((zi_eq rfl (rfl : (0 : Int32) = Int32.ofInt 0) (by unfold zR; omega) (⟨by decide, by decide⟩ : zR 0)).mpr b161), trivial⟩⟩ rfl ?_
      have q162 := znx_i (b := mM 2) (n := mM 1 1) (a := a9) (by omega) (by omega)
      have q163 := congrArg (zpk (mM 2) (mM 1 1)) (znx_i (b := mM 2) (n := mM 1 1) (a := a9) (by omega) (by omega))
      by_cases b164 : 6 ≤ (m149 8 185)
      · refine zW.step (st1 := (58, [(some (.ref 3))], [], zk c m149)) (st2 := (58, [(some (.ref 3))], [], zk c m149)) ⟨[zo, zo, zo, (false, 0, none, zh0, some (.inl (0, 188, .inl (fun j => Int32.ofInt (m149 8 j))))), zo, zt], _, rfl, ⟨trivial, (Nat.lt_of_lt_of_le (Nat.le_of_ble_eq_true rfl) hN), trivial, ⟨zk_ra c m149 zA_8 (Nat.lt_of_lt_of_le (Nat.le_of_ble_eq_true rfl) hN), zi_in (by decide : (Int16.ofInt 185).toInt32 = Int32.ofInt 185) (by omega) (by omega) (by omega)⟩, trivial, zbt ((zi_le (by decide : (Int8.ofInt 6).toInt32 = Int32.ofInt 6) ((zk_rd (f := m149 8) (by decide : (Int16.ofInt 185).toInt32 = Int32.ofInt 185) (⟨by decide, by decide⟩ : zR 185)).trans rfl : Int32.ofInt (m149 8 ((Int16.ofInt 185).toInt32).toNatClampNeg) = Int32.ofInt (m149 8 185)) (⟨by decide, by decide⟩ : zR 6) (by unfold zR; omega)).mpr b164), trivial⟩⟩ rfl ?_
        have q165 := znx_i (b := mM 2) (n := mM 1 1) (a := a9) (by omega) (by omega)
        by_cases b166 : 6 ≤ (m149 4 4)
        · refine zW.step (st1 := (87, [(some (.ref 3))], [], zk c m149)) (st2 := (87, [(some (.ref 3))], [], zk c m149)) ⟨[zo, zo, zo, zo, zt], _, rfl, ⟨trivial, (Nat.lt_of_lt_of_le (Nat.le_of_ble_eq_true rfl) hN), (Nat.lt_of_lt_of_le (Nat.le_of_ble_eq_true rfl) hN), trivial, zbt ((zi_le (by decide : (Int8.ofInt 6).toInt32 = Int32.ofInt 6) rfl (⟨by decide, by decide⟩ : zR 6) (by unfold zR; omega)).mpr b166), trivial⟩⟩ rfl ?_
          have q167 := znx_i (b := mM 2) (n := mM 1 1) (a := a9) (by omega) (by omega)
          refine zW.step (st1 := (91, [(some (.ref 3))], [.ref 1], zk c m149)) (st2 := (91, [(some (.ref 3))], [.ref 1], zk c m149)) ⟨[zo, zo], _, rfl, ⟨trivial, (Nat.lt_of_lt_of_le (Nat.le_of_ble_eq_true rfl) hN), trivial⟩⟩ rfl ?_
          obtain ⟨r168, m168, hs168, hIm168, z_168, f_168, p_168, b_168, l_168, c3_168, kN_168, kD_168⟩ := S_X8_next_F zn (d + 4) hN hC (znx (mM 2) (mM 1 1) a9) m149 hIm149 (by omega) (by omega)
          refine zW.step (st1 := (94, [(some (.ref 3))], [.int (Int32.ofInt r168)], zk c m168)) ⟨[zc (some (.int (Int32.ofInt r168))) (zk c m168)], _, rfl, ⟨⟨⟨(Nat.lt_of_lt_of_le (Nat.le_of_ble_eq_true rfl) hN), (Nat.le_of_ble_eq_true rfl)⟩, hs168, (Nat.le_of_ble_eq_true rfl), Nat.le_refl _, Nat.le_refl _, Nat.le_refl _, Nat.le_refl _⟩, trivial⟩⟩ rfl ?_
          have f169 : (0 : Int) ≤ m168 1 1 ∧ m168 1 1 ≤ 240 := hIm168.1 1 1
          have f170 : m168 1 1 = m149 1 1 := kD_168 1 1 (by omega)
          have f171 : (0 : Int) ≤ m168 1 2 ∧ m168 1 2 ≤ 240 := hIm168.1 1 2
          have f172 : (0 : Int) ≤ m168 4 3 ∧ m168 4 3 ≤ 5 := hIm168.1 4 3
          have f173 : m168 4 3 = m149 4 3 := kD_168 4 3 (by omega)
          have f174 : (0 : Int) ≤ m168 4 4 ∧ m168 4 4 ≤ 6 := hIm168.1 4 4
          have f175 : m168 4 4 = m149 4 4 := kD_168 4 4 (by omega)
          have f176 : (0 : Int) ≤ m168 8 185 ∧ m168 8 185 ≤ 10 := zr_c hIm168 zS_8
          have f177 : m168 8 185 = m149 8 185 := kD_168 8 185 (by omega)
          have tk178 : zN m m168 := zN_tr tk159 kN_168
          have tk179 : zD9 (fun p i => (p = 1 ∧ (i = 2 ∨ i = 3)) ∨ (4 ≤ p ∧ p ≤ 9)) m m168 := zD9_tr tk160 (zD9_mo kD_168 (fun p i w => by have w2 : p = 1 ∧ (i = 2 ∨ i = 3) := w; show (p = 1 ∧ (i = 2 ∨ i = 3)) ∨ (4 ≤ p ∧ p ≤ 9); omega))
          have q180 := zcl_0 (b := mM 2) (n := mM 1 1) (a := a9) (w := zWc m) (by rw [zWc_28]; omega) (by rw [zWc_29]; omega) (by rw [zWc_30]; omega)
          refine zW.step (st1 := (96, [(some (.ref 3))], [.int (Int32.ofInt 0)], zk c m168)) (st2 := (96, [(some (.ref 3))], [.int (Int32.ofInt 0)], zk c m168)) ⟨[zo, zo], _, rfl, ⟨trivial, trivial, trivial⟩⟩ rfl ?_
          exact zW.fin (zfin_i rfl rfl rfl) ⟨0, m168, rfl, rfl, hIm168, (by omega), (by omega), (by intro h; exact absurd h (by decide)), (by omega), (by omega), tk178, tk179⟩
        · refine zW.step (st1 := (70, [(some (.ref 3))], [], zk c m149)) (st2 := (70, [(some (.ref 3))], [], zk c m149)) ⟨[zo, zo, zo, zo, zo], _, rfl, ⟨trivial, (Nat.lt_of_lt_of_le (Nat.le_of_ble_eq_true rfl) hN), (Nat.lt_of_lt_of_le (Nat.le_of_ble_eq_true rfl) hN), trivial, zbf (fun q => b166 ((zi_le (by decide : (Int8.ofInt 6).toInt32 = Int32.ofInt 6) rfl (⟨by decide, by decide⟩ : zR 6) (by unfold zR; omega)).mp q)), trivial⟩⟩ rfl ?_
          have q181 := ztk_f (mM 2) (mM 1 1) 112 (znx (mM 2) (mM 1 1) a9)
          refine zW.step (st1 := (76, [(some (.ref 3))], [.int ((Int8.ofInt 112).toInt32), .ref 1], zk c m149)) (st2 := (76, [(some (.ref 3))], [.int (Int32.ofInt 112), .ref 1], zk c m149)) ⟨[zo, zo, zo], _, rfl, ⟨trivial, (Nat.lt_of_lt_of_le (Nat.le_of_ble_eq_true rfl) hN), trivial, trivial⟩⟩ (z_steq rfl (z_c1 (z_vi (by decide : (Int8.ofInt 112).toInt32 = Int32.ofInt 112)) rfl) rfl) ?_
          obtain ⟨r182, m182, hs182, hIm182, z_182, p_182, b_182, kN_182, kD_182⟩ := S_X8_takes_F zn (d + 3) hN hC 112 (znx (mM 2) (mM 1 1) a9) m149 hIm149 (by omega) (by omega) (by omega) (by omega)
          refine zW.step (st1 := (79, [(some (.ref 3))], [.int (Int32.ofInt r182)], zk c m182)) ⟨[zc (some (.int (Int32.ofInt r182))) (zk c m182)], _, rfl, ⟨⟨⟨(Nat.lt_of_lt_of_le (Nat.le_of_ble_eq_true rfl) hN), (Nat.le_of_ble_eq_true rfl)⟩, hs182, (Nat.le_of_ble_eq_true rfl), Nat.le_refl _, Nat.le_refl _, Nat.le_refl _, Nat.le_refl _⟩, trivial⟩⟩ rfl ?_
          have f183 : (0 : Int) ≤ m182 1 1 ∧ m182 1 1 ≤ 240 := hIm182.1 1 1
          have f184 : m182 1 1 = m149 1 1 := kD_182 1 1 (by omega)
          have f185 : (0 : Int) ≤ m182 1 2 ∧ m182 1 2 ≤ 240 := hIm182.1 1 2
          have f186 : (0 : Int) ≤ m182 4 3 ∧ m182 4 3 ≤ 5 := hIm182.1 4 3
          have f187 : m182 4 3 = m149 4 3 := kD_182 4 3 (by omega)
          have f188 : (0 : Int) ≤ m182 4 4 ∧ m182 4 4 ≤ 6 := hIm182.1 4 4
          have f189 : m182 4 4 = m149 4 4 := kD_182 4 4 (by omega)
          have f190 : (0 : Int) ≤ m182 8 185 ∧ m182 8 185 ≤ 10 := zr_c hIm182 zS_8
          have f191 : m182 8 185 = m149 8 185 := kD_182 8 185 (by omega)
          have tk192 : zN m m182 := zN_tr tk159 kN_182
          have tk193 : zD9 (fun p i => (p = 1 ∧ (i = 2 ∨ i = 3)) ∨ (4 ≤ p ∧ p ≤ 9)) m m182 := zD9_tr tk160 (zD9_mo kD_182 (fun p i w => by have w2 : p = 1 ∧ (i = 2 ∨ i = 3) := w; show (p = 1 ∧ (i = 2 ∨ i = 3)) ∨ (4 ≤ p ∧ p ≤ 9); omega))
          by_cases b194 : r182 = 0
          · refine zW.step (st1 := (87, [(some (.ref 3))], [], zk c m182)) (st2 := (87, [(some (.ref 3))], [], zk c m182)) ⟨[zt], _, rfl, ⟨zbt ((zi_eq rfl (rfl : (0 : Int32) = Int32.ofInt 0) (by unfold zR; omega) (⟨by decide, by decide⟩ : zR 0)).mpr b194), trivial⟩⟩ rfl ?_
            have q195 := znx_i (b := mM 2) (n := mM 1 1) (a := a9) (by omega) (by omega)
            refine zW.step (st1 := (91, [(some (.ref 3))], [.ref 1], zk c m182)) (st2 := (91, [(some (.ref 3))], [.ref 1], zk c m182)) ⟨[zo, zo], _, rfl, ⟨trivial, (Nat.lt_of_lt_of_le (Nat.le_of_ble_eq_true rfl) hN), trivial⟩⟩ rfl ?_
            obtain ⟨r196, m196, hs196, hIm196, z_196, f_196, p_196, b_196, l_196, c3_196, kN_196, kD_196⟩ := S_X8_next_F zn (d + 4) hN hC (znx (mM 2) (mM 1 1) a9) m182 hIm182 (by omega) (by omega)
            refine zW.step (st1 := (94, [(some (.ref 3))], [.int (Int32.ofInt r196)], zk c m196)) ⟨[zc (some (.int (Int32.ofInt r196))) (zk c m196)], _, rfl, ⟨⟨⟨(Nat.lt_of_lt_of_le (Nat.le_of_ble_eq_true rfl) hN), (Nat.le_of_ble_eq_true rfl)⟩, hs196, (Nat.le_of_ble_eq_true rfl), Nat.le_refl _, Nat.le_refl _, Nat.le_refl _, Nat.le_refl _⟩, trivial⟩⟩ rfl ?_
            have f197 : (0 : Int) ≤ m196 1 1 ∧ m196 1 1 ≤ 240 := hIm196.1 1 1
            have f198 : m196 1 1 = m182 1 1 := kD_196 1 1 (by omega)
            have f199 : (0 : Int) ≤ m196 1 2 ∧ m196 1 2 ≤ 240 := hIm196.1 1 2
            have f200 : (0 : Int) ≤ m196 4 3 ∧ m196 4 3 ≤ 5 := hIm196.1 4 3
            have f201 : m196 4 3 = m182 4 3 := kD_196 4 3 (by omega)
            have f202 : (0 : Int) ≤ m196 4 4 ∧ m196 4 4 ≤ 6 := hIm196.1 4 4
            have f203 : m196 4 4 = m182 4 4 := kD_196 4 4 (by omega)
            have f204 : (0 : Int) ≤ m196 8 185 ∧ m196 8 185 ≤ 10 := zr_c hIm196 zS_8
            have f205 : m196 8 185 = m182 8 185 := kD_196 8 185 (by omega)
            have tk206 : zN m m196 := zN_tr tk192 kN_196
            have tk207 : zD9 (fun p i => (p = 1 ∧ (i = 2 ∨ i = 3)) ∨ (4 ≤ p ∧ p ≤ 9)) m m196 := zD9_tr tk193 (zD9_mo kD_196 (fun p i w => by have w2 : p = 1 ∧ (i = 2 ∨ i = 3) := w; show (p = 1 ∧ (i = 2 ∨ i = 3)) ∨ (4 ≤ p ∧ p ≤ 9); omega))
            have q208 := zcl_0 (b := mM 2) (n := mM 1 1) (a := a9) (w := zWc m) (by rw [zWc_28]; omega) (by rw [zWc_29]; omega) (by rw [zWc_30]; omega)
            refine zW.step (st1 := (96, [(some (.ref 3))], [.int (Int32.ofInt 0)], zk c m196)) (st2 := (96, [(some (.ref 3))], [.int (Int32.ofInt 0)], zk c m196)) ⟨[zo, zo], _, rfl, ⟨trivial, trivial, trivial⟩⟩ rfl ?_
            exact zW.fin (zfin_i rfl rfl rfl) ⟨0, m196, rfl, rfl, hIm196, (by omega), (by omega), (by intro h; exact absurd h (by decide)), (by omega), (by omega), tk206, tk207⟩
          · refine zW.step (st1 := (82, [(some (.ref 3))], [], zk c m182)) (st2 := (82, [(some (.ref 3))], [], zk c m182)) ⟨[zo], _, rfl, ⟨zbf (fun q => b194 ((zi_eq rfl (rfl : (0 : Int32) = Int32.ofInt 0) (by unfold zR; omega) (⟨by decide, by decide⟩ : zR 0)).mp q)), trivial⟩⟩ rfl ?_
            have q209 := trivial
            refine zW.step (st1 := (83, [(some (.ref 3))], [.ref 3], zk c m182)) (st2 := (83, [(some (.ref 3))], [.ref 3], zk c m182)) ⟨[zo], _, rfl, ⟨trivial, trivial⟩⟩ rfl ?_
            obtain ⟨r210, m210, hs210, hIm210, z_210, p_210, w_210, b_210, c9_210, kN_210, kD_210⟩ := S_X4_onePerson_F zn (d + 0) hN hC (znx (mM 2) (mM 1 1) a9 + 1) m182 hIm182 (by omega) (by omega) (by omega)
            refine zW.step (st1 := (86, [(some (.ref 3))], [.int (Int32.ofInt r210)], zk c m210)) ⟨[zc (some (.int (Int32.ofInt r210))) (zk c m210)], _, rfl, ⟨⟨⟨(Nat.lt_of_lt_of_le (Nat.le_of_ble_eq_true rfl) hN), (Nat.le_of_ble_eq_true rfl)⟩, hs210, (Nat.le_of_ble_eq_true rfl), Nat.le_refl _, Nat.le_refl _, Nat.le_refl _, Nat.le_refl _⟩, trivial⟩⟩ rfl ?_
            have f211 : (0 : Int) ≤ m210 1 1 ∧ m210 1 1 ≤ 240 := hIm210.1 1 1
            have f212 : m210 1 1 = m182 1 1 := kD_210 1 1 (by omega)
            have f213 : (0 : Int) ≤ m210 1 2 ∧ m210 1 2 ≤ 240 := hIm210.1 1 2
            have f214 : (0 : Int) ≤ m210 4 3 ∧ m210 4 3 ≤ 5 := hIm210.1 4 3
            have f215 : (0 : Int) ≤ m210 4 4 ∧ m210 4 4 ≤ 6 := hIm210.1 4 4
            have f216 : (0 : Int) ≤ m210 8 185 ∧ m210 8 185 ≤ 10 := zr_c hIm210 zS_8
            have tk217 : zN m m210 := zN_tr tk192 kN_210
            have tk218 : zD9 (fun p i => (p = 1 ∧ (i = 2 ∨ i = 3)) ∨ (4 ≤ p ∧ p ≤ 9)) m m210 := zD9_tr tk193 kD_210
            have q219 := zcl_3 (b := mM 2) (n := mM 1 1) (a := a9) (w := zWc m) (w1 := zWc m182) (((zWc_D1 kD_182).trans ((zWc_D1 kD_149).trans rfl))) (by omega) (by rw [zWc_30]; omega)
            exact zW.fin (zfin_i rfl rfl (z_narZ rfl (by omega))) ⟨r210, m210, rfl, rfl, hIm210, (by omega), (by omega), (by intro h; exact (w_210 h).trans q219.2.2.symm), (by omega), (by omega), tk217, tk218⟩
      · refine zW.step (st1 := (41, [(some (.ref 3))], [], zk c m149)) (st2 := (41, [(some (.ref 3))], [], zk c m149)) ⟨[zo, zo, zo, (false, 0, none, zh0, some (.inl (0, 188, .inl (fun j => Int32.ofInt (m149 8 j))))), zo, zo], _, rfl, ⟨trivial, (Nat.lt_of_lt_of_le (Nat.le_of_ble_eq_true rfl) hN), trivial, ⟨zk_ra c m149 zA_8 (Nat.lt_of_lt_of_le (Nat.le_of_ble_eq_true rfl) hN), zi_in (by decide : (Int16.ofInt 185).toInt32 = Int32.ofInt 185) (by omega) (by omega) (by omega)⟩, trivial, zbf (fun q => b164 ((zi_le (by decide : (Int8.ofInt 6).toInt32 = Int32.ofInt 6) ((zk_rd (f := m149 8) (by decide : (Int16.ofInt 185).toInt32 = Int32.ofInt 185) (⟨by decide, by decide⟩ : zR 185)).trans rfl : Int32.ofInt (m149 8 ((Int16.ofInt 185).toInt32).toNatClampNeg) = Int32.ofInt (m149 8 185)) (⟨by decide, by decide⟩ : zR 6) (by unfold zR; omega)).mp q)), trivial⟩⟩ rfl ?_
        have q220 := ztk_f (mM 2) (mM 1 1) 99 (znx (mM 2) (mM 1 1) a9)
        refine zW.step (st1 := (47, [(some (.ref 3))], [.int ((Int8.ofInt 99).toInt32), .ref 1], zk c m149)) (st2 := (47, [(some (.ref 3))], [.int (Int32.ofInt 99), .ref 1], zk c m149)) ⟨[zo, zo, zo], _, rfl, ⟨trivial, (Nat.lt_of_lt_of_le (Nat.le_of_ble_eq_true rfl) hN), trivial, trivial⟩⟩ (z_steq rfl (z_c1 (z_vi (by decide : (Int8.ofInt 99).toInt32 = Int32.ofInt 99)) rfl) rfl) ?_
        obtain ⟨r221, m221, hs221, hIm221, z_221, p_221, b_221, kN_221, kD_221⟩ := S_X8_takes_F zn (d + 3) hN hC 99 (znx (mM 2) (mM 1 1) a9) m149 hIm149 (by omega) (by omega) (by omega) (by omega)
        refine zW.step (st1 := (50, [(some (.ref 3))], [.int (Int32.ofInt r221)], zk c m221)) ⟨[zc (some (.int (Int32.ofInt r221))) (zk c m221)], _, rfl, ⟨⟨⟨(Nat.lt_of_lt_of_le (Nat.le_of_ble_eq_true rfl) hN), (Nat.le_of_ble_eq_true rfl)⟩, hs221, (Nat.le_of_ble_eq_true rfl), Nat.le_refl _, Nat.le_refl _, Nat.le_refl _, Nat.le_refl _⟩, trivial⟩⟩ rfl ?_
        have f222 : (0 : Int) ≤ m221 1 1 ∧ m221 1 1 ≤ 240 := hIm221.1 1 1
        have f223 : m221 1 1 = m149 1 1 := kD_221 1 1 (by omega)
        have f224 : (0 : Int) ≤ m221 1 2 ∧ m221 1 2 ≤ 240 := hIm221.1 1 2
        have f225 : (0 : Int) ≤ m221 4 3 ∧ m221 4 3 ≤ 5 := hIm221.1 4 3
        have f226 : m221 4 3 = m149 4 3 := kD_221 4 3 (by omega)
        have f227 : (0 : Int) ≤ m221 4 4 ∧ m221 4 4 ≤ 6 := hIm221.1 4 4
        have f228 : m221 4 4 = m149 4 4 := kD_221 4 4 (by omega)
        have f229 : (0 : Int) ≤ m221 8 185 ∧ m221 8 185 ≤ 10 := zr_c hIm221 zS_8
        have f230 : m221 8 185 = m149 8 185 := kD_221 8 185 (by omega)
        have tk231 : zN m m221 := zN_tr tk159 kN_221
        have tk232 : zD9 (fun p i => (p = 1 ∧ (i = 2 ∨ i = 3)) ∨ (4 ≤ p ∧ p ≤ 9)) m m221 := zD9_tr tk160 (zD9_mo kD_221 (fun p i w => by have w2 : p = 1 ∧ (i = 2 ∨ i = 3) := w; show (p = 1 ∧ (i = 2 ∨ i = 3)) ∨ (4 ≤ p ∧ p ≤ 9); omega))
        by_cases b233 : r221 = 0
        · refine zW.step (st1 := (58, [(some (.ref 3))], [], zk c m221)) (st2 := (58, [(some (.ref 3))], [], zk c m221)) ⟨[zt], _, rfl, ⟨zbt ((zi_eq rfl (rfl : (0 : Int32) = Int32.ofInt 0) (by unfold zR; omega) (⟨by decide, by decide⟩ : zR 0)).mpr b233), trivial⟩⟩ rfl ?_
          have q234 := znx_i (b := mM 2) (n := mM 1 1) (a := a9) (by omega) (by omega)
          by_cases b235 : 6 ≤ (m221 4 4)
          · refine zW.step (st1 := (87, [(some (.ref 3))], [], zk c m221)) (st2 := (87, [(some (.ref 3))], [], zk c m221)) ⟨[zo, zo, zo, zo, zt], _, rfl, ⟨trivial, (Nat.lt_of_lt_of_le (Nat.le_of_ble_eq_true rfl) hN), (Nat.lt_of_lt_of_le (Nat.le_of_ble_eq_true rfl) hN), trivial, zbt ((zi_le (by decide : (Int8.ofInt 6).toInt32 = Int32.ofInt 6) rfl (⟨by decide, by decide⟩ : zR 6) (by unfold zR; omega)).mpr b235), trivial⟩⟩ rfl ?_
            have q236 := znx_i (b := mM 2) (n := mM 1 1) (a := a9) (by omega) (by omega)
            refine zW.step (st1 := (91, [(some (.ref 3))], [.ref 1], zk c m221)) (st2 := (91, [(some (.ref 3))], [.ref 1], zk c m221)) ⟨[zo, zo], _, rfl, ⟨trivial, (Nat.lt_of_lt_of_le (Nat.le_of_ble_eq_true rfl) hN), trivial⟩⟩ rfl ?_
            obtain ⟨r237, m237, hs237, hIm237, z_237, f_237, p_237, b_237, l_237, c3_237, kN_237, kD_237⟩ := S_X8_next_F zn (d + 4) hN hC (znx (mM 2) (mM 1 1) a9) m221 hIm221 (by omega) (by omega)
            refine zW.step (st1 := (94, [(some (.ref 3))], [.int (Int32.ofInt r237)], zk c m237)) ⟨[zc (some (.int (Int32.ofInt r237))) (zk c m237)], _, rfl, ⟨⟨⟨(Nat.lt_of_lt_of_le (Nat.le_of_ble_eq_true rfl) hN), (Nat.le_of_ble_eq_true rfl)⟩, hs237, (Nat.le_of_ble_eq_true rfl), Nat.le_refl _, Nat.le_refl _, Nat.le_refl _, Nat.le_refl _⟩, trivial⟩⟩ rfl ?_
            have f238 : (0 : Int) ≤ m237 1 1 ∧ m237 1 1 ≤ 240 := hIm237.1 1 1
            have f239 : m237 1 1 = m221 1 1 := kD_237 1 1 (by omega)
            have f240 : (0 : Int) ≤ m237 1 2 ∧ m237 1 2 ≤ 240 := hIm237.1 1 2
            have f241 : (0 : Int) ≤ m237 4 3 ∧ m237 4 3 ≤ 5 := hIm237.1 4 3
            have f242 : m237 4 3 = m221 4 3 := kD_237 4 3 (by omega)
            have f243 : (0 : Int) ≤ m237 4 4 ∧ m237 4 4 ≤ 6 := hIm237.1 4 4
            have f244 : m237 4 4 = m221 4 4 := kD_237 4 4 (by omega)
            have f245 : (0 : Int) ≤ m237 8 185 ∧ m237 8 185 ≤ 10 := zr_c hIm237 zS_8
            have f246 : m237 8 185 = m221 8 185 := kD_237 8 185 (by omega)
            have tk247 : zN m m237 := zN_tr tk231 kN_237
            have tk248 : zD9 (fun p i => (p = 1 ∧ (i = 2 ∨ i = 3)) ∨ (4 ≤ p ∧ p ≤ 9)) m m237 := zD9_tr tk232 (zD9_mo kD_237 (fun p i w => by have w2 : p = 1 ∧ (i = 2 ∨ i = 3) := w; show (p = 1 ∧ (i = 2 ∨ i = 3)) ∨ (4 ≤ p ∧ p ≤ 9); omega))
            have q249 := zcl_0 (b := mM 2) (n := mM 1 1) (a := a9) (w := zWc m) (by rw [zWc_28]; omega) (by rw [zWc_29]; omega) (by rw [zWc_30]; omega)
            refine zW.step (st1 := (96, [(some (.ref 3))], [.int (Int32.ofInt 0)], zk c m237)) (st2 := (96, [(some (.ref 3))], [.int (Int32.ofInt 0)], zk c m237)) ⟨[zo, zo], _, rfl, ⟨trivial, trivial, trivial⟩⟩ rfl ?_
            exact zW.fin (zfin_i rfl rfl rfl) ⟨0, m237, rfl, rfl, hIm237, (by omega), (by omega), (by intro h; exact absurd h (by decide)), (by omega), (by omega), tk247, tk248⟩
          · refine zW.step (st1 := (70, [(some (.ref 3))], [], zk c m221)) (st2 := (70, [(some (.ref 3))], [], zk c m221)) ⟨[zo, zo, zo, zo, zo], _, rfl, ⟨trivial, (Nat.lt_of_lt_of_le (Nat.le_of_ble_eq_true rfl) hN), (Nat.lt_of_lt_of_le (Nat.le_of_ble_eq_true rfl) hN), trivial, zbf (fun q => b235 ((zi_le (by decide : (Int8.ofInt 6).toInt32 = Int32.ofInt 6) rfl (⟨by decide, by decide⟩ : zR 6) (by unfold zR; omega)).mp q)), trivial⟩⟩ rfl ?_
            have q250 := ztk_f (mM 2) (mM 1 1) 112 (znx (mM 2) (mM 1 1) a9)
            refine zW.step (st1 := (76, [(some (.ref 3))], [.int ((Int8.ofInt 112).toInt32), .ref 1], zk c m221)) (st2 := (76, [(some (.ref 3))], [.int (Int32.ofInt 112), .ref 1], zk c m221)) ⟨[zo, zo, zo], _, rfl, ⟨trivial, (Nat.lt_of_lt_of_le (Nat.le_of_ble_eq_true rfl) hN), trivial, trivial⟩⟩ (z_steq rfl (z_c1 (z_vi (by decide : (Int8.ofInt 112).toInt32 = Int32.ofInt 112)) rfl) rfl) ?_
            obtain ⟨r251, m251, hs251, hIm251, z_251, p_251, b_251, kN_251, kD_251⟩ := S_X8_takes_F zn (d + 3) hN hC 112 (znx (mM 2) (mM 1 1) a9) m221 hIm221 (by omega) (by omega) (by omega) (by omega)
            refine zW.step (st1 := (79, [(some (.ref 3))], [.int (Int32.ofInt r251)], zk c m251)) ⟨[zc (some (.int (Int32.ofInt r251))) (zk c m251)], _, rfl, ⟨⟨⟨(Nat.lt_of_lt_of_le (Nat.le_of_ble_eq_true rfl) hN), (Nat.le_of_ble_eq_true rfl)⟩, hs251, (Nat.le_of_ble_eq_true rfl), Nat.le_refl _, Nat.le_refl _, Nat.le_refl _, Nat.le_refl _⟩, trivial⟩⟩ rfl ?_
            have f252 : (0 : Int) ≤ m251 1 1 ∧ m251 1 1 ≤ 240 := hIm251.1 1 1
            have f253 : m251 1 1 = m221 1 1 := kD_251 1 1 (by omega)
            have f254 : (0 : Int) ≤ m251 1 2 ∧ m251 1 2 ≤ 240 := hIm251.1 1 2
            have f255 : (0 : Int) ≤ m251 4 3 ∧ m251 4 3 ≤ 5 := hIm251.1 4 3
            have f256 : m251 4 3 = m221 4 3 := kD_251 4 3 (by omega)
            have f257 : (0 : Int) ≤ m251 4 4 ∧ m251 4 4 ≤ 6 := hIm251.1 4 4
            have f258 : m251 4 4 = m221 4 4 := kD_251 4 4 (by omega)
            have f259 : (0 : Int) ≤ m251 8 185 ∧ m251 8 185 ≤ 10 := zr_c hIm251 zS_8
            have f260 : m251 8 185 = m221 8 185 := kD_251 8 185 (by omega)
            have tk261 : zN m m251 := zN_tr tk231 kN_251
            have tk262 : zD9 (fun p i => (p = 1 ∧ (i = 2 ∨ i = 3)) ∨ (4 ≤ p ∧ p ≤ 9)) m m251 := zD9_tr tk232 (zD9_mo kD_251 (fun p i w => by have w2 : p = 1 ∧ (i = 2 ∨ i = 3) := w; show (p = 1 ∧ (i = 2 ∨ i = 3)) ∨ (4 ≤ p ∧ p ≤ 9); omega))
            by_cases b263 : r251 = 0
            · refine zW.step (st1 := (87, [(some (.ref 3))], [], zk c m251)) (st2 := (87, [(some (.ref 3))], [], zk c m251)) ⟨[zt], _, rfl, ⟨zbt ((zi_eq rfl (rfl : (0 : Int32) = Int32.ofInt 0) (by unfold zR; omega) (⟨by decide, by decide⟩ : zR 0)).mpr b263), trivial⟩⟩ rfl ?_
              have q264 := znx_i (b := mM 2) (n := mM 1 1) (a := a9) (by omega) (by omega)
              refine zW.step (st1 := (91, [(some (.ref 3))], [.ref 1], zk c m251)) (st2 := (91, [(some (.ref 3))], [.ref 1], zk c m251)) ⟨[zo, zo], _, rfl, ⟨trivial, (Nat.lt_of_lt_of_le (Nat.le_of_ble_eq_true rfl) hN), trivial⟩⟩ rfl ?_
              obtain ⟨r265, m265, hs265, hIm265, z_265, f_265, p_265, b_265, l_265, c3_265, kN_265, kD_265⟩ := S_X8_next_F zn (d + 4) hN hC (znx (mM 2) (mM 1 1) a9) m251 hIm251 (by omega) (by omega)
              refine zW.step (st1 := (94, [(some (.ref 3))], [.int (Int32.ofInt r265)], zk c m265)) ⟨[zc (some (.int (Int32.ofInt r265))) (zk c m265)], _, rfl, ⟨⟨⟨(Nat.lt_of_lt_of_le (Nat.le_of_ble_eq_true rfl) hN), (Nat.le_of_ble_eq_true rfl)⟩, hs265, (Nat.le_of_ble_eq_true rfl), Nat.le_refl _, Nat.le_refl _, Nat.le_refl _, Nat.le_refl _⟩, trivial⟩⟩ rfl ?_
              have f266 : (0 : Int) ≤ m265 1 1 ∧ m265 1 1 ≤ 240 := hIm265.1 1 1
              have f267 : m265 1 1 = m251 1 1 := kD_265 1 1 (by omega)
              have f268 : (0 : Int) ≤ m265 1 2 ∧ m265 1 2 ≤ 240 := hIm265.1 1 2
              have f269 : (0 : Int) ≤ m265 4 3 ∧ m265 4 3 ≤ 5 := hIm265.1 4 3
              have f270 : m265 4 3 = m251 4 3 := kD_265 4 3 (by omega)
              have f271 : (0 : Int) ≤ m265 4 4 ∧ m265 4 4 ≤ 6 := hIm265.1 4 4
              have f272 : m265 4 4 = m251 4 4 := kD_265 4 4 (by omega)
              have f273 : (0 : Int) ≤ m265 8 185 ∧ m265 8 185 ≤ 10 := zr_c hIm265 zS_8
              have f274 : m265 8 185 = m251 8 185 := kD_265 8 185 (by omega)
              have tk275 : zN m m265 := zN_tr tk261 kN_265
              have tk276 : zD9 (fun p i => (p = 1 ∧ (i = 2 ∨ i = 3)) ∨ (4 ≤ p ∧ p ≤ 9)) m m265 := zD9_tr tk262 (zD9_mo kD_265 (fun p i w => by have w2 : p = 1 ∧ (i = 2 ∨ i = 3) := w; show (p = 1 ∧ (i = 2 ∨ i = 3)) ∨ (4 ≤ p ∧ p ≤ 9); omega))
              have q277 := zcl_0 (b := mM 2) (n := mM 1 1) (a := a9) (w := zWc m) (by rw [zWc_28]; omega) (by rw [zWc_29]; omega) (by rw [zWc_30]; omega)
              refine zW.step (st1 := (96, [(some (.ref 3))], [.int (Int32.ofInt 0)], zk c m265)) (st2 := (96, [(some (.ref 3))], [.int (Int32.ofInt 0)], zk c m265)) ⟨[zo, zo], _, rfl, ⟨trivial, trivial, trivial⟩⟩ rfl ?_
              exact zW.fin (zfin_i rfl rfl rfl) ⟨0, m265, rfl, rfl, hIm265, (by omega), (by omega), (by intro h; exact absurd h (by decide)), (by omega), (by omega), tk275, tk276⟩
            · refine zW.step (st1 := (82, [(some (.ref 3))], [], zk c m251)) (st2 := (82, [(some (.ref 3))], [], zk c m251)) ⟨[zo], _, rfl, ⟨zbf (fun q => b263 ((zi_eq rfl (rfl : (0 : Int32) = Int32.ofInt 0) (by unfold zR; omega) (⟨by decide, by decide⟩ : zR 0)).mp q)), trivial⟩⟩ rfl ?_
              have q278 := trivial
              refine zW.step (st1 := (83, [(some (.ref 3))], [.ref 3], zk c m251)) (st2 := (83, [(some (.ref 3))], [.ref 3], zk c m251)) ⟨[zo], _, rfl, ⟨trivial, trivial⟩⟩ rfl ?_
              obtain ⟨r279, m279, hs279, hIm279, z_279, p_279, w_279, b_279, c9_279, kN_279, kD_279⟩ := S_X4_onePerson_F zn (d + 0) hN hC (znx (mM 2) (mM 1 1) a9 + 1) m251 hIm251 (by omega) (by omega) (by omega)
              refine zW.step (st1 := (86, [(some (.ref 3))], [.int (Int32.ofInt r279)], zk c m279)) ⟨[zc (some (.int (Int32.ofInt r279))) (zk c m279)], _, rfl, ⟨⟨⟨(Nat.lt_of_lt_of_le (Nat.le_of_ble_eq_true rfl) hN), (Nat.le_of_ble_eq_true rfl)⟩, hs279, (Nat.le_of_ble_eq_true rfl), Nat.le_refl _, Nat.le_refl _, Nat.le_refl _, Nat.le_refl _⟩, trivial⟩⟩ rfl ?_
              have f280 : (0 : Int) ≤ m279 1 1 ∧ m279 1 1 ≤ 240 := hIm279.1 1 1
              have f281 : m279 1 1 = m251 1 1 := kD_279 1 1 (by omega)
              have f282 : (0 : Int) ≤ m279 1 2 ∧ m279 1 2 ≤ 240 := hIm279.1 1 2
              have f283 : (0 : Int) ≤ m279 4 3 ∧ m279 4 3 ≤ 5 := hIm279.1 4 3
              have f284 : (0 : Int) ≤ m279 4 4 ∧ m279 4 4 ≤ 6 := hIm279.1 4 4
              have f285 : (0 : Int) ≤ m279 8 185 ∧ m279 8 185 ≤ 10 := zr_c hIm279 zS_8
              have tk286 : zN m m279 := zN_tr tk261 kN_279
              have tk287 : zD9 (fun p i => (p = 1 ∧ (i = 2 ∨ i = 3)) ∨ (4 ≤ p ∧ p ≤ 9)) m m279 := zD9_tr tk262 kD_279
              have q288 := zcl_3 (b := mM 2) (n := mM 1 1) (a := a9) (w := zWc m) (w1 := zWc m251) (((zWc_D1 kD_251).trans ((zWc_D1 kD_221).trans ((zWc_D1 kD_149).trans rfl)))) (by omega) (by rw [zWc_30]; omega)
              exact zW.fin (zfin_i rfl rfl (z_narZ rfl (by omega))) ⟨r279, m279, rfl, rfl, hIm279, (by omega), (by omega), (by intro h; exact (w_279 h).trans q288.2.2.symm), (by omega), (by omega), tk286, tk287⟩
        · refine zW.step (st1 := (53, [(some (.ref 3))], [], zk c m221)) (st2 := (53, [(some (.ref 3))], [], zk c m221)) ⟨[zo], _, rfl, ⟨zbf (fun q => b233 ((zi_eq rfl (rfl : (0 : Int32) = Int32.ofInt 0) (by unfold zR; omega) (⟨by decide, by decide⟩ : zR 0)).mp q)), trivial⟩⟩ rfl ?_
          have q289 := trivial
          refine zW.step (st1 := (54, [(some (.ref 3))], [.ref 3], zk c m221)) (st2 := (54, [(some (.ref 3))], [.ref 3], zk c m221)) ⟨[zo], _, rfl, ⟨trivial, trivial⟩⟩ rfl ?_
          obtain ⟨r290, m290, hs290, hIm290, z_290, p_290, w_290, b_290, c9_290, kN_290, kD_290⟩ := S_X4_oneClock_F zn (d + 0) hN hC (znx (mM 2) (mM 1 1) a9 + 1) m221 hIm221 (by omega) (by omega) (by omega)
          refine zW.step (st1 := (57, [(some (.ref 3))], [.int (Int32.ofInt r290)], zk c m290)) ⟨[zc (some (.int (Int32.ofInt r290))) (zk c m290)], _, rfl, ⟨⟨⟨(Nat.lt_of_lt_of_le (Nat.le_of_ble_eq_true rfl) hN), (Nat.le_of_ble_eq_true rfl)⟩, hs290, (Nat.le_of_ble_eq_true rfl), Nat.le_refl _, Nat.le_refl _, Nat.le_refl _, Nat.le_refl _⟩, trivial⟩⟩ rfl ?_
          have f291 : (0 : Int) ≤ m290 1 1 ∧ m290 1 1 ≤ 240 := hIm290.1 1 1
          have f292 : m290 1 1 = m221 1 1 := kD_290 1 1 (by omega)
          have f293 : (0 : Int) ≤ m290 1 2 ∧ m290 1 2 ≤ 240 := hIm290.1 1 2
          have f294 : (0 : Int) ≤ m290 4 3 ∧ m290 4 3 ≤ 5 := hIm290.1 4 3
          have f295 : m290 4 3 = m221 4 3 := kD_290 4 3 (by omega)
          have f296 : (0 : Int) ≤ m290 4 4 ∧ m290 4 4 ≤ 6 := hIm290.1 4 4
          have f297 : m290 4 4 = m221 4 4 := kD_290 4 4 (by omega)
          have f298 : (0 : Int) ≤ m290 8 185 ∧ m290 8 185 ≤ 10 := zr_c hIm290 zS_8
          have tk299 : zN m m290 := zN_tr tk231 kN_290
          have tk300 : zD9 (fun p i => (p = 1 ∧ (i = 2 ∨ i = 3)) ∨ (4 ≤ p ∧ p ≤ 9)) m m290 := zD9_tr tk232 (zD9_mo kD_290 (fun p i w => by have w2 : (p = 1 ∧ (i = 2 ∨ i = 3)) ∨ (8 ≤ p ∧ p ≤ 9) := w; show (p = 1 ∧ (i = 2 ∨ i = 3)) ∨ (4 ≤ p ∧ p ≤ 9); omega))
          have q301 := zcl_2 (b := mM 2) (n := mM 1 1) (a := a9) (w := zWc m) (w1 := zWc m221) (((zWc_D1 kD_221).trans ((zWc_D1 kD_149).trans rfl))) (by omega) (by rw [zWc_29]; omega)
          exact zW.fin (zfin_i rfl rfl (z_narZ rfl (by omega))) ⟨r290, m290, rfl, rfl, hIm290, (by omega), (by omega), (by intro h; exact (w_290 h).trans q301.2.2.symm), (by omega), (by omega), tk299, tk300⟩
    · refine zW.step (st1 := (23, [(some (.ref 3))], [], zk c m149)) (st2 := (23, [(some (.ref 3))], [], zk c m149)) ⟨[zo], _, rfl, ⟨zbf (fun q => b161 ((zi_eq rfl (rfl : (0 : Int32) = Int32.ofInt 0) (by unfold zR; omega) (⟨by decide, by decide⟩ : zR 0)).mp q)), trivial⟩⟩ rfl ?_
      have q302 := trivial
      refine zW.step (st1 := (24, [(some (.ref 3))], [.ref 3], zk c m149)) (st2 := (24, [(some (.ref 3))], [.ref 3], zk c m149)) ⟨[zo], _, rfl, ⟨trivial, trivial⟩⟩ rfl ?_
      obtain ⟨r303, m303, hs303, hIm303, z_303, p_303, w_303, b_303, c9_303, kN_303, kD_303⟩ := S_X4_room_F zn (d + 0) hN hC (znx (mM 2) (mM 1 1) a9 + 1) m149 hIm149 (by omega) (by omega) (by omega)
      refine zW.step (st1 := (27, [(some (.ref 3))], [.int (Int32.ofInt r303)], zk c m303)) ⟨[zc (some (.int (Int32.ofInt r303))) (zk c m303)], _, rfl, ⟨⟨⟨(Nat.lt_of_lt_of_le (Nat.le_of_ble_eq_true rfl) hN), (Nat.le_of_ble_eq_true rfl)⟩, hs303, (Nat.le_of_ble_eq_true rfl), Nat.le_refl _, Nat.le_refl _, Nat.le_refl _, Nat.le_refl _⟩, trivial⟩⟩ rfl ?_
      have f304 : (0 : Int) ≤ m303 1 1 ∧ m303 1 1 ≤ 240 := hIm303.1 1 1
      have f305 : m303 1 1 = m149 1 1 := kD_303 1 1 (by omega)
      have f306 : (0 : Int) ≤ m303 1 2 ∧ m303 1 2 ≤ 240 := hIm303.1 1 2
      have f307 : (0 : Int) ≤ m303 4 3 ∧ m303 4 3 ≤ 5 := hIm303.1 4 3
      have f308 : (0 : Int) ≤ m303 4 4 ∧ m303 4 4 ≤ 6 := hIm303.1 4 4
      have f309 : (0 : Int) ≤ m303 8 185 ∧ m303 8 185 ≤ 10 := zr_c hIm303 zS_8
      have tk310 : zN m m303 := zN_tr tk159 kN_303
      have tk311 : zD9 (fun p i => (p = 1 ∧ (i = 2 ∨ i = 3)) ∨ (4 ≤ p ∧ p ≤ 9)) m m303 := zD9_tr tk160 kD_303
      have q312 := zcl_1 (b := mM 2) (n := mM 1 1) (a := a9) (w := zWc m) (w1 := zWc m149) (((zWc_D1 kD_149).trans rfl)) (by omega) (by rw [zWc_28]; omega)
      exact zW.fin (zfin_i rfl rfl (z_narZ rfl (by omega))) ⟨r303, m303, rfl, rfl, hIm303, (by omega), (by omega), (by intro h; exact (w_303 h).trans q312.2.2.symm), (by omega), (by omega), tk310, tk311⟩

