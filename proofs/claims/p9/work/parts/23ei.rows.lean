/-! texts, by program (wip/tools/gw5): X4_read_F -/
set_option maxRecDepth 100000 in
set_option maxHeartbeats 4000000 in
theorem L_X4_read_F_34 (zn : Bool) (d : Nat) {c : Nat × Nat} {mM : zM} (hN : 107 ≤ c.1) (hC : c.1 < z_RO) (t9 : Int) (ht : 0 ≤ t9 ∧ t9 ≤ 999999000) (m0 : zM) (Q : Option Value → z_H → Prop) (KR : ∀ v h1, (fun v h1 => ∃ (r : Int) (m1 : zM), v = some (.int (Int32.ofInt r)) ∧ h1 = zk c m1 ∧ zI c mM m1 ∧ (-2147483648 ≤ r ∧ r ≤ 2147483647) ∧ (zhf (mM 2) (mM 1 1) r) ∧ (r = -1 → zWc m1 = (zhs (mM 2) (mM 1 1)).2.2) ∧ zD9 (fun p i => (p = 1 ∧ (i = 2 ∨ i = 3)) ∨ (4 ≤ p ∧ p ≤ 9)) m0 m1 ∧ zH (t9) m1) v h1 → Q v h1) :
    ∀ (w : Nat) (x1 : Int) (m : zM), zI c mM m → 0 ≤ x1 ∧ x1 ≤ 240 → 0 ≤ m 1 2 ∧ m 1 2 ≤ mM 1 1 ∧ 2 * x1 ≤ m 1 2 → m 8 185 ≤ 6 → zhs (mM 2) (mM 1 1) = zcs (mM 2) (mM 1 1) (241 - x1).toNat (m 1 2) (zWc m) → zD9 (fun p i => (p = 1 ∧ (i = 2 ∨ i = 3)) ∨ (4 ≤ p ∧ p ≤ 9)) m0 m → zH (t9) m → w = (240 - x1).toNat → zW zn (d + 7) 79 c (34, [(some (.ref 3)), (some (.int (Int32.ofInt x1)))], [], zk c m) Q := by
  intro w
  induction w using Nat.strongRecOn with | _ w ih => ?_
  intro x1 m hIm i1 jb jn J tD tH hw
  have f1 : (0 : Int) ≤ m 1 1 ∧ m 1 1 ≤ 240 := hIm.1 1 1
  have f2 : (0 : Int) ≤ m 1 2 ∧ m 1 2 ≤ 240 := hIm.1 1 2
  have f3 : (0 : Int) ≤ m 4 3 ∧ m 4 3 ≤ 5 := hIm.1 4 3
  have f4 : (0 : Int) ≤ m 4 4 ∧ m 4 4 ≤ 6 := hIm.1 4 4
  have f5 : (0 : Int) ≤ m 8 185 ∧ m 8 185 ≤ 10 := zr_c hIm zS_8
  have q6 := zn_c hIm
  have b7 : ¬ (240 ≤ x1) := by omega
  refine zW.step (st1 := (41, [(some (.ref 3)), (some (.int (Int32.ofInt x1)))], [], zk c m)) (st2 := (41, [(some (.ref 3)), (some (.int (Int32.ofInt x1)))], [], zk c m)) ⟨[zo, zo, zo], _, rfl, ⟨trivial, trivial, zbf (fun q => b7 ((zi_le (by decide : (Int16.ofInt 240).toInt32 = Int32.ofInt 240) rfl (⟨by decide, by decide⟩ : zR 240) (by unfold zR; omega)).mp q)), trivial⟩⟩ rfl ?_
  refine zW.step (st1 := (42, [(some (.ref 3)), (some (.int (Int32.ofInt x1)))], [.ref 3], zk c m)) (st2 := (42, [(some (.ref 3)), (some (.int (Int32.ofInt x1)))], [.ref 3], zk c m)) ⟨[zo], _, rfl, ⟨trivial, trivial⟩⟩ rfl ?_
  obtain ⟨r8, m8, hs8, hIm8, z_8, p_8, w_8, b_8, c9_8, kN_8, kD_8⟩ := S_X4_clause_F zn (d + 0) hN hC (m 1 2) m hIm (by omega) (by omega)
  refine zW.step (st1 := (45, [(some (.ref 3)), (some (.int (Int32.ofInt x1)))], [.int (Int32.ofInt r8)], zk c m8)) ⟨[zc (some (.int (Int32.ofInt r8))) (zk c m8)], _, rfl, ⟨⟨⟨(Nat.lt_of_lt_of_le (Nat.le_of_ble_eq_true rfl) hN), (Nat.le_of_ble_eq_true rfl)⟩, hs8, (Nat.le_of_ble_eq_true rfl), Nat.le_refl _, Nat.le_refl _, Nat.le_refl _, Nat.le_refl _⟩, trivial⟩⟩ rfl ?_
  have f9 : (0 : Int) ≤ m8 1 1 ∧ m8 1 1 ≤ 240 := hIm8.1 1 1
  have f10 : m8 1 1 = m 1 1 := kD_8 1 1 (by omega)
  have f11 : (0 : Int) ≤ m8 1 2 ∧ m8 1 2 ≤ 240 := hIm8.1 1 2
  have f12 : (0 : Int) ≤ m8 4 3 ∧ m8 4 3 ≤ 5 := hIm8.1 4 3
  have f13 : (0 : Int) ≤ m8 4 4 ∧ m8 4 4 ≤ 6 := hIm8.1 4 4
  have f14 : (0 : Int) ≤ m8 8 185 ∧ m8 8 185 ≤ 10 := zr_c hIm8 zS_8
  have tk15 : zD9 (fun p i => (p = 1 ∧ (i = 2 ∨ i = 3)) ∨ (4 ≤ p ∧ p ≤ 9)) m0 m8 := zD9_tr tD kD_8
  have tk16 : zH t9 m8 := zH_N tH kN_8
  by_cases b17 : r8 = 0
  · refine zW.step (st1 := (48, [(some (.ref 3)), (some (.int (Int32.ofInt x1)))], [], zk c m8)) (st2 := (48, [(some (.ref 3)), (some (.int (Int32.ofInt x1)))], [], zk c m8)) ⟨[zo], _, rfl, ⟨zbf (fun q => q ((zi_eq rfl (rfl : (0 : Int32) = Int32.ofInt 0) (by unfold zR; omega) (⟨by decide, by decide⟩ : zR 0)).mpr b17)), trivial⟩⟩ rfl ?_
    refine zW.step (st1 := (55, [(some (.ref 3)), (some (.int (Int32.ofInt x1)))], [.int (Int32.ofInt (m8 1 2))], zk c m8)) (st2 := (55, [(some (.ref 3)), (some (.int (Int32.ofInt x1)))], [.int (Int32.ofInt (m8 1 2))], zk c m8)) ⟨[zo, zo, zo], _, rfl, ⟨trivial, (Nat.lt_of_lt_of_le (Nat.le_of_ble_eq_true rfl) hN), (Nat.lt_of_lt_of_le (Nat.le_of_ble_eq_true rfl) hN), trivial⟩⟩ rfl ?_
    exact zW.fin (zfin_i rfl rfl rfl) (KR _ _ ⟨m8 1 2, m8, rfl, rfl, hIm8, (by omega), (by have q9 := zcs_l0 J (by omega) (by omega); exact Or.inl ⟨by omega, by omega⟩), (by first | (intro _; exact eW2) | (intro h; exact absurd h (by omega))), tk15, (zH_le tk16 (by omega))⟩)
  · refine zW.step (st1 := (56, [(some (.ref 3)), (some (.int (Int32.ofInt x1)))], [], zk c m8)) (st2 := (56, [(some (.ref 3)), (some (.int (Int32.ofInt x1)))], [], zk c m8)) ⟨[zt], _, rfl, ⟨zbt (fun q => b17 ((zi_eq rfl (rfl : (0 : Int32) = Int32.ofInt 0) (by unfold zR; omega) (⟨by decide, by decide⟩ : zR 0)).mp q)), trivial⟩⟩ rfl ?_
    have q18 := ztk_f (mM 2) (mM 1 1) 59 (zcl (mM 2) (mM 1 1) (m 1 2) (zWc m)).2.1
    refine zW.step (st1 := (62, [(some (.ref 3)), (some (.int (Int32.ofInt x1)))], [.int ((Int8.ofInt 59).toInt32), .ref 1], zk c m8)) (st2 := (62, [(some (.ref 3)), (some (.int (Int32.ofInt x1)))], [.int (Int32.ofInt 59), .ref 1], zk c m8)) ⟨[zo, zo, zo], _, rfl, ⟨trivial, (Nat.lt_of_lt_of_le (Nat.le_of_ble_eq_true rfl) hN), trivial, trivial⟩⟩ (z_steq rfl (z_c1 (z_vi (by decide : (Int8.ofInt 59).toInt32 = Int32.ofInt 59)) rfl) rfl) ?_
    obtain ⟨r19, m19, hs19, hIm19, z_19, p_19, b_19, kN_19, kD_19⟩ := S_X8_takes_F zn (d + 4) hN hC 59 ((zcl (mM 2) (mM 1 1) (m 1 2) (zWc m)).2.1) m8 hIm8 (by omega) (by omega) (by omega) (by omega)
    refine zW.step (st1 := (65, [(some (.ref 3)), (some (.int (Int32.ofInt x1)))], [.int (Int32.ofInt r19)], zk c m19)) ⟨[zc (some (.int (Int32.ofInt r19))) (zk c m19)], _, rfl, ⟨⟨⟨(Nat.lt_of_lt_of_le (Nat.le_of_ble_eq_true rfl) hN), (Nat.le_of_ble_eq_true rfl)⟩, hs19, (Nat.le_of_ble_eq_true rfl), Nat.le_refl _, Nat.le_refl _, Nat.le_refl _, Nat.le_refl _⟩, trivial⟩⟩ rfl ?_
    have f20 : (0 : Int) ≤ m19 1 1 ∧ m19 1 1 ≤ 240 := hIm19.1 1 1
    have f21 : m19 1 1 = m8 1 1 := kD_19 1 1 (by omega)
    have f22 : (0 : Int) ≤ m19 1 2 ∧ m19 1 2 ≤ 240 := hIm19.1 1 2
    have f23 : (0 : Int) ≤ m19 4 3 ∧ m19 4 3 ≤ 5 := hIm19.1 4 3
    have f24 : m19 4 3 = m8 4 3 := kD_19 4 3 (by omega)
    have f25 : (0 : Int) ≤ m19 4 4 ∧ m19 4 4 ≤ 6 := hIm19.1 4 4
    have f26 : m19 4 4 = m8 4 4 := kD_19 4 4 (by omega)
    have f27 : (0 : Int) ≤ m19 8 185 ∧ m19 8 185 ≤ 10 := zr_c hIm19 zS_8
    have f28 : m19 8 185 = m8 8 185 := kD_19 8 185 (by omega)
    have tk29 : zD9 (fun p i => (p = 1 ∧ (i = 2 ∨ i = 3)) ∨ (4 ≤ p ∧ p ≤ 9)) m0 m19 := zD9_tr tk15 (zD9_mo kD_19 (fun p i w => by have w2 : p = 1 ∧ (i = 2 ∨ i = 3) := w; show (p = 1 ∧ (i = 2 ∨ i = 3)) ∨ (4 ≤ p ∧ p ≤ 9); omega))
    have tk30 : zH t9 m19 := zH_N tk16 kN_19
    by_cases b31 : r19 = 0
    · refine zW.step (st1 := (68, [(some (.ref 3)), (some (.int (Int32.ofInt x1)))], [], zk c m19)) (st2 := (68, [(some (.ref 3)), (some (.int (Int32.ofInt x1)))], [], zk c m19)) ⟨[zo], _, rfl, ⟨zbf (fun q => q ((zi_eq rfl (rfl : (0 : Int32) = Int32.ofInt 0) (by unfold zR; omega) (⟨by decide, by decide⟩ : zR 0)).mpr b31)), trivial⟩⟩ rfl ?_
      have qL := zcs_l1 J (by omega) (by omega) (by omega)
      have qP := congrArg (zpk (mM 2) (mM 1 1)) qL.2.1
      have qI := znx_i (b := mM 2) (n := mM 1 1) (a := (zcl (mM 2) (mM 1 1) (m 1 2) (zWc m)).2.1) (by omega) (by omega)
      have qK := congrArg (zpk (mM 2) (mM 1 1)) qI
      have eW : zWc m19 = (zhs (mM 2) (mM 1 1)).2.2 := (zWc_D1 kD_19).trans ((w_8 (by omega)).trans qL.2.2.symm)
      refine zW.step (st1 := (81, [(some (.ref 3)), (some (.int (Int32.ofInt x1)))], [.ref 1], zk c m19)) (st2 := (81, [(some (.ref 3)), (some (.int (Int32.ofInt x1)))], [.ref 1], zk c m19)) ⟨[zo, zo, zo], _, rfl, ⟨trivial, trivial, (Nat.lt_of_lt_of_le (Nat.le_of_ble_eq_true rfl) hN), trivial⟩⟩ rfl ?_
      obtain ⟨r33, m33, hs33, hIm33, z_33, f_33, p_33, b_33, l_33, c3_33, kN_33, kD_33⟩ := S_X8_next_F zn (d + 5) hN hC (znx (mM 2) (mM 1 1) (zcl (mM 2) (mM 1 1) (m 1 2) (zWc m)).2.1) m19 hIm19 (by omega) (by omega)
      refine zW.step (st1 := (84, [(some (.ref 3)), (some (.int (Int32.ofInt x1)))], [.int (Int32.ofInt r33)], zk c m33)) ⟨[zc (some (.int (Int32.ofInt r33))) (zk c m33)], _, rfl, ⟨⟨⟨(Nat.lt_of_lt_of_le (Nat.le_of_ble_eq_true rfl) hN), (Nat.le_of_ble_eq_true rfl)⟩, hs33, (Nat.le_of_ble_eq_true rfl), Nat.le_refl _, Nat.le_refl _, Nat.le_refl _, Nat.le_refl _⟩, trivial⟩⟩ rfl ?_
      have f34 : (0 : Int) ≤ m33 1 1 ∧ m33 1 1 ≤ 240 := hIm33.1 1 1
      have f35 : m33 1 1 = m19 1 1 := kD_33 1 1 (by omega)
      have f36 : (0 : Int) ≤ m33 1 2 ∧ m33 1 2 ≤ 240 := hIm33.1 1 2
      have f37 : (0 : Int) ≤ m33 4 3 ∧ m33 4 3 ≤ 5 := hIm33.1 4 3
      have f38 : m33 4 3 = m19 4 3 := kD_33 4 3 (by omega)
      have f39 : (0 : Int) ≤ m33 4 4 ∧ m33 4 4 ≤ 6 := hIm33.1 4 4
      have f40 : m33 4 4 = m19 4 4 := kD_33 4 4 (by omega)
      have f41 : (0 : Int) ≤ m33 8 185 ∧ m33 8 185 ≤ 10 := zr_c hIm33 zS_8
      have f42 : m33 8 185 = m19 8 185 := kD_33 8 185 (by omega)
      have tk43 : zD9 (fun p i => (p = 1 ∧ (i = 2 ∨ i = 3)) ∨ (4 ≤ p ∧ p ≤ 9)) m0 m33 := zD9_tr tk29 (zD9_mo kD_33 (fun p i w => by have w2 : p = 1 ∧ (i = 2 ∨ i = 3) := w; show (p = 1 ∧ (i = 2 ∨ i = 3)) ∨ (4 ≤ p ∧ p ≤ 9); omega))
      have tk44 : zH t9 m33 := zH_N tk30 kN_33
      by_cases b45 : r33 = (-1)
      · refine zW.step (st1 := (96, [(some (.ref 3)), (some (.int (Int32.ofInt x1)))], [], zk c m33)) (st2 := (96, [(some (.ref 3)), (some (.int (Int32.ofInt x1)))], [], zk c m33)) ⟨[zo, zt], _, rfl, ⟨trivial, zbt ((zi_eq rfl rfl (by unfold zR; omega) (⟨by decide, by decide⟩ : zR (-1))).mpr b45), trivial⟩⟩ rfl ?_
        have eW2 : zWc m33 = (zhs (mM 2) (mM 1 1)).2.2 := (zWc_D1 kD_33).trans eW
        have h7 : ∀ p, m33 7 p ≤ 8 := fun p => (hIm33.1 7 p).2
        have hCw := zwh_C (m := m33) (by omega) (by omega) h7
        refine zW.step (st1 := (97, [(some (.ref 3)), (some (.int (Int32.ofInt x1)))], [.ref 3], zk c m33)) (st2 := (97, [(some (.ref 3)), (some (.int (Int32.ofInt x1)))], [.ref 3], zk c m33)) ⟨[zo], _, rfl, ⟨trivial, trivial⟩⟩ rfl ?_
        obtain ⟨r47, hs47, z_47, t_47, f_47⟩ := S_X4_isWhole_F zn (d + 5) hN hC m33 hIm33
        refine zW.step (st1 := (100, [(some (.ref 3)), (some (.int (Int32.ofInt x1)))], [.int (Int32.ofInt r47)], zk c m33)) ⟨[zc (some (.int (Int32.ofInt r47))) (zk c m33)], _, rfl, ⟨⟨⟨(Nat.lt_of_lt_of_le (Nat.le_of_ble_eq_true rfl) hN), (Nat.le_of_ble_eq_true rfl)⟩, hs47, (Nat.le_of_ble_eq_true rfl), Nat.le_refl _, Nat.le_refl _, Nat.le_refl _, Nat.le_refl _⟩, trivial⟩⟩ rfl ?_
        by_cases b48 : r47 = 0
        · refine zW.step (st1 := (107, [(some (.ref 3)), (some (.int (Int32.ofInt x1)))], [], zk c m33)) (st2 := (107, [(some (.ref 3)), (some (.int (Int32.ofInt x1)))], [], zk c m33)) ⟨[zt], _, rfl, ⟨zbt ((zi_eq rfl (rfl : (0 : Int32) = Int32.ofInt 0) (by unfold zR; omega) (⟨by decide, by decide⟩ : zR 0)).mpr b48), trivial⟩⟩ rfl ?_
          refine zW.step (st1 := (114, [(some (.ref 3)), (some (.int (Int32.ofInt x1)))], [.int (Int32.ofInt (m33 1 1))], zk c m33)) (st2 := (114, [(some (.ref 3)), (some (.int (Int32.ofInt x1)))], [.int (Int32.ofInt (m33 1 1))], zk c m33)) ⟨[zo, zo, zo], _, rfl, ⟨trivial, (Nat.lt_of_lt_of_le (Nat.le_of_ble_eq_true rfl) hN), (Nat.lt_of_lt_of_le (Nat.le_of_ble_eq_true rfl) hN), trivial⟩⟩ rfl ?_
          exact zW.fin (zfin_i rfl rfl rfl) (KR _ _ ⟨m33 1 1, m33, rfl, rfl, hIm33, (by omega), (by first | (exact Or.inr (Or.inr (Or.inr ⟨by omega, by omega, by rw [← eW2]; exact hCw.mpr (t_47 (by omega)), by omega⟩))) | (exact Or.inr (Or.inr (Or.inl ⟨by omega, by omega, fun h => f_47 (by omega) (hCw.mp (by rw [eW2]; exact h)), by omega⟩)))), (by first | (intro _; exact eW2) | (intro h; exact absurd h (by omega))), tk43, (zH_le tk44 (by omega))⟩)
        · refine zW.step (st1 := (103, [(some (.ref 3)), (some (.int (Int32.ofInt x1)))], [], zk c m33)) (st2 := (103, [(some (.ref 3)), (some (.int (Int32.ofInt x1)))], [], zk c m33)) ⟨[zo], _, rfl, ⟨zbf (fun q => b48 ((zi_eq rfl (rfl : (0 : Int32) = Int32.ofInt 0) (by unfold zR; omega) (⟨by decide, by decide⟩ : zR 0)).mp q)), trivial⟩⟩ rfl ?_
          refine zW.step (st1 := (114, [(some (.ref 3)), (some (.int (Int32.ofInt x1)))], [.int (Int32.ofInt (-1))], zk c m33)) (st2 := (114, [(some (.ref 3)), (some (.int (Int32.ofInt x1)))], [.int (Int32.ofInt (-1))], zk c m33)) ⟨[zo, zo], _, rfl, ⟨trivial, trivial, trivial⟩⟩ rfl ?_
          exact zW.fin (zfin_i rfl rfl rfl) (KR _ _ ⟨(-1), m33, rfl, rfl, hIm33, (by omega), (by first | (exact Or.inr (Or.inr (Or.inr ⟨by omega, by omega, by rw [← eW2]; exact hCw.mpr (t_47 (by omega)), by omega⟩))) | (exact Or.inr (Or.inr (Or.inl ⟨by omega, by omega, fun h => f_47 (by omega) (hCw.mp (by rw [eW2]; exact h)), by omega⟩)))), (by first | (intro _; exact eW2) | (intro h; exact absurd h (by omega))), tk43, (zH_le tk44 (by omega))⟩)
      · refine zW.step (st1 := (88, [(some (.ref 3)), (some (.int (Int32.ofInt x1)))], [], zk c m33)) (st2 := (88, [(some (.ref 3)), (some (.int (Int32.ofInt x1)))], [], zk c m33)) ⟨[zo, zo], _, rfl, ⟨trivial, zbf (fun q => b45 ((zi_eq rfl rfl (by unfold zR; omega) (⟨by decide, by decide⟩ : zR (-1))).mp q)), trivial⟩⟩ rfl ?_
        refine zW.step (st1 := (95, [(some (.ref 3)), (some (.int (Int32.ofInt x1)))], [.int (Int32.ofInt (m33 1 2))], zk c m33)) (st2 := (95, [(some (.ref 3)), (some (.int (Int32.ofInt x1)))], [.int (Int32.ofInt (m33 1 2))], zk c m33)) ⟨[zo, zo, zo], _, rfl, ⟨trivial, (Nat.lt_of_lt_of_le (Nat.le_of_ble_eq_true rfl) hN), (Nat.lt_of_lt_of_le (Nat.le_of_ble_eq_true rfl) hN), trivial⟩⟩ rfl ?_
        exact zW.fin (zfin_i rfl rfl rfl) (KR _ _ ⟨m33 1 2, m33, rfl, rfl, hIm33, (by omega), (by exact Or.inr (Or.inl ⟨by omega, by omega, by omega⟩)), (by first | (intro _; exact eW2) | (intro h; exact absurd h (by omega))), tk43, (zH_le tk44 (by omega))⟩)
    · refine zW.step (st1 := (71, [(some (.ref 3)), (some (.int (Int32.ofInt x1)))], [], zk c m19)) (st2 := (71, [(some (.ref 3)), (some (.int (Int32.ofInt x1)))], [], zk c m19)) ⟨[zt], _, rfl, ⟨zbt (fun q => b31 ((zi_eq rfl (rfl : (0 : Int32) = Int32.ofInt 0) (by unfold zR; omega) (⟨by decide, by decide⟩ : zR 0)).mp q)), trivial⟩⟩ rfl ?_
      have qS := zcs_l2 J (by omega) (by omega) (by omega) (show m19 1 2 = znx (mM 2) (mM 1 1) (zcl (mM 2) (mM 1 1) (m 1 2) (zWc m)).2.1 + 1 by omega) ((zWc_D1 kD_19).trans (w_8 (by omega)))
      refine zW.step (st1 := (34, [(some (.ref 3)), (some (.int ((Int32.ofInt x1) + Int32.ofInt 1)))], [], zk c m19)) (st2 := (34, [(some (.ref 3)), (some (.int (Int32.ofInt (x1 + 1))))], [], zk c m19)) ⟨[zo, zo], _, rfl, ⟨trivial, trivial, trivial⟩⟩ (z_steq (z_c1 rfl (z_c1 (z_si (zi_add rfl rfl)) rfl)) rfl rfl) ?_
      exact ih _ (by omega) (x1 + 1) m19 hIm19 (by omega) (by omega) (by omega) (by exact qS) tk29 (zH_le tk30 (by omega)) rfl

set_option maxRecDepth 100000 in
set_option maxHeartbeats 4000000 in
theorem S_X4_read_F (zn : Bool) (d : Nat) {c : Nat × Nat} {mM : zM} (hN : 107 ≤ c.1) (hC : c.1 < z_RO) (t9 : Int) (m : zM) (hIm : zI c mM m) (ht : 0 ≤ t9 ∧ t9 ≤ 999999000) (hH : zH t9 m) : zCi zn (d + 8) 79 [.ref 3] c m (fun (r : Int) (m1 : zM) => zI c mM m1 ∧ (-2147483648 ≤ r ∧ r ≤ 2147483647) ∧ (zhf (mM 2) (mM 1 1) r) ∧ (r = -1 → zWc m1 = (zhs (mM 2) (mM 1 1)).2.2) ∧ zD9 (fun p i => (p = 1 ∧ (i = 2 ∨ i = 3)) ∨ (4 ≤ p ∧ p ≤ 9)) m m1 ∧ zH (t9) m1) := by
  refine zCi.of zu_X4_read hC (Nat.le_of_ble_eq_true rfl) ?_
  show zW zn (d + 7) 79 c (0, [(some (.ref 3)), none], [], zk c m) (fun v h1 => ∃ (r : Int) (m1 : zM), v = some (.int (Int32.ofInt r)) ∧ h1 = zk c m1 ∧ zI c mM m1 ∧ (-2147483648 ≤ r ∧ r ≤ 2147483647) ∧ (zhf (mM 2) (mM 1 1) r) ∧ (r = -1 → zWc m1 = (zhs (mM 2) (mM 1 1)).2.2) ∧ zD9 (fun p i => (p = 1 ∧ (i = 2 ∨ i = 3)) ∨ (4 ≤ p ∧ p ≤ 9)) m m1 ∧ zH (t9) m1)
  have f50 : (0 : Int) ≤ m 1 1 ∧ m 1 1 ≤ 240 := hIm.1 1 1
  have f51 : (0 : Int) ≤ m 1 2 ∧ m 1 2 ≤ 240 := hIm.1 1 2
  have f52 : (0 : Int) ≤ m 4 3 ∧ m 4 3 ≤ 5 := hIm.1 4 3
  have f53 : (0 : Int) ≤ m 4 4 ∧ m 4 4 ≤ 6 := hIm.1 4 4
  have f54 : (0 : Int) ≤ m 8 185 ∧ m 8 185 ≤ 10 := zr_c hIm zS_8
  have q55 := zn_c hIm
  refine zW.step (st1 := (5, [(some (.ref 3)), none], [.int (Int32.ofInt 0), .ref 8], zk c m)) (st2 := (5, [(some (.ref 3)), none], [.int (Int32.ofInt 0), .ref 8], zk c m)) ⟨[zo, zo, zo], _, rfl, ⟨trivial, (Nat.lt_of_lt_of_le (Nat.le_of_ble_eq_true rfl) hN), trivial, trivial⟩⟩ rfl ?_
  obtain ⟨m56, hsm56, hIm56, hfm56, hwm56⟩ := S_fill zn (d + 6) hN hC zA_8 (by omega) (by decide) (v := 0) m hIm (by intro i hi; exact zr_f0 zS_8 i)
  refine zW.step (st1 := (8, [(some (.ref 3)), none], [], zk c m56)) ⟨[zc none (zk c m56)], _, rfl, ⟨⟨(Nat.le_of_ble_eq_true rfl), hsm56, (Nat.le_of_ble_eq_true rfl), Nat.le_refl _, Nat.le_refl _, Nat.le_refl _, Nat.le_refl _⟩, trivial⟩⟩ rfl ?_
  have tk57 : zD9 (fun p i => (p = 1 ∧ (i = 2 ∨ i = 3)) ∨ (4 ≤ p ∧ p ≤ 9)) m m56 := zD9_fl zD9_rf hfm56 (fun i => by omega)
  have tk58 : zH t9 m56 := zH_fl hH hfm56 hwm56 (by unfold zQ; omega)
  have f59 : m56 1 1 = m 1 1 := hfm56 1 1 (by decide)
  have f60 : m56 1 2 = m 1 2 := hfm56 1 2 (by decide)
  have f61 : m56 4 3 = m 4 3 := hfm56 4 3 (by decide)
  have f62 : m56 4 4 = m 4 4 := hfm56 4 4 (by decide)
  have f63 : m56 8 185 = 0 := hwm56 185 (by decide)
  obtain ⟨m64, hm64⟩ : ∃ q, q = zm_up m56 4 3 0 := ⟨_, rfl⟩
  have hIm64 : zI c mM m64 := by rw [hm64]; exact zI_up hIm56 (zOk_p (by decide)) (show (0 : Int) ≤ 0 ∧ 0 ≤ 5 by omega)
  have em64 : m64 4 3 = 0 := by rw [hm64]; exact zm_eq
  have f65 : m64 1 1 = m56 1 1 := by rw [hm64]; exact zm_ne (by omega)
  have f66 : m64 1 2 = m56 1 2 := by rw [hm64]; exact zm_ne (by omega)
  have f67 : m64 4 4 = m56 4 4 := by rw [hm64]; exact zm_ne (by omega)
  have f68 : m64 8 185 = m56 8 185 := by rw [hm64]; exact zm_ne (by omega)
  have tk69 : zD9 (fun p i => (p = 1 ∧ (i = 2 ∨ i = 3)) ∨ (4 ≤ p ∧ p ≤ 9)) m m64 := by rw [hm64]; exact zD9_up tk57 (by first | rfl | omega | (dsimp only; omega))
  have tk70 : zH t9 m64 := by rw [hm64]; exact zH_up tk58 (by unfold zQ; omega)
  clear tk57 tk58
  refine zW.step (st1 := (16, [(some (.ref 3)), none], [], z_hup (zk c m56) 4 (.inr (6, [.ref 5, .ref 6, .ref 7, .int (Int32.ofInt 0), .int (Int32.ofInt (m56 4 4))])))) (st2 := (16, [(some (.ref 3)), none], [], zk c m64)) ⟨[zo, zo, zo, zo], _, rfl, ⟨trivial, (Nat.lt_of_lt_of_le (Nat.le_of_ble_eq_true rfl) hN), trivial, ⟨(Nat.lt_of_lt_of_le (Nat.le_of_ble_eq_true rfl) hN), rfl, rfl⟩, trivial⟩⟩ (z_steq rfl rfl ((zk_up c m56 4 3 0 _ rfl).trans (by rw [hm64]))) ?_
  obtain ⟨m71, hm71⟩ : ∃ q, q = zm_up m64 4 4 0 := ⟨_, rfl⟩
  have hIm71 : zI c mM m71 := by rw [hm71]; exact zI_up hIm64 (zOk_p (by decide)) (show (0 : Int) ≤ 0 ∧ 0 ≤ 6 by omega)
  have em71 : m71 4 4 = 0 := by rw [hm71]; exact zm_eq
  have f72 : m71 1 1 = m64 1 1 := by rw [hm71]; exact zm_ne (by omega)
  have f73 : m71 1 2 = m64 1 2 := by rw [hm71]; exact zm_ne (by omega)
  have f74 : m71 8 185 = m64 8 185 := by rw [hm71]; exact zm_ne (by omega)
  have f75 : m71 4 3 = m64 4 3 := by rw [hm71]; exact zm_ne (by omega)
  have tk76 : zD9 (fun p i => (p = 1 ∧ (i = 2 ∨ i = 3)) ∨ (4 ≤ p ∧ p ≤ 9)) m m71 := by rw [hm71]; exact zD9_up tk69 (by first | rfl | omega | (dsimp only; omega))
  have tk77 : zH t9 m71 := by rw [hm71]; exact zH_up tk70 (by unfold zQ; omega)
  clear tk69 tk70
  refine zW.step (st1 := (24, [(some (.ref 3)), none], [], z_hup (zk c m64) 4 (.inr (6, [.ref 5, .ref 6, .ref 7, .int (Int32.ofInt (m64 4 3)), .int (Int32.ofInt 0)])))) (st2 := (24, [(some (.ref 3)), none], [], zk c m71)) ⟨[zo, zo, zo, zo], _, rfl, ⟨trivial, (Nat.lt_of_lt_of_le (Nat.le_of_ble_eq_true rfl) hN), trivial, ⟨(Nat.lt_of_lt_of_le (Nat.le_of_ble_eq_true rfl) hN), rfl, rfl⟩, trivial⟩⟩ (z_steq rfl rfl ((zk_up c m64 4 4 0 _ rfl).trans (by rw [hm71]))) ?_
  obtain ⟨m78, hm78⟩ : ∃ q, q = zm_up m71 1 2 0 := ⟨_, rfl⟩
  have hIm78 : zI c mM m78 := by rw [hm78]; exact zI_up hIm71 (by unfold zOk; decide) (show (0 : Int) ≤ 0 ∧ 0 ≤ 240 by omega)
  have em78 : m78 1 2 = 0 := by rw [hm78]; exact zm_eq
  have f79 : m78 1 1 = m71 1 1 := by rw [hm78]; exact zm_ne (by omega)
  have f80 : m78 8 185 = m71 8 185 := by rw [hm78]; exact zm_ne (by omega)
  have f81 : m78 4 3 = m71 4 3 := by rw [hm78]; exact zm_ne (by omega)
  have f82 : m78 4 4 = m71 4 4 := by rw [hm78]; exact zm_ne (by omega)
  have tk83 : zD9 (fun p i => (p = 1 ∧ (i = 2 ∨ i = 3)) ∨ (4 ≤ p ∧ p ≤ 9)) m m78 := by rw [hm78]; exact zD9_up tk76 (by first | rfl | omega | (dsimp only; omega))
  have tk84 : zH t9 m78 := by rw [hm78]; exact zH_up tk77 (by unfold zQ; omega)
  clear tk76 tk77
  refine zW.step (st1 := (32, [(some (.ref 3)), none], [], z_hup (zk c m71) 1 (.inr (8, [.ref 2, .int (Int32.ofInt (m71 1 1)), .int (Int32.ofInt 0), .int (Int32.ofInt (m71 1 3))])))) (st2 := (32, [(some (.ref 3)), none], [], zk c m78)) ⟨[zo, zo, zo, zo], _, rfl, ⟨trivial, (Nat.lt_of_lt_of_le (Nat.le_of_ble_eq_true rfl) hN), trivial, ⟨(Nat.lt_of_lt_of_le (Nat.le_of_ble_eq_true rfl) hN), rfl, rfl⟩, trivial⟩⟩ (z_steq rfl rfl ((zk_up c m71 1 2 0 _ rfl).trans (by rw [hm78]))) ?_
  refine zW.step (st1 := (34, [(some (.ref 3)), (some (.int (Int32.ofInt 0)))], [], zk c m78)) (st2 := (34, [(some (.ref 3)), (some (.int (Int32.ofInt 0)))], [], zk c m78)) ⟨[zo, zo], _, rfl, ⟨trivial, trivial, trivial⟩⟩ rfl ?_
  exact L_X4_read_F_34 zn _ hN hC t9 ht m _ (fun v9 h9 hq9 => hq9) _ 0 m78 hIm78 (by omega) (by omega) (by omega) (by have e9 : m78 1 2 = 0 := (by omega); rw [e9, zWc_0 (by omega) (by omega) (by omega)]; rfl) tk83 (zH_le tk84 (by omega)) rfl

