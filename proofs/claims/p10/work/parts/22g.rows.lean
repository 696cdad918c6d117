/-! what methods do over memory, by program (wip/tools/gw): X3_look, X3_pass, X8_isDigit, X8_here, X8_next, X8_takes, X8_takesNumber, X8_signsIn, X8_append -/
set_option maxRecDepth 100000 in
set_option maxHeartbeats 4000000 in
theorem S_X3_look (zn : Bool) (d : Nat) {c : Nat × Nat} (hN : 107 ≤ c.1) (hC : c.1 < z_RO) (s : Nat) (p : Int) (m : zM) (hIm : zI c m) (r_p : -2147483648 ≤ p ∧ p ≤ 2147483647) (h_s : zS s) (k_s : s = 17 ∨ s = 70 ∨ s = 74 ∨ s = 76) (hp : 0 ≤ p ∧ p ≤ 5) : zCi zn (d + 4) 66 [.ref 18, .ref s, .int (Int32.ofInt p)] c m (fun (r : Int) (m1 : zM) => zI c m1 ∧ (-1 ≤ r ∧ r ≤ 9) ∧ zF s m m1 ∧ zG s m m1) := by
  refine zCi.of zu_X3_look hC (Nat.le_of_ble_eq_true rfl) ?_
  show zW zn (d + 3) 66 c (0, [(some (.ref 18)), (some (.ref s)), (some (.int (Int32.ofInt p)))], [], zk c m) (fun v h1 => ∃ (r : Int) (m1 : zM), v = some (.int (Int32.ofInt r)) ∧ h1 = zk c m1 ∧ zI c m1 ∧ (-1 ≤ r ∧ r ≤ 9) ∧ zF s m m1 ∧ zG s m m1)
  refine zW.step (st1 := (2, [(some (.ref 18)), (some (.ref s)), (some (.int (Int32.ofInt p)))], [.ref s, .ref 18], zk c m)) (st2 := (2, [(some (.ref 18)), (some (.ref s)), (some (.int (Int32.ofInt p)))], [.ref s, .ref 18], zk c m)) ⟨[zo, zo], _, rfl, ⟨trivial, trivial, trivial⟩⟩ rfl ?_
  obtain ⟨m1, hs1, hIm1, kF_1, kG_1⟩ := S_X3_prepare zn (d + 1) hN hC s m hIm h_s (by omega)
  refine zW.step (st1 := (5, [(some (.ref 18)), (some (.ref s)), (some (.int (Int32.ofInt p)))], [], zk c m1)) ⟨[zc (none) (zk c m1)], _, rfl, ⟨⟨⟨(Nat.lt_of_lt_of_le (Nat.le_of_ble_eq_true rfl) hN), (Nat.le_of_ble_eq_true rfl)⟩, hs1, (Nat.le_of_ble_eq_true rfl), Nat.le_refl _, Nat.le_refl _, Nat.le_refl _, Nat.le_refl _⟩, trivial⟩⟩ rfl ?_
  have tk2 : zF s m m1 := zF_tr zF_rf kF_1 (by unfold zQ; omega)
  have tk3 : zG s m m1 := zG_tr zG_rf kG_1
  refine zW.step (st1 := (8, [(some (.ref 18)), (some (.ref s)), (some (.int (Int32.ofInt p)))], [.int (Int32.ofInt p), .ref s, .ref 18], zk c m1)) (st2 := (8, [(some (.ref 18)), (some (.ref s)), (some (.int (Int32.ofInt p)))], [.int (Int32.ofInt p), .ref s, .ref 18], zk c m1)) ⟨[zo, zo, zo], _, rfl, ⟨trivial, trivial, trivial, trivial⟩⟩ rfl ?_
  obtain ⟨m4, hs4, hIm4, kF_4, kG_4⟩ := S_X3_walk zn (d + 2) hN hC s p m1 hIm1 (by omega) h_s (by omega) (by omega)
  refine zW.step (st1 := (11, [(some (.ref 18)), (some (.ref s)), (some (.int (Int32.ofInt p)))], [], zk c m4)) ⟨[zc (none) (zk c m4)], _, rfl, ⟨⟨⟨(Nat.lt_of_lt_of_le (Nat.le_of_ble_eq_true rfl) hN), (Nat.le_of_ble_eq_true rfl)⟩, hs4, (Nat.le_of_ble_eq_true rfl), Nat.le_refl _, Nat.le_refl _, Nat.le_refl _, Nat.le_refl _⟩, trivial⟩⟩ rfl ?_
  have tk5 : zF s m m4 := zF_tr tk2 kF_4 (by unfold zQ; omega)
  have tk6 : zG s m m4 := zG_tr tk3 kG_4
  have f7 : (-2147483648 : Int) ≤ m4 s ((166 + p).toNat) ∧ m4 s ((166 + p).toNat) ≤ 2147483647 := zr_i hIm4 h_s ((166 + p).toNat)
  by_cases b8 : (m4 s ((166 + p).toNat)) = 1
  · refine zW.step (st1 := (22, [(some (.ref 18)), (some (.ref s)), (some (.int (Int32.ofInt p)))], [], zk c m4)) (st2 := (22, [(some (.ref 18)), (some (.ref s)), (some (.int (Int32.ofInt p)))], [], zk c m4)) ⟨[zo, zo, zo, zo, (false, 0, none, zh0, some (.inl (0, 188, .inl (fun j => Int32.ofInt (m4 s j))))), zo, zo], _, rfl, ⟨trivial, trivial, trivial, trivial, ⟨zk_ra c m4 h_s.1 (by omega), zi_in (zi_add (by decide : (Int16.ofInt 166).toInt32 = Int32.ofInt 166) rfl) (by omega) (by omega) (by decide)⟩, trivial, zbf (fun q => q ((zi_eq ((zk_rd (f := m4 s) (zi_add (by decide : (Int16.ofInt 166).toInt32 = Int32.ofInt 166) rfl) (by unfold zR; omega)).trans rfl : Int32.ofInt (m4 s (((Int16.ofInt 166).toInt32) + (Int32.ofInt p)).toNatClampNeg) = Int32.ofInt (m4 s ((166 + p).toNat))) rfl (by unfold zR; omega) (⟨by decide, by decide⟩ : zR 1)).mpr b8)), trivial⟩⟩ rfl ?_
    refine zW.step (st1 := (32, [(some (.ref 18)), (some (.ref s)), (some (.int (Int32.ofInt p)))], [.int (Int32.ofInt (-1))], zk c m4)) (st2 := (32, [(some (.ref 18)), (some (.ref s)), (some (.int (Int32.ofInt p)))], [.int (Int32.ofInt (-1))], zk c m4)) ⟨[zo, zo], _, rfl, ⟨trivial, trivial, trivial⟩⟩ rfl ?_
    exact zW.fin (zfin_i rfl rfl rfl) ⟨(-1), m4, rfl, rfl, hIm4, (by omega), tk5, tk6⟩
  · refine zW.step (st1 := (26, [(some (.ref 18)), (some (.ref s)), (some (.int (Int32.ofInt p)))], [], zk c m4)) (st2 := (26, [(some (.ref 18)), (some (.ref s)), (some (.int (Int32.ofInt p)))], [], zk c m4)) ⟨[zo, zo, zo, zo, (false, 0, none, zh0, some (.inl (0, 188, .inl (fun j => Int32.ofInt (m4 s j))))), zo, zt], _, rfl, ⟨trivial, trivial, trivial, trivial, ⟨zk_ra c m4 h_s.1 (by omega), zi_in (zi_add (by decide : (Int16.ofInt 166).toInt32 = Int32.ofInt 166) rfl) (by omega) (by omega) (by decide)⟩, trivial, zbt (fun q => b8 ((zi_eq ((zk_rd (f := m4 s) (zi_add (by decide : (Int16.ofInt 166).toInt32 = Int32.ofInt 166) rfl) (by unfold zR; omega)).trans rfl : Int32.ofInt (m4 s (((Int16.ofInt 166).toInt32) + (Int32.ofInt p)).toNatClampNeg) = Int32.ofInt (m4 s ((166 + p).toNat))) rfl (by unfold zR; omega) (⟨by decide, by decide⟩ : zR 1)).mp q)), trivial⟩⟩ rfl ?_
    refine zW.step (st1 := (29, [(some (.ref 18)), (some (.ref s)), (some (.int (Int32.ofInt p)))], [.int (Int32.ofInt p), .ref s, .ref 18], zk c m4)) (st2 := (29, [(some (.ref 18)), (some (.ref s)), (some (.int (Int32.ofInt p)))], [.int (Int32.ofInt p), .ref s, .ref 18], zk c m4)) ⟨[zo, zo, zo], _, rfl, ⟨trivial, trivial, trivial, trivial⟩⟩ rfl ?_
    obtain ⟨r9, m9, hs9, hIm9, q_9, kF_9, kG_9⟩ := S_X3_choice zn (d + 0) hN hC s p m4 hIm4 (by omega) h_s (by omega) (by omega)
    refine zW.step (st1 := (32, [(some (.ref 18)), (some (.ref s)), (some (.int (Int32.ofInt p)))], [.int (Int32.ofInt r9)], zk c m9)) ⟨[zc (some (.int (Int32.ofInt r9))) (zk c m9)], _, rfl, ⟨⟨⟨(Nat.lt_of_lt_of_le (Nat.le_of_ble_eq_true rfl) hN), (Nat.le_of_ble_eq_true rfl)⟩, hs9, (Nat.le_of_ble_eq_true rfl), Nat.le_refl _, Nat.le_refl _, Nat.le_refl _, Nat.le_refl _⟩, trivial⟩⟩ rfl ?_
    have tk10 : zF s m m9 := zF_tr tk5 kF_9 (by unfold zQ; omega)
    have tk11 : zG s m m9 := zG_tr tk6 kG_9
    exact zW.fin (zfin_i rfl rfl rfl) ⟨r9, m9, rfl, rfl, hIm9, (by omega), tk10, tk11⟩

set_option maxRecDepth 100000 in
set_option maxHeartbeats 4000000 in
theorem L_X3_pass_7 (zn : Bool) (d : Nat) {c : Nat × Nat} (hN : 107 ≤ c.1) (hC : c.1 < z_RO) (s : Nat) (h_s : zS s) (k_s : s = 17 ∨ s = 70 ∨ s = 74 ∨ s = 76) (m0 : zM) (Q : Option Value → z_H → Prop) (K : ∀ (x2 : Int) (o3 : Option Value) (m : zM), zI c m → 0 ≤ x2 ∧ x2 ≤ 6 → zF s m0 m → m s 184 = m0 s 184 → zW zn (d + 3) 68 c (82, [(some (.ref 18)), (some (.ref s)), (some (.int (Int32.ofInt x2))), o3], [], zk c m) Q) :
    ∀ (w : Nat) (x2 : Int) (o3 : Option Value) (m : zM), zI c m → 0 ≤ x2 ∧ x2 ≤ 6 → zF s m0 m → m s 184 = m0 s 184 → w = (6 - x2).toNat → zW zn (d + 3) 68 c (7, [(some (.ref 18)), (some (.ref s)), (some (.int (Int32.ofInt x2))), o3], [], zk c m) Q := by
  intro w
  induction w using Nat.strongRecOn with | _ w ih => ?_
  intro x2 o3 m hIm i1 tF tCh hw
  have f1 : (0 : Int) ≤ m 13 4 ∧ m 13 4 ≤ 6 := hIm.1 13 4
  by_cases b2 : (m 13 4) ≤ x2
  · refine zW.step (st1 := (82, [(some (.ref 18)), (some (.ref s)), (some (.int (Int32.ofInt x2))), o3], [], zk c m)) (st2 := (82, [(some (.ref 18)), (some (.ref s)), (some (.int (Int32.ofInt x2))), o3], [], zk c m)) ⟨[zo, zo, zo, zo, zt], _, rfl, ⟨trivial, trivial, (Nat.lt_of_lt_of_le (Nat.le_of_ble_eq_true rfl) hN), (Nat.lt_of_lt_of_le (Nat.le_of_ble_eq_true rfl) hN), zbt ((zi_le rfl rfl (by unfold zR; omega) (by unfold zR; omega)).mpr b2), trivial⟩⟩ rfl ?_
    exact K x2 o3 m hIm (by omega) tF tCh
  · refine zW.step (st1 := (18, [(some (.ref 18)), (some (.ref s)), (some (.int (Int32.ofInt x2))), o3], [], zk c m)) (st2 := (18, [(some (.ref 18)), (some (.ref s)), (some (.int (Int32.ofInt x2))), o3], [], zk c m)) ⟨[zo, zo, zo, zo, zo], _, rfl, ⟨trivial, trivial, (Nat.lt_of_lt_of_le (Nat.le_of_ble_eq_true rfl) hN), (Nat.lt_of_lt_of_le (Nat.le_of_ble_eq_true rfl) hN), zbf (fun q => b2 ((zi_le rfl rfl (by unfold zR; omega) (by unfold zR; omega)).mp q)), trivial⟩⟩ rfl ?_
    refine zW.step (st1 := (21, [(some (.ref 18)), (some (.ref s)), (some (.int (Int32.ofInt x2))), o3], [.int (Int32.ofInt x2), .ref s, .ref 18], zk c m)) (st2 := (21, [(some (.ref 18)), (some (.ref s)), (some (.int (Int32.ofInt x2))), o3], [.int (Int32.ofInt x2), .ref s, .ref 18], zk c m)) ⟨[zo, zo, zo], _, rfl, ⟨trivial, trivial, trivial, trivial⟩⟩ rfl ?_
    obtain ⟨m3, hs3, hIm3, kF_3, kG_3⟩ := S_X3_walk zn (d + 2) hN hC s x2 m hIm (by omega) h_s (by omega) (by omega)
    refine zW.step (st1 := (24, [(some (.ref 18)), (some (.ref s)), (some (.int (Int32.ofInt x2))), o3], [], zk c m3)) ⟨[zc (none) (zk c m3)], _, rfl, ⟨⟨⟨(Nat.lt_of_lt_of_le (Nat.le_of_ble_eq_true rfl) hN), (Nat.le_of_ble_eq_true rfl)⟩, hs3, (Nat.le_of_ble_eq_true rfl), Nat.le_refl _, Nat.le_refl _, Nat.le_refl _, Nat.le_refl _⟩, trivial⟩⟩ rfl ?_
    have tk4 : zF s m0 m3 := zF_tr tF kF_3 (by unfold zQ; omega)
    have tk5 : m3 s 184 = m0 s 184 := zG_c kG_3 tCh
    have f6 : (-2147483648 : Int) ≤ m3 s ((166 + x2).toNat) ∧ m3 s ((166 + x2).toNat) ≤ 2147483647 := zr_i hIm3 h_s ((166 + x2).toNat)
    by_cases b7 : (m3 s ((166 + x2).toNat)) = 1
    · refine zW.step (st1 := (35, [(some (.ref 18)), (some (.ref s)), (some (.int (Int32.ofInt x2))), o3], [], zk c m3)) (st2 := (35, [(some (.ref 18)), (some (.ref s)), (some (.int (Int32.ofInt x2))), o3], [], zk c m3)) ⟨[zo, zo, zo, zo, (false, 0, none, zh0, some (.inl (0, 188, .inl (fun j => Int32.ofInt (m3 s j))))), zo, zo], _, rfl, ⟨trivial, trivial, trivial, trivial, ⟨zk_ra c m3 h_s.1 (by omega), zi_in (zi_add (by decide : (Int16.ofInt 166).toInt32 = Int32.ofInt 166) rfl) (by omega) (by omega) (by decide)⟩, trivial, zbf (fun q => q ((zi_eq ((zk_rd (f := m3 s) (zi_add (by decide : (Int16.ofInt 166).toInt32 = Int32.ofInt 166) rfl) (by unfold zR; omega)).trans rfl : Int32.ofInt (m3 s (((Int16.ofInt 166).toInt32) + (Int32.ofInt x2)).toNatClampNeg) = Int32.ofInt (m3 s ((166 + x2).toNat))) rfl (by unfold zR; omega) (⟨by decide, by decide⟩ : zR 1)).mpr b7)), trivial⟩⟩ rfl ?_
      have b8 : ((-1) : Int) = (-1) := by omega
      refine zW.step (st1 := (76, [(some (.ref 18)), (some (.ref s)), (some (.int (Int32.ofInt x2))), (some (.int (Int32.ofInt (-1))))], [], zk c m3)) (st2 := (76, [(some (.ref 18)), (some (.ref s)), (some (.int (Int32.ofInt x2))), (some (.int (Int32.ofInt (-1))))], [], zk c m3)) ⟨[zo, zo, zo, zo, zo, zt], _, rfl, ⟨trivial, trivial, trivial, trivial, trivial, zbt ((zi_eq rfl rfl (⟨by decide, by decide⟩ : zR (-1)) (⟨by decide, by decide⟩ : zR (-1))).mpr b8), trivial⟩⟩ rfl ?_
      refine zW.step (st1 := (7, [(some (.ref 18)), (some (.ref s)), (some (.int ((Int32.ofInt x2) + Int32.ofInt 1))), (some (.int (Int32.ofInt (-1))))], [], zk c m3)) (st2 := (7, [(some (.ref 18)), (some (.ref s)), (some (.int (Int32.ofInt (x2 + 1)))), (some (.int (Int32.ofInt (-1))))], [], zk c m3)) ⟨[zo, zo], _, rfl, ⟨trivial, trivial, trivial⟩⟩ (z_steq (z_c1 rfl (z_c1 rfl (z_c1 (z_si (zi_add rfl rfl)) rfl))) rfl rfl) ?_
      exact ih _ (by omega) (x2 + 1) (some (.int (Int32.ofInt (-1)))) m3 hIm3 (by omega) tk4 tk5 rfl
    · refine zW.step (st1 := (39, [(some (.ref 18)), (some (.ref s)), (some (.int (Int32.ofInt x2))), o3], [], zk c m3)) (st2 := (39, [(some (.ref 18)), (some (.ref s)), (some (.int (Int32.ofInt x2))), o3], [], zk c m3)) ⟨[zo, zo, zo, zo, (false, 0, none, zh0, some (.inl (0, 188, .inl (fun j => Int32.ofInt (m3 s j))))), zo, zt], _, rfl, ⟨trivial, trivial, trivial, trivial, ⟨zk_ra c m3 h_s.1 (by omega), zi_in (zi_add (by decide : (Int16.ofInt 166).toInt32 = Int32.ofInt 166) rfl) (by omega) (by omega) (by decide)⟩, trivial, zbt (fun q => b7 ((zi_eq ((zk_rd (f := m3 s) (zi_add (by decide : (Int16.ofInt 166).toInt32 = Int32.ofInt 166) rfl) (by unfold zR; omega)).trans rfl : Int32.ofInt (m3 s (((Int16.ofInt 166).toInt32) + (Int32.ofInt x2)).toNatClampNeg) = Int32.ofInt (m3 s ((166 + x2).toNat))) rfl (by unfold zR; omega) (⟨by decide, by decide⟩ : zR 1)).mp q)), trivial⟩⟩ rfl ?_
      refine zW.step (st1 := (42, [(some (.ref 18)), (some (.ref s)), (some (.int (Int32.ofInt x2))), o3], [.int (Int32.ofInt x2), .ref s, .ref 18], zk c m3)) (st2 := (42, [(some (.ref 18)), (some (.ref s)), (some (.int (Int32.ofInt x2))), o3], [.int (Int32.ofInt x2), .ref s, .ref 18], zk c m3)) ⟨[zo, zo, zo], _, rfl, ⟨trivial, trivial, trivial, trivial⟩⟩ rfl ?_
      obtain ⟨r9, m9, hs9, hIm9, q_9, kF_9, kG_9⟩ := S_X3_choice zn (d + 0) hN hC s x2 m3 hIm3 (by omega) h_s (by omega) (by omega)
      refine zW.step (st1 := (45, [(some (.ref 18)), (some (.ref s)), (some (.int (Int32.ofInt x2))), o3], [.int (Int32.ofInt r9)], zk c m9)) ⟨[zc (some (.int (Int32.ofInt r9))) (zk c m9)], _, rfl, ⟨⟨⟨(Nat.lt_of_lt_of_le (Nat.le_of_ble_eq_true rfl) hN), (Nat.le_of_ble_eq_true rfl)⟩, hs9, (Nat.le_of_ble_eq_true rfl), Nat.le_refl _, Nat.le_refl _, Nat.le_refl _, Nat.le_refl _⟩, trivial⟩⟩ rfl ?_
      have tk10 : zF s m0 m9 := zF_tr tk4 kF_9 (by unfold zQ; omega)
      have tk11 : m9 s 184 = m0 s 184 := zG_c kG_9 tk5
      by_cases b12 : r9 = (-1)
      · refine zW.step (st1 := (76, [(some (.ref 18)), (some (.ref s)), (some (.int (Int32.ofInt x2))), (some (.int (Int32.ofInt r9)))], [], zk c m9)) (st2 := (76, [(some (.ref 18)), (some (.ref s)), (some (.int (Int32.ofInt x2))), (some (.int (Int32.ofInt r9)))], [], zk c m9)) ⟨[zo, zo, zo, zt], _, rfl, ⟨trivial, trivial, trivial, zbt ((zi_eq rfl rfl (by unfold zR; omega) (⟨by decide, by decide⟩ : zR (-1))).mpr b12), trivial⟩⟩ rfl ?_
        refine zW.step (st1 := (7, [(some (.ref 18)), (some (.ref s)), (some (.int ((Int32.ofInt x2) + Int32.ofInt 1))), (some (.int (Int32.ofInt r9)))], [], zk c m9)) (st2 := (7, [(some (.ref 18)), (some (.ref s)), (some (.int (Int32.ofInt (x2 + 1)))), (some (.int (Int32.ofInt r9)))], [], zk c m9)) ⟨[zo, zo], _, rfl, ⟨trivial, trivial, trivial⟩⟩ (z_steq (z_c1 rfl (z_c1 rfl (z_c1 (z_si (zi_add rfl rfl)) rfl))) rfl rfl) ?_
        exact ih _ (by omega) (x2 + 1) (some (.int (Int32.ofInt r9))) m9 hIm9 (by omega) tk10 tk11 rfl
      · refine zW.step (st1 := (51, [(some (.ref 18)), (some (.ref s)), (some (.int (Int32.ofInt x2))), (some (.int (Int32.ofInt r9)))], [], zk c m9)) (st2 := (51, [(some (.ref 18)), (some (.ref s)), (some (.int (Int32.ofInt x2))), (some (.int (Int32.ofInt r9)))], [], zk c m9)) ⟨[zo, zo, zo, zo], _, rfl, ⟨trivial, trivial, trivial, zbf (fun q => b12 ((zi_eq rfl rfl (by unfold zR; omega) (⟨by decide, by decide⟩ : zR (-1))).mp q)), trivial⟩⟩ rfl ?_
        have f13 : (-2147483648 : Int) ≤ m9 s ((110 + r9).toNat) ∧ m9 s ((110 + r9).toNat) ≤ 2147483647 := zr_i hIm9 h_s ((110 + r9).toNat)
        by_cases b14 : (m9 s ((110 + r9).toNat)) = 0
        · refine zW.step (st1 := (60, [(some (.ref 18)), (some (.ref s)), (some (.int (Int32.ofInt x2))), (some (.int (Int32.ofInt r9)))], [], zk c m9)) (st2 := (60, [(some (.ref 18)), (some (.ref s)), (some (.int (Int32.ofInt x2))), (some (.int (Int32.ofInt r9)))], [], zk c m9)) ⟨[zo, zo, zo, zo, (false, 0, none, zh0, some (.inl (0, 188, .inl (fun j => Int32.ofInt (m9 s j))))), zo], _, rfl, ⟨trivial, trivial, trivial, trivial, ⟨zk_ra c m9 h_s.1 (by omega), zi_in (zi_add (by decide : (Int8.ofInt 110).toInt32 = Int32.ofInt 110) rfl) (by omega) (by omega) (by decide)⟩, zbf (fun q => q ((zi_eq ((zk_rd (f := m9 s) (zi_add (by decide : (Int8.ofInt 110).toInt32 = Int32.ofInt 110) rfl) (by unfold zR; omega)).trans rfl : Int32.ofInt (m9 s (((Int8.ofInt 110).toInt32) + (Int32.ofInt r9)).toNatClampNeg) = Int32.ofInt (m9 s ((110 + r9).toNat))) (rfl : (0 : Int32) = Int32.ofInt 0) (by unfold zR; omega) (⟨by decide, by decide⟩ : zR 0)).mpr b14)), trivial⟩⟩ rfl ?_
          have f15 : (-2147483648 : Int) ≤ m9 19 r9.toNat ∧ m9 19 r9.toNat ≤ 2147483647 := hIm9.1 19 r9.toNat
          have f16 : (-2147483648 : Int) ≤ m9 s ((160 + x2).toNat) ∧ m9 s ((160 + x2).toNat) ≤ 2147483647 := zr_i hIm9 h_s ((160 + x2).toNat)
          have f17 := zwR ((m9 19 r9.toNat) + (m9 s ((160 + x2).toNat)))
          have f18 := zwI ((m9 19 r9.toNat) + (m9 s ((160 + x2).toNat)))
          obtain ⟨m19, hm19⟩ : ∃ q, q = zm_up m9 19 r9.toNat (zw ((m9 19 r9.toNat) + (m9 s ((160 + x2).toNat)))) := ⟨_, rfl⟩
          have hIm19 : zI c m19 := by rw [hm19]; exact zI_up hIm9 (by unfold zOk; omega) (show (-2147483648 : Int) ≤ (zw ((m9 19 r9.toNat) + (m9 s ((160 + x2).toNat)))) ∧ (zw ((m9 19 r9.toNat) + (m9 s ((160 + x2).toNat)))) ≤ 2147483647 by omega)
          have em19 : m19 19 r9.toNat = (zw ((m9 19 r9.toNat) + (m9 s ((160 + x2).toNat)))) := by rw [hm19]; exact zm_eq
          have tk20 : zF s m0 m19 := by rw [hm19]; exact zF_up tk10 (by unfold zQ; omega)
          have tk21 : m19 s 184 = m0 s 184 := by rw [hm19, zm_ne (by omega)]; exact tk11
          clear tk10
          refine zW.step (st1 := (76, [(some (.ref 18)), (some (.ref s)), (some (.int (Int32.ofInt x2))), (some (.int (Int32.ofInt r9)))], [], z_hup (zk c m9) 19 (.inl (0, 10, .inl (upd (fun j => Int32.ofInt (m9 19 j)) (Int32.ofInt r9).toNatClampNeg ((Int32.ofInt (m9 19 (Int32.ofInt r9).toNatClampNeg)) + (Int32.ofInt (m9 s (((Int16.ofInt 160).toInt32) + (Int32.ofInt x2)).toNatClampNeg)))))))) (st2 := (76, [(some (.ref 18)), (some (.ref s)), (some (.int (Int32.ofInt x2))), (some (.int (Int32.ofInt r9)))], [], zk c m19)) ⟨[zo, zo, zo, zo, (false, 0, none, zh0, some (.inl (0, 10, .inl (fun j => Int32.ofInt (m9 19 j))))), zo, zo, zo, zo, (false, 0, none, zh0, some (.inl (0, 188, .inl (fun j => Int32.ofInt (m9 s j))))), zo, (false, 0, none, zh0, some (.inl (0, 10, .inl (fun j => Int32.ofInt (m9 19 j)))))], _, rfl, ⟨trivial, (Nat.lt_of_lt_of_le (Nat.le_of_ble_eq_true rfl) hN), trivial, trivial, ⟨zk_ra c m9 zA_19 (Nat.lt_of_lt_of_le (Nat.le_of_ble_eq_true rfl) hN), zi_in rfl (by omega) (by omega) (by decide)⟩, trivial, trivial, trivial, trivial, ⟨zk_ra c m9 h_s.1 (by omega), zi_in (zi_add (by decide : (Int16.ofInt 160).toInt32 = Int32.ofInt 160) rfl) (by omega) (by omega) (by decide)⟩, trivial, ⟨zk_ra c m9 zA_19 (Nat.lt_of_lt_of_le (Nat.le_of_ble_eq_true rfl) hN), zi_in rfl (by omega) (by omega) (by decide)⟩, trivial⟩⟩ (z_steq rfl rfl ((zk_ias c m9 zA_19 rfl (by unfold zR; omega) (Eq.trans (zi_add ((zk_rd (f := m9 19) rfl (by unfold zR; omega)).trans rfl : Int32.ofInt (m9 19 (Int32.ofInt r9).toNatClampNeg) = Int32.ofInt (m9 19 r9.toNat)) ((zk_rd (f := m9 s) (zi_add (by decide : (Int16.ofInt 160).toInt32 = Int32.ofInt 160) rfl) (by unfold zR; omega)).trans rfl : Int32.ofInt (m9 s (((Int16.ofInt 160).toInt32) + (Int32.ofInt x2)).toNatClampNeg) = Int32.ofInt (m9 s ((160 + x2).toNat)))) (zw_eq _))).trans (by rw [hm19]))) ?_
          clear f6 f13 f15 f16 f17 f18 em19
          refine zW.step (st1 := (7, [(some (.ref 18)), (some (.ref s)), (some (.int ((Int32.ofInt x2) + Int32.ofInt 1))), (some (.int (Int32.ofInt r9)))], [], zk c m19)) (st2 := (7, [(some (.ref 18)), (some (.ref s)), (some (.int (Int32.ofInt (x2 + 1)))), (some (.int (Int32.ofInt r9)))], [], zk c m19)) ⟨[zo, zo], _, rfl, ⟨trivial, trivial, trivial⟩⟩ (z_steq (z_c1 rfl (z_c1 rfl (z_c1 (z_si (zi_add rfl rfl)) rfl))) rfl rfl) ?_
          exact ih _ (by omega) (x2 + 1) (some (.int (Int32.ofInt r9))) m19 hIm19 (by omega) tk20 tk21 rfl
        · refine zW.step (st1 := (76, [(some (.ref 18)), (some (.ref s)), (some (.int (Int32.ofInt x2))), (some (.int (Int32.ofInt r9)))], [], zk c m9)) (st2 := (76, [(some (.ref 18)), (some (.ref s)), (some (.int (Int32.ofInt x2))), (some (.int (Int32.ofInt r9)))], [], zk c m9)) ⟨[zo, zo, zo, zo, (false, 0, none, zh0, some (.inl (0, 188, .inl (fun j => Int32.ofInt (m9 s j))))), zt], _, rfl, ⟨trivial, trivial, trivial, trivial, ⟨zk_ra c m9 h_s.1 (by omega), zi_in (zi_add (by decide : (Int8.ofInt 110).toInt32 = Int32.ofInt 110) rfl) (by omega) (by omega) (by decide)⟩, zbt (fun q => b14 ((zi_eq ((zk_rd (f := m9 s) (zi_add (by decide : (Int8.ofInt 110).toInt32 = Int32.ofInt 110) rfl) (by unfold zR; omega)).trans rfl : Int32.ofInt (m9 s (((Int8.ofInt 110).toInt32) + (Int32.ofInt r9)).toNatClampNeg) = Int32.ofInt (m9 s ((110 + r9).toNat))) (rfl : (0 : Int32) = Int32.ofInt 0) (by unfold zR; omega) (⟨by decide, by decide⟩ : zR 0)).mp q)), trivial⟩⟩ rfl ?_
          refine zW.step (st1 := (7, [(some (.ref 18)), (some (.ref s)), (some (.int ((Int32.ofInt x2) + Int32.ofInt 1))), (some (.int (Int32.ofInt r9)))], [], zk c m9)) (st2 := (7, [(some (.ref 18)), (some (.ref s)), (some (.int (Int32.ofInt (x2 + 1)))), (some (.int (Int32.ofInt r9)))], [], zk c m9)) ⟨[zo, zo], _, rfl, ⟨trivial, trivial, trivial⟩⟩ (z_steq (z_c1 rfl (z_c1 rfl (z_c1 (z_si (zi_add rfl rfl)) rfl))) rfl rfl) ?_
          exact ih _ (by omega) (x2 + 1) (some (.int (Int32.ofInt r9))) m9 hIm9 (by omega) tk10 tk11 rfl

set_option maxRecDepth 100000 in
set_option maxHeartbeats 4000000 in
theorem S_X3_pass (zn : Bool) (d : Nat) {c : Nat × Nat} (hN : 107 ≤ c.1) (hC : c.1 < z_RO) (s : Nat) (m : zM) (hIm : zI c m) (h_s : zS s) (k_s : s = 17 ∨ s = 70 ∨ s = 74 ∨ s = 76) (hh : m s 184 ≤ 999999999) : zCv zn (d + 4) 68 [.ref 18, .ref s] c m (fun (m1 : zM) => zI c m1 ∧ (m1 s 184 = m s 184 + 1) ∧ zF s m m1) := by
  refine zCv.of zu_X3_pass hC (Nat.le_of_ble_eq_true rfl) ?_
  show zW zn (d + 3) 68 c (0, [(some (.ref 18)), (some (.ref s)), none, none], [], zk c m) (fun v h1 => ∃ (m1 : zM), v = none ∧ h1 = zk c m1 ∧ zI c m1 ∧ (m1 s 184 = m s 184 + 1) ∧ zF s m m1)
  refine zW.step (st1 := (2, [(some (.ref 18)), (some (.ref s)), none, none], [.ref s, .ref 18], zk c m)) (st2 := (2, [(some (.ref 18)), (some (.ref s)), none, none], [.ref s, .ref 18], zk c m)) ⟨[zo, zo], _, rfl, ⟨trivial, trivial, trivial⟩⟩ rfl ?_
  obtain ⟨m22, hs22, hIm22, kF_22, kG_22⟩ := S_X3_prepare zn (d + 1) hN hC s m hIm h_s (by omega)
  refine zW.step (st1 := (5, [(some (.ref 18)), (some (.ref s)), none, none], [], zk c m22)) ⟨[zc (none) (zk c m22)], _, rfl, ⟨⟨⟨(Nat.lt_of_lt_of_le (Nat.le_of_ble_eq_true rfl) hN), (Nat.le_of_ble_eq_true rfl)⟩, hs22, (Nat.le_of_ble_eq_true rfl), Nat.le_refl _, Nat.le_refl _, Nat.le_refl _, Nat.le_refl _⟩, trivial⟩⟩ rfl ?_
  have tk23 : zF s m m22 := zF_tr zF_rf kF_22 (by unfold zQ; omega)
  have tk24 : m22 s 184 = m s 184 := zG_c kG_22 rfl
  refine zW.step (st1 := (7, [(some (.ref 18)), (some (.ref s)), (some (.int (Int32.ofInt 0))), none], [], zk c m22)) (st2 := (7, [(some (.ref 18)), (some (.ref s)), (some (.int (Int32.ofInt 0))), none], [], zk c m22)) ⟨[zo, zo], _, rfl, ⟨trivial, trivial, trivial⟩⟩ rfl ?_
  refine L_X3_pass_7 zn _ hN hC s h_s k_s m _ (fun x2_25 o3_25 m_25 hIm_25 i1_25 tF_25 tCh_25 => ?_) _ 0 none m22 hIm22 (by omega) tk23 tk24 rfl
  refine zW.step (st1 := (84, [(some (.ref 18)), (some (.ref s)), (some (.int (Int32.ofInt x2_25))), o3_25], [.ref s, .ref 18], zk c m_25)) (st2 := (84, [(some (.ref 18)), (some (.ref s)), (some (.int (Int32.ofInt x2_25))), o3_25], [.ref s, .ref 18], zk c m_25)) ⟨[zo, zo], _, rfl, ⟨trivial, trivial, trivial⟩⟩ rfl ?_
  obtain ⟨m26, hs26, hIm26, kF_26, kG_26⟩ := S_X3_digest zn (d + 1) hN hC s m_25 hIm_25 h_s (by omega)
  refine zW.step (st1 := (87, [(some (.ref 18)), (some (.ref s)), (some (.int (Int32.ofInt x2_25))), o3_25], [], zk c m26)) ⟨[zc (none) (zk c m26)], _, rfl, ⟨⟨⟨(Nat.lt_of_lt_of_le (Nat.le_of_ble_eq_true rfl) hN), (Nat.le_of_ble_eq_true rfl)⟩, hs26, (Nat.le_of_ble_eq_true rfl), Nat.le_refl _, Nat.le_refl _, Nat.le_refl _, Nat.le_refl _⟩, trivial⟩⟩ rfl ?_
  have tk27 : zF s m m26 := zF_tr tF_25 kF_26 (by unfold zQ; omega)
  have tk28 : m26 s 184 = m s 184 := zG_c kG_26 tCh_25
  refine zW.step (st1 := (89, [(some (.ref 18)), (some (.ref s)), (some (.int (Int32.ofInt x2_25))), o3_25], [.ref s, .ref 18], zk c m26)) (st2 := (89, [(some (.ref 18)), (some (.ref s)), (some (.int (Int32.ofInt x2_25))), o3_25], [.ref s, .ref 18], zk c m26)) ⟨[zo, zo], _, rfl, ⟨trivial, trivial, trivial⟩⟩ rfl ?_
  obtain ⟨m29, hs29, hIm29, kF_29, kG_29⟩ := S_X3_goWild zn (d + 0) hN hC s m26 hIm26 h_s (by omega)
  refine zW.step (st1 := (92, [(some (.ref 18)), (some (.ref s)), (some (.int (Int32.ofInt x2_25))), o3_25], [], zk c m29)) ⟨[zc (none) (zk c m29)], _, rfl, ⟨⟨⟨(Nat.lt_of_lt_of_le (Nat.le_of_ble_eq_true rfl) hN), (Nat.le_of_ble_eq_true rfl)⟩, hs29, (Nat.le_of_ble_eq_true rfl), Nat.le_refl _, Nat.le_refl _, Nat.le_refl _, Nat.le_refl _⟩, trivial⟩⟩ rfl ?_
  have tk30 : zF s m m29 := zF_tr tk27 kF_29 (by unfold zQ; omega)
  have tk31 : m29 s 184 = m s 184 := zG_c kG_29 tk28
  have f32 : (0 : Int) ≤ m29 s 184 ∧ m29 s 184 ≤ 1000000000 := zr_h hIm29 h_s
  obtain ⟨m33, hm33⟩ : ∃ q, q = zm_up m29 s 184 ((m29 s 184) + 1) := ⟨_, rfl⟩
  have hIm33 : zI c m33 := by rw [hm33]; exact zI_up hIm29 (by unfold zOk; omega) (zrw_h h_s (show (0 : Int) ≤ ((m29 s 184) + 1) ∧ ((m29 s 184) + 1) ≤ 1000000000 by omega))
  have em33 : m33 s 184 = ((m29 s 184) + 1) := by rw [hm33]; exact zm_eq
  have tk34 : zF s m m33 := by rw [hm33]; exact zF_up tk30 (by unfold zQ; omega)
  have tk35 : m33 s 184 = (m29 s 184) + 1 := em33
  clear tk30
  refine zW.step (st1 := (101, [(some (.ref 18)), (some (.ref s)), (some (.int (Int32.ofInt x2_25))), o3_25], [], z_hup (zk c m29) s (.inl (0, 188, .inl (upd (fun j => Int32.ofInt (m29 s j)) ((Int16.ofInt 184).toInt32).toNatClampNeg ((Int32.ofInt (m29 s ((Int16.ofInt 184).toInt32).toNatClampNeg)) + (Int32.ofInt 1))))))) (st2 := (101, [(some (.ref 18)), (some (.ref s)), (some (.int (Int32.ofInt x2_25))), o3_25], [], zk c m33)) ⟨[zo, zo, zo, (false, 0, none, zh0, some (.inl (0, 188, .inl (fun j => Int32.ofInt (m29 s j))))), zo, zo, (false, 0, none, zh0, some (.inl (0, 188, .inl (fun j => Int32.ofInt (m29 s j)))))], _, rfl, ⟨trivial, trivial, trivial, ⟨zk_ra c m29 h_s.1 (by omega), zi_in (by decide : (Int16.ofInt 184).toInt32 = Int32.ofInt 184) (by omega) (by omega) (by decide)⟩, trivial, trivial, ⟨zk_ra c m29 h_s.1 (by omega), zi_in (by decide : (Int16.ofInt 184).toInt32 = Int32.ofInt 184) (by omega) (by omega) (by decide)⟩, trivial⟩⟩ (z_steq rfl rfl ((zk_ias c m29 h_s.1 (by decide : (Int16.ofInt 184).toInt32 = Int32.ofInt 184) (⟨by decide, by decide⟩ : zR 184) (zi_add ((zk_rd (f := m29 s) (by decide : (Int16.ofInt 184).toInt32 = Int32.ofInt 184) (⟨by decide, by decide⟩ : zR 184)).trans rfl : Int32.ofInt (m29 s ((Int16.ofInt 184).toInt32).toNatClampNeg) = Int32.ofInt (m29 s 184)) rfl)).trans (by rw [hm33]; rfl))) ?_
  clear f32 em33
  have f36 : (-2147483648 : Int) ≤ m33 s 186 ∧ m33 s 186 ≤ 2147483647 := zr_i hIm33 h_s 186
  have f37 : (-2147483648 : Int) ≤ m33 18 3 ∧ m33 18 3 ≤ 2147483647 := hIm33.1 18 3
  have f38 := zwR ((m33 s 186) + (m33 18 3))
  have f39 := zwI ((m33 s 186) + (m33 18 3))
  obtain ⟨m40, hm40⟩ : ∃ q, q = zm_up m33 s 186 (zw ((m33 s 186) + (m33 18 3))) := ⟨_, rfl⟩
  have hIm40 : zI c m40 := by rw [hm40]; exact zI_up hIm33 (by unfold zOk; omega) (zrw_i h_s (by omega) (show (-2147483648 : Int) ≤ (zw ((m33 s 186) + (m33 18 3))) ∧ (zw ((m33 s 186) + (m33 18 3))) ≤ 2147483647 by omega))
  have em40 : m40 s 186 = (zw ((m33 s 186) + (m33 18 3))) := by rw [hm40]; exact zm_eq
  have tk41 : zF s m m40 := by rw [hm40]; exact zF_up tk34 (by unfold zQ; omega)
  have tk42 : m40 s 184 = (m29 s 184) + 1 := by rw [hm40, zm_ne (by omega)]; exact tk35
  clear tk34
  refine zW.step (st1 := (113, [(some (.ref 18)), (some (.ref s)), (some (.int (Int32.ofInt x2_25))), o3_25], [], z_hup (zk c m33) s (.inl (0, 188, .inl (upd (fun j => Int32.ofInt (m33 s j)) ((Int16.ofInt 186).toInt32).toNatClampNeg ((Int32.ofInt (m33 s ((Int16.ofInt 186).toInt32).toNatClampNeg)) + (Int32.ofInt (m33 18 3)))))))) (st2 := (113, [(some (.ref 18)), (some (.ref s)), (some (.int (Int32.ofInt x2_25))), o3_25], [], zk c m40)) ⟨[zo, zo, zo, (false, 0, none, zh0, some (.inl (0, 188, .inl (fun j => Int32.ofInt (m33 s j))))), zo, zo, zo, (false, 0, none, zh0, some (.inl (0, 188, .inl (fun j => Int32.ofInt (m33 s j)))))], _, rfl, ⟨trivial, trivial, trivial, ⟨zk_ra c m33 h_s.1 (by omega), zi_in (by decide : (Int16.ofInt 186).toInt32 = Int32.ofInt 186) (by omega) (by omega) (by decide)⟩, trivial, (Nat.lt_of_lt_of_le (Nat.le_of_ble_eq_true rfl) hN), trivial, ⟨zk_ra c m33 h_s.1 (by omega), zi_in (by decide : (Int16.ofInt 186).toInt32 = Int32.ofInt 186) (by omega) (by omega) (by decide)⟩, trivial⟩⟩ (z_steq rfl rfl ((zk_ias c m33 h_s.1 (by decide : (Int16.ofInt 186).toInt32 = Int32.ofInt 186) (⟨by decide, by decide⟩ : zR 186) (Eq.trans (zi_add ((zk_rd (f := m33 s) (by decide : (Int16.ofInt 186).toInt32 = Int32.ofInt 186) (⟨by decide, by decide⟩ : zR 186)).trans rfl : Int32.ofInt (m33 s ((Int16.ofInt 186).toInt32).toNatClampNeg) = Int32.ofInt (m33 s 186)) rfl) (zw_eq _))).trans (by rw [hm40]; rfl))) ?_
  clear f36 f37 f38 f39 em40
  have f43 : (-2147483648 : Int) ≤ m40 s 187 ∧ m40 s 187 ≤ 2147483647 := zr_i hIm40 h_s 187
  have f44 : (-2147483648 : Int) ≤ m40 18 4 ∧ m40 18 4 ≤ 2147483647 := hIm40.1 18 4
  have f45 := zwR ((m40 s 187) + (m40 18 4))
  have f46 := zwI ((m40 s 187) + (m40 18 4))
  obtain ⟨m47, hm47⟩ : ∃ q, q = zm_up m40 s 187 (zw ((m40 s 187) + (m40 18 4))) := ⟨_, rfl⟩
  have hIm47 : zI c m47 := by rw [hm47]; exact zI_up hIm40 (by unfold zOk; omega) (zrw_i h_s (by omega) (show (-2147483648 : Int) ≤ (zw ((m40 s 187) + (m40 18 4))) ∧ (zw ((m40 s 187) + (m40 18 4))) ≤ 2147483647 by omega))
  have em47 : m47 s 187 = (zw ((m40 s 187) + (m40 18 4))) := by rw [hm47]; exact zm_eq
  have tk48 : zF s m m47 := by rw [hm47]; exact zF_up tk41 (by unfold zQ; omega)
  have tk49 : m47 s 184 = (m29 s 184) + 1 := by rw [hm47, zm_ne (by omega)]; exact tk42
  clear tk41
  refine zW.step (st1 := (125, [(some (.ref 18)), (some (.ref s)), (some (.int (Int32.ofInt x2_25))), o3_25], [], z_hup (zk c m40) s (.inl (0, 188, .inl (upd (fun j => Int32.ofInt (m40 s j)) ((Int16.ofInt 187).toInt32).toNatClampNeg ((Int32.ofInt (m40 s ((Int16.ofInt 187).toInt32).toNatClampNeg)) + (Int32.ofInt (m40 18 4)))))))) (st2 := (125, [(some (.ref 18)), (some (.ref s)), (some (.int (Int32.ofInt x2_25))), o3_25], [], zk c m47)) ⟨[zo, zo, zo, (false, 0, none, zh0, some (.inl (0, 188, .inl (fun j => Int32.ofInt (m40 s j))))), zo, zo, zo, (false, 0, none, zh0, some (.inl (0, 188, .inl (fun j => Int32.ofInt (m40 s j)))))], _, rfl, ⟨trivial, trivial, trivial, ⟨zk_ra c m40 h_s.1 (by omega), zi_in (by decide : (Int16.ofInt 187).toInt32 = Int32.ofInt 187) (by omega) (by omega) (by decide)⟩, trivial, (Nat.lt_of_lt_of_le (Nat.le_of_ble_eq_true rfl) hN), trivial, ⟨zk_ra c m40 h_s.1 (by omega), zi_in (by decide : (Int16.ofInt 187).toInt32 = Int32.ofInt 187) (by omega) (by omega) (by decide)⟩, trivial⟩⟩ (z_steq rfl rfl ((zk_ias c m40 h_s.1 (by decide : (Int16.ofInt 187).toInt32 = Int32.ofInt 187) (⟨by decide, by decide⟩ : zR 187) (Eq.trans (zi_add ((zk_rd (f := m40 s) (by decide : (Int16.ofInt 187).toInt32 = Int32.ofInt 187) (⟨by decide, by decide⟩ : zR 187)).trans rfl : Int32.ofInt (m40 s ((Int16.ofInt 187).toInt32).toNatClampNeg) = Int32.ofInt (m40 s 187)) rfl) (zw_eq _))).trans (by rw [hm47]; rfl))) ?_
  clear f43 f44 f45 f46 em47
  exact zW.fin (zfin_v rfl rfl) ⟨m47, rfl, rfl, hIm47, (by omega), tk48⟩

set_option maxRecDepth 100000 in
set_option maxHeartbeats 4000000 in
theorem S_X8_isDigit (zn : Bool) (d : Nat) {c : Nat × Nat} (hN : 107 ≤ c.1) (hC : c.1 < z_RO) (a : Int) (m : zM) (hIm : zI c m) (r_a : -2147483648 ≤ a ∧ a ≤ 2147483647) : zPi zn (d + 1) 108 [.int (Int32.ofInt a)] c m (fun (r : Int) => (0 ≤ r ∧ r ≤ 1) ∧ (r = 1 ↔ 48 ≤ a ∧ a ≤ 57)) := by
  refine zPi.of zu_X8_isDigit hC (Nat.le_of_ble_eq_true rfl) ?_
  show zW zn (d + 0) 108 c (0, [(some (.int (Int32.ofInt a)))], [], zk c m) (fun v h1 => ∃ (r : Int), v = some (.int (Int32.ofInt r)) ∧ h1 = zk c m ∧ (0 ≤ r ∧ r ≤ 1) ∧ (r = 1 ↔ 48 ≤ a ∧ a ≤ 57))
  by_cases b1 : a < 48
  · refine zW.step (st1 := (16, [(some (.int (Int32.ofInt a)))], [], zk c m)) (st2 := (16, [(some (.int (Int32.ofInt a)))], [], zk c m)) ⟨[zo, zo, zt], _, rfl, ⟨trivial, trivial, zbt ((zi_lt rfl (by decide : (Int8.ofInt 48).toInt32 = Int32.ofInt 48) (by unfold zR; omega) (⟨by decide, by decide⟩ : zR 48)).mpr b1), trivial⟩⟩ rfl ?_
    refine zW.step (st1 := (17, [(some (.int (Int32.ofInt a)))], [.int (Int32.ofInt 0)], zk c m)) (st2 := (17, [(some (.int (Int32.ofInt a)))], [.int (Int32.ofInt 0)], zk c m)) ⟨[zo], _, rfl, ⟨trivial, trivial⟩⟩ rfl ?_
    exact zW.fin (zfin_i rfl rfl rfl) ⟨0, rfl, rfl, (by omega), (by omega)⟩
  · refine zW.step (st1 := (6, [(some (.int (Int32.ofInt a)))], [], zk c m)) (st2 := (6, [(some (.int (Int32.ofInt a)))], [], zk c m)) ⟨[zo, zo, zo], _, rfl, ⟨trivial, trivial, zbf (fun q => b1 ((zi_lt rfl (by decide : (Int8.ofInt 48).toInt32 = Int32.ofInt 48) (by unfold zR; omega) (⟨by decide, by decide⟩ : zR 48)).mp q)), trivial⟩⟩ rfl ?_
    by_cases b2 : 57 < a
    · refine zW.step (st1 := (16, [(some (.int (Int32.ofInt a)))], [], zk c m)) (st2 := (16, [(some (.int (Int32.ofInt a)))], [], zk c m)) ⟨[zo, zo, zt], _, rfl, ⟨trivial, trivial, zbt ((zi_lt (by decide : (Int8.ofInt 57).toInt32 = Int32.ofInt 57) rfl (⟨by decide, by decide⟩ : zR 57) (by unfold zR; omega)).mpr b2), trivial⟩⟩ rfl ?_
      refine zW.step (st1 := (17, [(some (.int (Int32.ofInt a)))], [.int (Int32.ofInt 0)], zk c m)) (st2 := (17, [(some (.int (Int32.ofInt a)))], [.int (Int32.ofInt 0)], zk c m)) ⟨[zo], _, rfl, ⟨trivial, trivial⟩⟩ rfl ?_
      exact zW.fin (zfin_i rfl rfl rfl) ⟨0, rfl, rfl, (by omega), (by omega)⟩
    · refine zW.step (st1 := (12, [(some (.int (Int32.ofInt a)))], [], zk c m)) (st2 := (12, [(some (.int (Int32.ofInt a)))], [], zk c m)) ⟨[zo, zo, zo], _, rfl, ⟨trivial, trivial, zbf (fun q => b2 ((zi_lt (by decide : (Int8.ofInt 57).toInt32 = Int32.ofInt 57) rfl (⟨by decide, by decide⟩ : zR 57) (by unfold zR; omega)).mp q)), trivial⟩⟩ rfl ?_
      refine zW.step (st1 := (17, [(some (.int (Int32.ofInt a)))], [.int (Int32.ofInt 1)], zk c m)) (st2 := (17, [(some (.int (Int32.ofInt a)))], [.int (Int32.ofInt 1)], zk c m)) ⟨[zo, zo], _, rfl, ⟨trivial, trivial, trivial⟩⟩ rfl ?_
      exact zW.fin (zfin_i rfl rfl rfl) ⟨1, rfl, rfl, (by omega), (by omega)⟩

set_option maxRecDepth 100000 in
set_option maxHeartbeats 4000000 in
theorem S_X8_here (zn : Bool) (d : Nat) {c : Nat × Nat} (hN : 107 ≤ c.1) (hC : c.1 < z_RO) (m : zM) (hIm : zI c m) : zPi zn (d + 1) 106 [.ref 1] c m (fun (r : Int) => (-1 ≤ r ∧ r ≤ 255) ∧ (r = -1 ∨ m 1 2 < m 1 1)) := by
  refine zPi.of zu_X8_here hC (Nat.le_of_ble_eq_true rfl) ?_
  show zW zn (d + 0) 106 c (0, [(some (.ref 1))], [], zk c m) (fun v h1 => ∃ (r : Int), v = some (.int (Int32.ofInt r)) ∧ h1 = zk c m ∧ (-1 ≤ r ∧ r ≤ 255) ∧ (r = -1 ∨ m 1 2 < m 1 1))
  have f1 : (0 : Int) ≤ m 1 2 ∧ m 1 2 ≤ 240 := hIm.1 1 2
  have f2 : (0 : Int) ≤ m 1 1 ∧ m 1 1 ≤ 240 := hIm.1 1 1
  by_cases b3 : (m 1 1) ≤ (m 1 2)
  · refine zW.step (st1 := (23, [(some (.ref 1))], [], zk c m)) (st2 := (23, [(some (.ref 1))], [], zk c m)) ⟨[zo, zo, zo, zo, zt], _, rfl, ⟨trivial, (Nat.lt_of_lt_of_le (Nat.le_of_ble_eq_true rfl) hN), trivial, (Nat.lt_of_lt_of_le (Nat.le_of_ble_eq_true rfl) hN), zbt ((zi_le rfl rfl (by unfold zR; omega) (by unfold zR; omega)).mpr b3), trivial⟩⟩ rfl ?_
    refine zW.step (st1 := (24, [(some (.ref 1))], [.int (Int32.ofInt (-1))], zk c m)) (st2 := (24, [(some (.ref 1))], [.int (Int32.ofInt (-1))], zk c m)) ⟨[zo], _, rfl, ⟨trivial, trivial⟩⟩ rfl ?_
    exact zW.fin (zfin_i rfl rfl rfl) ⟨(-1), rfl, rfl, (by omega), (by omega)⟩
  · refine zW.step (st1 := (11, [(some (.ref 1))], [], zk c m)) (st2 := (11, [(some (.ref 1))], [], zk c m)) ⟨[zo, zo, zo, zo, zo], _, rfl, ⟨trivial, (Nat.lt_of_lt_of_le (Nat.le_of_ble_eq_true rfl) hN), trivial, (Nat.lt_of_lt_of_le (Nat.le_of_ble_eq_true rfl) hN), zbf (fun q => b3 ((zi_le rfl rfl (by unfold zR; omega) (by unfold zR; omega)).mp q)), trivial⟩⟩ rfl ?_
    have f4 : (0 : Int) ≤ m 2 ((m 1 2).toNat) ∧ m 2 ((m 1 2).toNat) ≤ 255 := hIm.1 2 ((m 1 2).toNat)
    refine zW.step (st1 := (24, [(some (.ref 1))], [.int (Int32.ofInt (m 2 (Int32.ofInt (m 1 2)).toNatClampNeg))], zk c m)) (st2 := (24, [(some (.ref 1))], [.int (Int32.ofInt (m 2 ((m 1 2).toNat)))], zk c m)) ⟨[zo, zo, zo, zo, (false, 0, none, zh0, some (.inl (0, 240, .inl (fun j => Int32.ofInt (m 2 j))))), zo], _, rfl, ⟨trivial, (Nat.lt_of_lt_of_le (Nat.le_of_ble_eq_true rfl) hN), trivial, (Nat.lt_of_lt_of_le (Nat.le_of_ble_eq_true rfl) hN), ⟨zk_ra c m zA_2 (Nat.lt_of_lt_of_le (Nat.le_of_ble_eq_true rfl) hN), zi_in rfl (by omega) (by omega) (by decide)⟩, trivial, trivial⟩⟩ (z_steq rfl (z_c1 (z_vi ((zk_rd (f := m 2) rfl (by unfold zR; omega)).trans rfl : Int32.ofInt (m 2 (Int32.ofInt (m 1 2)).toNatClampNeg) = Int32.ofInt (m 2 ((m 1 2).toNat)))) rfl) rfl) ?_
    exact zW.fin (zfin_i rfl rfl rfl) ⟨m 2 ((m 1 2).toNat), rfl, rfl, (by omega), (by omega)⟩

set_option maxRecDepth 100000 in
set_option maxHeartbeats 4000000 in
theorem L_X8_next_0 (zn : Bool) (d : Nat) {c : Nat × Nat} (hN : 107 ≤ c.1) (hC : c.1 < z_RO) (m0 : zM) (Q : Option Value → z_H → Prop) (K : ∀  (m : zM), zI c m → m0 1 2 ≤ m 1 2 → zN m0 m → m 1 1 = m0 1 1 → m 4 3 = m0 4 3 → m 4 4 = m0 4 4 → m 8 185 = m0 8 185 → zW zn (d + 1) 109 c (38, [(some (.ref 1))], [], zk c m) Q) :
    ∀ (w : Nat)  (m : zM), zI c m → m0 1 2 ≤ m 1 2 → zN m0 m → m 1 1 = m0 1 1 → m 4 3 = m0 4 3 → m 4 4 = m0 4 4 → m 8 185 = m0 8 185 → w = (240 - m 1 2).toNat → zW zn (d + 1) 109 c (0, [(some (.ref 1))], [], zk c m) Q := by
  intro w
  induction w using Nat.strongRecOn with | _ w ih => ?_
  intro m hIm j tN tCl tCr tCp tCn hw
  have f1 : (0 : Int) ≤ m 1 1 ∧ m 1 1 ≤ 240 := hIm.1 1 1
  have f2 : (0 : Int) ≤ m 1 2 ∧ m 1 2 ≤ 240 := hIm.1 1 2
  by_cases b3 : (m 1 1) ≤ (m 1 2)
  · refine zW.step (st1 := (38, [(some (.ref 1))], [], zk c m)) (st2 := (38, [(some (.ref 1))], [], zk c m)) ⟨[zo, zo, zo, zo, zt], _, rfl, ⟨trivial, (Nat.lt_of_lt_of_le (Nat.le_of_ble_eq_true rfl) hN), trivial, (Nat.lt_of_lt_of_le (Nat.le_of_ble_eq_true rfl) hN), zbt ((zi_le rfl rfl (by unfold zR; omega) (by unfold zR; omega)).mpr b3), trivial⟩⟩ rfl ?_
    exact K m hIm (by omega) tN tCl tCr tCp tCn
  · refine zW.step (st1 := (11, [(some (.ref 1))], [], zk c m)) (st2 := (11, [(some (.ref 1))], [], zk c m)) ⟨[zo, zo, zo, zo, zo], _, rfl, ⟨trivial, (Nat.lt_of_lt_of_le (Nat.le_of_ble_eq_true rfl) hN), trivial, (Nat.lt_of_lt_of_le (Nat.le_of_ble_eq_true rfl) hN), zbf (fun q => b3 ((zi_le rfl rfl (by unfold zR; omega) (by unfold zR; omega)).mp q)), trivial⟩⟩ rfl ?_
    have f4 : (0 : Int) ≤ m 2 ((m 1 2).toNat) ∧ m 2 ((m 1 2).toNat) ≤ 255 := hIm.1 2 ((m 1 2).toNat)
    by_cases b5 : (m 2 ((m 1 2).toNat)) = 32
    · refine zW.step (st1 := (25, [(some (.ref 1))], [], zk c m)) (st2 := (25, [(some (.ref 1))], [], zk c m)) ⟨[zo, zo, zo, zo, (false, 0, none, zh0, some (.inl (0, 240, .inl (fun j => Int32.ofInt (m 2 j))))), zo, zo], _, rfl, ⟨trivial, (Nat.lt_of_lt_of_le (Nat.le_of_ble_eq_true rfl) hN), trivial, (Nat.lt_of_lt_of_le (Nat.le_of_ble_eq_true rfl) hN), ⟨zk_ra c m zA_2 (Nat.lt_of_lt_of_le (Nat.le_of_ble_eq_true rfl) hN), zi_in rfl (by omega) (by omega) (by decide)⟩, trivial, zbf (fun q => q ((zi_eq ((zk_rd (f := m 2) rfl (by unfold zR; omega)).trans rfl : Int32.ofInt (m 2 (Int32.ofInt (m 1 2)).toNatClampNeg) = Int32.ofInt (m 2 ((m 1 2).toNat))) (by decide : (Int8.ofInt 32).toInt32 = Int32.ofInt 32) (by unfold zR; omega) (⟨by decide, by decide⟩ : zR 32)).mpr b5)), trivial⟩⟩ rfl ?_
      obtain ⟨m6, hm6⟩ : ∃ q, q = zm_up m 1 2 ((m 1 2) + 1) := ⟨_, rfl⟩
      have hIm6 : zI c m6 := by rw [hm6]; exact zI_up hIm (by unfold zOk; omega) (show (0 : Int) ≤ ((m 1 2) + 1) ∧ ((m 1 2) + 1) ≤ 240 by omega)
      have em6 : m6 1 2 = ((m 1 2) + 1) := by rw [hm6]; exact zm_eq
      have tk7 : zN m0 m6 := by rw [hm6]; exact zN_up tN (by unfold zRow; omega)
      have tk8 : m6 1 1 = m0 1 1 := by rw [hm6, zm_ne (by omega)]; exact tCl
      have tk9 : m6 4 3 = m0 4 3 := by rw [hm6, zm_ne (by omega)]; exact tCr
      have tk10 : m6 4 4 = m0 4 4 := by rw [hm6, zm_ne (by omega)]; exact tCp
      have tk11 : m6 8 185 = m0 8 185 := by rw [hm6, zm_ne (by omega)]; exact tCn
      refine zW.step (st1 := (35, [(some (.ref 1))], [], z_hup (zk c m) 1 (.inr (8, [.ref 2, .int (Int32.ofInt (m 1 1)), .int ((Int32.ofInt (m 1 2)) + (Int32.ofInt 1)), .int (Int32.ofInt (m 1 3))])))) (st2 := (35, [(some (.ref 1))], [], zk c m6)) ⟨[zo, zo, zo, zo, zo, zo], _, rfl, ⟨trivial, trivial, (Nat.lt_of_lt_of_le (Nat.le_of_ble_eq_true rfl) hN), trivial, trivial, ⟨(Nat.lt_of_lt_of_le (Nat.le_of_ble_eq_true rfl) hN), rfl, rfl⟩, trivial⟩⟩ (z_steq rfl rfl ((zk_up c m 1 2 ((m 1 2) + 1) _ ((congrArg (fun q => (.inr (8, [.ref 2, .int (Int32.ofInt (m 1 1)), .int q, .int (Int32.ofInt (m 1 3))]) : z_E)) (zi_add rfl rfl)).trans rfl)).trans (by rw [hm6]))) ?_
      refine zW.step (st1 := (0, [(some (.ref 1))], [], zk c m6)) (st2 := (0, [(some (.ref 1))], [], zk c m6)) ⟨[zo], _, rfl, ⟨trivial, trivial⟩⟩ rfl ?_
      exact ih _ (by omega) m6 hIm6 (by omega) tk7 tk8 tk9 tk10 tk11 rfl
    · refine zW.step (st1 := (38, [(some (.ref 1))], [], zk c m)) (st2 := (38, [(some (.ref 1))], [], zk c m)) ⟨[zo, zo, zo, zo, (false, 0, none, zh0, some (.inl (0, 240, .inl (fun j => Int32.ofInt (m 2 j))))), zo, zt], _, rfl, ⟨trivial, (Nat.lt_of_lt_of_le (Nat.le_of_ble_eq_true rfl) hN), trivial, (Nat.lt_of_lt_of_le (Nat.le_of_ble_eq_true rfl) hN), ⟨zk_ra c m zA_2 (Nat.lt_of_lt_of_le (Nat.le_of_ble_eq_true rfl) hN), zi_in rfl (by omega) (by omega) (by decide)⟩, trivial, zbt (fun q => b5 ((zi_eq ((zk_rd (f := m 2) rfl (by unfold zR; omega)).trans rfl : Int32.ofInt (m 2 (Int32.ofInt (m 1 2)).toNatClampNeg) = Int32.ofInt (m 2 ((m 1 2).toNat))) (by decide : (Int8.ofInt 32).toInt32 = Int32.ofInt 32) (by unfold zR; omega) (⟨by decide, by decide⟩ : zR 32)).mp q)), trivial⟩⟩ rfl ?_
      exact K m hIm (by omega) tN tCl tCr tCp tCn

set_option maxRecDepth 100000 in
set_option maxHeartbeats 4000000 in
theorem S_X8_next (zn : Bool) (d : Nat) {c : Nat × Nat} (hN : 107 ≤ c.1) (hC : c.1 < z_RO) (m : zM) (hIm : zI c m) : zCi zn (d + 2) 109 [.ref 1] c m (fun (r : Int) (m1 : zM) => zI c m1 ∧ (-1 ≤ r ∧ r ≤ 255) ∧ (r = -1 ∨ m1 1 2 < m1 1 1) ∧ (m1 1 1 = m 1 1) ∧ (m 1 2 ≤ m1 1 2) ∧ (m1 4 3 = m 4 3) ∧ (m1 4 4 = m 4 4) ∧ (m1 8 185 = m 8 185) ∧ zN m m1) := by
  refine zCi.of zu_X8_next hC (Nat.le_of_ble_eq_true rfl) ?_
  show zW zn (d + 1) 109 c (0, [(some (.ref 1))], [], zk c m) (fun v h1 => ∃ (r : Int) (m1 : zM), v = some (.int (Int32.ofInt r)) ∧ h1 = zk c m1 ∧ zI c m1 ∧ (-1 ≤ r ∧ r ≤ 255) ∧ (r = -1 ∨ m1 1 2 < m1 1 1) ∧ (m1 1 1 = m 1 1) ∧ (m 1 2 ≤ m1 1 2) ∧ (m1 4 3 = m 4 3) ∧ (m1 4 4 = m 4 4) ∧ (m1 8 185 = m 8 185) ∧ zN m m1)
  have f12 : (0 : Int) ≤ m 1 1 ∧ m 1 1 ≤ 240 := hIm.1 1 1
  have f13 : (0 : Int) ≤ m 1 2 ∧ m 1 2 ≤ 240 := hIm.1 1 2
  refine L_X8_next_0 zn _ hN hC m _ (fun m_14 hIm_14 j_14 tN_14 tCl_14 tCr_14 tCp_14 tCn_14 => ?_) _ m hIm (by omega) zN_rf rfl rfl rfl rfl rfl
  have f15 : (0 : Int) ≤ m_14 1 1 ∧ m_14 1 1 ≤ 240 := hIm_14.1 1 1
  have f16 : (0 : Int) ≤ m_14 1 2 ∧ m_14 1 2 ≤ 240 := hIm_14.1 1 2
  refine zW.step (st1 := (39, [(some (.ref 1))], [.ref 1], zk c m_14)) (st2 := (39, [(some (.ref 1))], [.ref 1], zk c m_14)) ⟨[zo], _, rfl, ⟨trivial, trivial⟩⟩ rfl ?_
  obtain ⟨r17, hs17, z_17, q_17⟩ := S_X8_here zn (d + 0) hN hC m_14 hIm_14
  refine zW.step (st1 := (42, [(some (.ref 1))], [.int (Int32.ofInt r17)], zk c m_14)) ⟨[zc (some (.int (Int32.ofInt r17))) (zk c m_14)], _, rfl, ⟨⟨⟨(Nat.lt_of_lt_of_le (Nat.le_of_ble_eq_true rfl) hN), (Nat.le_of_ble_eq_true rfl)⟩, hs17, (Nat.le_of_ble_eq_true rfl), Nat.le_refl _, Nat.le_refl _, Nat.le_refl _, Nat.le_refl _⟩, trivial⟩⟩ rfl ?_
  exact zW.fin (zfin_i rfl rfl rfl) ⟨r17, m_14, rfl, rfl, hIm_14, (by omega), (by omega), (by omega), (by omega), (by omega), (by omega), (by omega), tN_14⟩

set_option maxRecDepth 100000 in
set_option maxHeartbeats 4000000 in
theorem S_X8_takes (zn : Bool) (d : Nat) {c : Nat × Nat} (hN : 107 ≤ c.1) (hC : c.1 < z_RO) (a : Int) (m : zM) (hIm : zI c m) (r_a : -2147483648 ≤ a ∧ a ≤ 2147483647) (ha : 0 ≤ a) : zCi zn (d + 3) 111 [.ref 1, .int (Int32.ofInt a)] c m (fun (r : Int) (m1 : zM) => zI c m1 ∧ (0 ≤ r ∧ r ≤ 1) ∧ (m1 1 1 = m 1 1) ∧ (m 1 2 ≤ m1 1 2) ∧ (r = 1 → m 1 2 < m1 1 2) ∧ (m1 4 3 = m 4 3) ∧ (m1 4 4 = m 4 4) ∧ (m1 8 185 = m 8 185) ∧ zN m m1) := by
  refine zCi.of zu_X8_takes hC (Nat.le_of_ble_eq_true rfl) ?_
  show zW zn (d + 2) 111 c (0, [(some (.ref 1)), (some (.int (Int32.ofInt a)))], [], zk c m) (fun v h1 => ∃ (r : Int) (m1 : zM), v = some (.int (Int32.ofInt r)) ∧ h1 = zk c m1 ∧ zI c m1 ∧ (0 ≤ r ∧ r ≤ 1) ∧ (m1 1 1 = m 1 1) ∧ (m 1 2 ≤ m1 1 2) ∧ (r = 1 → m 1 2 < m1 1 2) ∧ (m1 4 3 = m 4 3) ∧ (m1 4 4 = m 4 4) ∧ (m1 8 185 = m 8 185) ∧ zN m m1)
  have f1 : (0 : Int) ≤ m 1 1 ∧ m 1 1 ≤ 240 := hIm.1 1 1
  have f2 : (0 : Int) ≤ m 1 2 ∧ m 1 2 ≤ 240 := hIm.1 1 2
  refine zW.step (st1 := (1, [(some (.ref 1)), (some (.int (Int32.ofInt a)))], [.ref 1], zk c m)) (st2 := (1, [(some (.ref 1)), (some (.int (Int32.ofInt a)))], [.ref 1], zk c m)) ⟨[zo], _, rfl, ⟨trivial, trivial⟩⟩ rfl ?_
  obtain ⟨r3, m3, hs3, hIm3, z_3, q_3, l_3, a9_3, r9_3, p9_3, n9_3, kN_3⟩ := S_X8_next zn (d + 0) hN hC m hIm
  refine zW.step (st1 := (4, [(some (.ref 1)), (some (.int (Int32.ofInt a)))], [.int (Int32.ofInt r3)], zk c m3)) ⟨[zc (some (.int (Int32.ofInt r3))) (zk c m3)], _, rfl, ⟨⟨⟨(Nat.lt_of_lt_of_le (Nat.le_of_ble_eq_true rfl) hN), (Nat.le_of_ble_eq_true rfl)⟩, hs3, (Nat.le_of_ble_eq_true rfl), Nat.le_refl _, Nat.le_refl _, Nat.le_refl _, Nat.le_refl _⟩, trivial⟩⟩ rfl ?_
  have f4 : (0 : Int) ≤ m3 1 1 ∧ m3 1 1 ≤ 240 := hIm3.1 1 1
  have f5 : (0 : Int) ≤ m3 1 2 ∧ m3 1 2 ≤ 240 := hIm3.1 1 2
  have tk6 : zN m m3 := zN_tr zN_rf kN_3
  have tk7 : m3 1 1 = m 1 1 := (show _ = _ from l_3).trans rfl
  have tk8 : m3 4 3 = m 4 3 := (show _ = _ from r9_3).trans rfl
  have tk9 : m3 4 4 = m 4 4 := (show _ = _ from p9_3).trans rfl
  have tk10 : m3 8 185 = m 8 185 := (show _ = _ from n9_3).trans rfl
  by_cases b11 : r3 = a
  · refine zW.step (st1 := (10, [(some (.ref 1)), (some (.int (Int32.ofInt a)))], [], zk c m3)) (st2 := (10, [(some (.ref 1)), (some (.int (Int32.ofInt a)))], [], zk c m3)) ⟨[zo, zt], _, rfl, ⟨trivial, zbt ((zi_eq rfl rfl (by unfold zR; omega) (by unfold zR; omega)).mpr b11), trivial⟩⟩ rfl ?_
    obtain ⟨m12, hm12⟩ : ∃ q, q = zm_up m3 1 2 ((m3 1 2) + 1) := ⟨_, rfl⟩
    have hIm12 : zI c m12 := by rw [hm12]; exact zI_up hIm3 (by unfold zOk; omega) (show (0 : Int) ≤ ((m3 1 2) + 1) ∧ ((m3 1 2) + 1) ≤ 240 by omega)
    have em12 : m12 1 2 = ((m3 1 2) + 1) := by rw [hm12]; exact zm_eq
    have f13 : m12 1 1 = m3 1 1 := by rw [hm12]; exact zm_ne (by omega)
    have tk14 : zN m m12 := by rw [hm12]; exact zN_up tk6 (by unfold zRow; omega)
    have tk15 : m12 1 1 = m 1 1 := by rw [hm12, zm_ne (by omega)]; exact tk7
    have tk16 : m12 4 3 = m 4 3 := by rw [hm12, zm_ne (by omega)]; exact tk8
    have tk17 : m12 4 4 = m 4 4 := by rw [hm12, zm_ne (by omega)]; exact tk9
    have tk18 : m12 8 185 = m 8 185 := by rw [hm12, zm_ne (by omega)]; exact tk10
    clear tk6
    refine zW.step (st1 := (20, [(some (.ref 1)), (some (.int (Int32.ofInt a)))], [], z_hup (zk c m3) 1 (.inr (8, [.ref 2, .int (Int32.ofInt (m3 1 1)), .int ((Int32.ofInt (m3 1 2)) + (Int32.ofInt 1)), .int (Int32.ofInt (m3 1 3))])))) (st2 := (20, [(some (.ref 1)), (some (.int (Int32.ofInt a)))], [], zk c m12)) ⟨[zo, zo, zo, zo, zo, zo], _, rfl, ⟨trivial, trivial, (Nat.lt_of_lt_of_le (Nat.le_of_ble_eq_true rfl) hN), trivial, trivial, ⟨(Nat.lt_of_lt_of_le (Nat.le_of_ble_eq_true rfl) hN), rfl, rfl⟩, trivial⟩⟩ (z_steq rfl rfl ((zk_up c m3 1 2 ((m3 1 2) + 1) _ ((congrArg (fun q => (.inr (8, [.ref 2, .int (Int32.ofInt (m3 1 1)), .int q, .int (Int32.ofInt (m3 1 3))]) : z_E)) (zi_add rfl rfl)).trans rfl)).trans (by rw [hm12]))) ?_
    refine zW.step (st1 := (21, [(some (.ref 1)), (some (.int (Int32.ofInt a)))], [.int (Int32.ofInt 1)], zk c m12)) (st2 := (21, [(some (.ref 1)), (some (.int (Int32.ofInt a)))], [.int (Int32.ofInt 1)], zk c m12)) ⟨[zo], _, rfl, ⟨trivial, trivial⟩⟩ rfl ?_
    exact zW.fin (zfin_i rfl rfl rfl) ⟨1, m12, rfl, rfl, hIm12, (by omega), (by omega), (by omega), (by omega), (by omega), (by omega), (by omega), tk14⟩
  · refine zW.step (st1 := (8, [(some (.ref 1)), (some (.int (Int32.ofInt a)))], [], zk c m3)) (st2 := (8, [(some (.ref 1)), (some (.int (Int32.ofInt a)))], [], zk c m3)) ⟨[zo, zo], _, rfl, ⟨trivial, zbf (fun q => b11 ((zi_eq rfl rfl (by unfold zR; omega) (by unfold zR; omega)).mp q)), trivial⟩⟩ rfl ?_
    refine zW.step (st1 := (9, [(some (.ref 1)), (some (.int (Int32.ofInt a)))], [.int (Int32.ofInt 0)], zk c m3)) (st2 := (9, [(some (.ref 1)), (some (.int (Int32.ofInt a)))], [.int (Int32.ofInt 0)], zk c m3)) ⟨[zo], _, rfl, ⟨trivial, trivial⟩⟩ rfl ?_
    exact zW.fin (zfin_i rfl rfl rfl) ⟨0, m3, rfl, rfl, hIm3, (by omega), (by omega), (by omega), (by omega), (by omega), (by omega), (by omega), tk6⟩

set_option maxRecDepth 100000 in
set_option maxHeartbeats 4000000 in
theorem L_X8_takesNumber_19 (zn : Bool) (d : Nat) {c : Nat × Nat} (hN : 107 ≤ c.1) (hC : c.1 < z_RO) (n : Int) (r_n : -2147483648 ≤ n ∧ n ≤ 2147483647) (m0 : zM) (Q : Option Value → z_H → Prop) (K : ∀ (x2 : Int) (m : zM), zI c m → 0 ≤ x2 ∧ (x2 ≤ n ∨ x2 = 0) → m0 1 2 ≤ m 1 2 → zN m0 m → m 1 1 = m0 1 1 → m 4 3 = m0 4 3 → m 4 4 = m0 4 4 → m 8 185 = m0 8 185 → zW zn (d + 2) 112 c (69, [(some (.ref 1)), (some (.int (Int32.ofInt n))), (some (.int (Int32.ofInt x2)))], [], zk c m) Q) :
    ∀ (w : Nat) (x2 : Int) (m : zM), zI c m → 0 ≤ x2 ∧ (x2 ≤ n ∨ x2 = 0) → m0 1 2 ≤ m 1 2 → zN m0 m → m 1 1 = m0 1 1 → m 4 3 = m0 4 3 → m 4 4 = m0 4 4 → m 8 185 = m0 8 185 → w = (n - x2).toNat → zW zn (d + 2) 112 c (19, [(some (.ref 1)), (some (.int (Int32.ofInt n))), (some (.int (Int32.ofInt x2)))], [], zk c m) Q := by
  intro w
  induction w using Nat.strongRecOn with | _ w ih => ?_
  intro x2 m hIm i1 j tN tCl tCr tCp tCn hw
  have f1 : (0 : Int) ≤ m 1 1 ∧ m 1 1 ≤ 240 := hIm.1 1 1
  have f2 : (0 : Int) ≤ m 1 2 ∧ m 1 2 ≤ 240 := hIm.1 1 2
  by_cases b3 : n ≤ x2
  · refine zW.step (st1 := (69, [(some (.ref 1)), (some (.int (Int32.ofInt n))), (some (.int (Int32.ofInt x2)))], [], zk c m)) (st2 := (69, [(some (.ref 1)), (some (.int (Int32.ofInt n))), (some (.int (Int32.ofInt x2)))], [], zk c m)) ⟨[zo, zo, zt], _, rfl, ⟨trivial, trivial, zbt ((zi_le rfl rfl (by unfold zR; omega) (by unfold zR; omega)).mpr b3), trivial⟩⟩ rfl ?_
    exact K x2 m hIm (by omega) (by omega) tN tCl tCr tCp tCn
  · refine zW.step (st1 := (24, [(some (.ref 1)), (some (.int (Int32.ofInt n))), (some (.int (Int32.ofInt x2)))], [], zk c m)) (st2 := (24, [(some (.ref 1)), (some (.int (Int32.ofInt n))), (some (.int (Int32.ofInt x2)))], [], zk c m)) ⟨[zo, zo, zo], _, rfl, ⟨trivial, trivial, zbf (fun q => b3 ((zi_le rfl rfl (by unfold zR; omega) (by unfold zR; omega)).mp q)), trivial⟩⟩ rfl ?_
    refine zW.step (st1 := (25, [(some (.ref 1)), (some (.int (Int32.ofInt n))), (some (.int (Int32.ofInt x2)))], [.ref 1], zk c m)) (st2 := (25, [(some (.ref 1)), (some (.int (Int32.ofInt n))), (some (.int (Int32.ofInt x2)))], [.ref 1], zk c m)) ⟨[zo], _, rfl, ⟨trivial, trivial⟩⟩ rfl ?_
    obtain ⟨r4, hs4, z_4, q_4⟩ := S_X8_here zn (d + 1) hN hC m hIm
    refine zW.step (st1 := (28, [(some (.ref 1)), (some (.int (Int32.ofInt n))), (some (.int (Int32.ofInt x2)))], [.int (Int32.ofInt r4)], zk c m)) ⟨[zc (some (.int (Int32.ofInt r4))) (zk c m)], _, rfl, ⟨⟨⟨(Nat.lt_of_lt_of_le (Nat.le_of_ble_eq_true rfl) hN), (Nat.le_of_ble_eq_true rfl)⟩, hs4, (Nat.le_of_ble_eq_true rfl), Nat.le_refl _, Nat.le_refl _, Nat.le_refl _, Nat.le_refl _⟩, trivial⟩⟩ rfl ?_
    obtain ⟨r5, hs5, z_5, q_5⟩ := S_X8_isDigit zn (d + 1) hN hC r4 m hIm (by omega)
    refine zW.step (st1 := (31, [(some (.ref 1)), (some (.int (Int32.ofInt n))), (some (.int (Int32.ofInt x2)))], [.int (Int32.ofInt r5)], zk c m)) ⟨[zc (some (.int (Int32.ofInt r5))) (zk c m)], _, rfl, ⟨⟨(Nat.le_of_ble_eq_true rfl), hs5, (Nat.le_of_ble_eq_true rfl), Nat.le_refl _, Nat.le_refl _, Nat.le_refl _, Nat.le_refl _⟩, trivial⟩⟩ rfl ?_
    by_cases b6 : r5 = 0
    · refine zW.step (st1 := (69, [(some (.ref 1)), (some (.int (Int32.ofInt n))), (some (.int (Int32.ofInt x2)))], [], zk c m)) (st2 := (69, [(some (.ref 1)), (some (.int (Int32.ofInt n))), (some (.int (Int32.ofInt x2)))], [], zk c m)) ⟨[zt], _, rfl, ⟨zbt ((zi_eq rfl (rfl : (0 : Int32) = Int32.ofInt 0) (by unfold zR; omega) (⟨by decide, by decide⟩ : zR 0)).mpr b6), trivial⟩⟩ rfl ?_
      exact K x2 m hIm (by omega) (by omega) tN tCl tCr tCp tCn
    · refine zW.step (st1 := (34, [(some (.ref 1)), (some (.int (Int32.ofInt n))), (some (.int (Int32.ofInt x2)))], [], zk c m)) (st2 := (34, [(some (.ref 1)), (some (.int (Int32.ofInt n))), (some (.int (Int32.ofInt x2)))], [], zk c m)) ⟨[zo], _, rfl, ⟨zbf (fun q => b6 ((zi_eq rfl (rfl : (0 : Int32) = Int32.ofInt 0) (by unfold zR; omega) (⟨by decide, by decide⟩ : zR 0)).mp q)), trivial⟩⟩ rfl ?_
      have f7 : (-2147483648 : Int) ≤ m 1 3 ∧ m 1 3 ≤ 2147483647 := hIm.1 1 3
      refine zW.step (st1 := (43, [(some (.ref 1)), (some (.int (Int32.ofInt n))), (some (.int (Int32.ofInt x2)))], [.ref 1, .int ((Int32.ofInt (m 1 3)) * ((Int8.ofInt 10).toInt32)), .ref 1], zk c m)) (st2 := (43, [(some (.ref 1)), (some (.int (Int32.ofInt n))), (some (.int (Int32.ofInt x2)))], [.ref 1, .int (Int32.ofInt ((m 1 3) * 10)), .ref 1], zk c m)) ⟨[zo, zo, zo, zo, zo, zo], _, rfl, ⟨trivial, trivial, (Nat.lt_of_lt_of_le (Nat.le_of_ble_eq_true rfl) hN), trivial, trivial, trivial, trivial⟩⟩ (z_steq rfl (z_c1 rfl (z_c1 (z_vi (zi_mul rfl (by decide : (Int8.ofInt 10).toInt32 = Int32.ofInt 10))) rfl)) rfl) ?_
      obtain ⟨r8, hs8, z_8, q_8⟩ := S_X8_here zn (d + 1) hN hC m hIm
      refine zW.step (st1 := (46, [(some (.ref 1)), (some (.int (Int32.ofInt n))), (some (.int (Int32.ofInt x2)))], [.int (Int32.ofInt r8), .int (Int32.ofInt ((m 1 3) * 10)), .ref 1], zk c m)) ⟨[zc (some (.int (Int32.ofInt r8))) (zk c m)], _, rfl, ⟨⟨⟨(Nat.lt_of_lt_of_le (Nat.le_of_ble_eq_true rfl) hN), (Nat.le_of_ble_eq_true rfl)⟩, hs8, (Nat.le_of_ble_eq_true rfl), Nat.le_refl _, Nat.le_refl _, Nat.le_refl _, Nat.le_refl _⟩, trivial⟩⟩ rfl ?_
      have f9 := zwR ((((m 1 3) * 10) + r8) - 48)
      have f10 := zwI ((((m 1 3) * 10) + r8) - 48)
      obtain ⟨m11, hm11⟩ : ∃ q, q = zm_up m 1 3 (zw ((((m 1 3) * 10) + r8) - 48)) := ⟨_, rfl⟩
      have hIm11 : zI c m11 := by rw [hm11]; exact zI_up hIm (by unfold zOk; omega) (show (-2147483648 : Int) ≤ (zw ((((m 1 3) * 10) + r8) - 48)) ∧ (zw ((((m 1 3) * 10) + r8) - 48)) ≤ 2147483647 by omega)
      have em11 : m11 1 3 = (zw ((((m 1 3) * 10) + r8) - 48)) := by rw [hm11]; exact zm_eq
      have f12 : m11 1 1 = m 1 1 := by rw [hm11]; exact zm_ne (by omega)
      have f13 : m11 1 2 = m 1 2 := by rw [hm11]; exact zm_ne (by omega)
      have tk14 : zN m0 m11 := by rw [hm11]; exact zN_up tN (by unfold zRow; omega)
      have tk15 : m11 1 1 = m0 1 1 := by rw [hm11, zm_ne (by omega)]; exact tCl
      have tk16 : m11 4 3 = m0 4 3 := by rw [hm11, zm_ne (by omega)]; exact tCr
      have tk17 : m11 4 4 = m0 4 4 := by rw [hm11, zm_ne (by omega)]; exact tCp
      have tk18 : m11 8 185 = m0 8 185 := by rw [hm11, zm_ne (by omega)]; exact tCn
      refine zW.step (st1 := (53, [(some (.ref 1)), (some (.int (Int32.ofInt n))), (some (.int (Int32.ofInt x2)))], [], z_hup (zk c m) 1 (.inr (8, [.ref 2, .int (Int32.ofInt (m 1 1)), .int (Int32.ofInt (m 1 2)), .int (((Int32.ofInt ((m 1 3) * 10)) + (Int32.ofInt r8)) - ((Int8.ofInt 48).toInt32))])))) (st2 := (53, [(some (.ref 1)), (some (.int (Int32.ofInt n))), (some (.int (Int32.ofInt x2)))], [], zk c m11)) ⟨[zo, zo, zo, zo], _, rfl, ⟨trivial, trivial, trivial, ⟨(Nat.lt_of_lt_of_le (Nat.le_of_ble_eq_true rfl) hN), rfl, rfl⟩, trivial⟩⟩ (z_steq rfl rfl ((zk_up c m 1 3 (zw ((((m 1 3) * 10) + r8) - 48)) _ ((congrArg (fun q => (.inr (8, [.ref 2, .int (Int32.ofInt (m 1 1)), .int (Int32.ofInt (m 1 2)), .int q]) : z_E)) (Eq.trans (zi_sub (zi_add rfl rfl) (by decide : (Int8.ofInt 48).toInt32 = Int32.ofInt 48)) (zw_eq _))).trans rfl)).trans (by rw [hm11]))) ?_
      clear f7 f9 f10
      have f19 : (0 : Int) ≤ m11 1 2 ∧ m11 1 2 ≤ 240 := hIm11.1 1 2
      obtain ⟨m20, hm20⟩ : ∃ q, q = zm_up m11 1 2 ((m11 1 2) + 1) := ⟨_, rfl⟩
      have hIm20 : zI c m20 := by rw [hm20]; exact zI_up hIm11 (by unfold zOk; omega) (show (0 : Int) ≤ ((m11 1 2) + 1) ∧ ((m11 1 2) + 1) ≤ 240 by omega)
      have em20 : m20 1 2 = ((m11 1 2) + 1) := by rw [hm20]; exact zm_eq
      have f21 : m20 1 1 = m11 1 1 := by rw [hm20]; exact zm_ne (by omega)
      have tk22 : zN m0 m20 := by rw [hm20]; exact zN_up tk14 (by unfold zRow; omega)
      have tk23 : m20 1 1 = m0 1 1 := by rw [hm20, zm_ne (by omega)]; exact tk15
      have tk24 : m20 4 3 = m0 4 3 := by rw [hm20, zm_ne (by omega)]; exact tk16
      have tk25 : m20 4 4 = m0 4 4 := by rw [hm20, zm_ne (by omega)]; exact tk17
      have tk26 : m20 8 185 = m0 8 185 := by rw [hm20, zm_ne (by omega)]; exact tk18
      clear tk14
      refine zW.step (st1 := (63, [(some (.ref 1)), (some (.int (Int32.ofInt n))), (some (.int (Int32.ofInt x2)))], [], z_hup (zk c m11) 1 (.inr (8, [.ref 2, .int (Int32.ofInt (m11 1 1)), .int ((Int32.ofInt (m11 1 2)) + (Int32.ofInt 1)), .int (Int32.ofInt (m11 1 3))])))) (st2 := (63, [(some (.ref 1)), (some (.int (Int32.ofInt n))), (some (.int (Int32.ofInt x2)))], [], zk c m20)) ⟨[zo, zo, zo, zo, zo, zo], _, rfl, ⟨trivial, trivial, (Nat.lt_of_lt_of_le (Nat.le_of_ble_eq_true rfl) hN), trivial, trivial, ⟨(Nat.lt_of_lt_of_le (Nat.le_of_ble_eq_true rfl) hN), rfl, rfl⟩, trivial⟩⟩ (z_steq rfl rfl ((zk_up c m11 1 2 ((m11 1 2) + 1) _ ((congrArg (fun q => (.inr (8, [.ref 2, .int (Int32.ofInt (m11 1 1)), .int q, .int (Int32.ofInt (m11 1 3))]) : z_E)) (zi_add rfl rfl)).trans rfl)).trans (by rw [hm20]))) ?_
      refine zW.step (st1 := (19, [(some (.ref 1)), (some (.int (Int32.ofInt n))), (some (.int ((Int32.ofInt x2) + Int32.ofInt 1)))], [], zk c m20)) (st2 := (19, [(some (.ref 1)), (some (.int (Int32.ofInt n))), (some (.int (Int32.ofInt (x2 + 1))))], [], zk c m20)) ⟨[zo, zo], _, rfl, ⟨trivial, trivial, trivial⟩⟩ (z_steq (z_c1 rfl (z_c1 rfl (z_c1 (z_si (zi_add rfl rfl)) rfl))) rfl rfl) ?_
      exact ih _ (by omega) (x2 + 1) m20 hIm20 (by omega) (by omega) tk22 tk23 tk24 tk25 tk26 rfl

set_option maxRecDepth 100000 in
set_option maxHeartbeats 4000000 in
theorem S_X8_takesNumber (zn : Bool) (d : Nat) {c : Nat × Nat} (hN : 107 ≤ c.1) (hC : c.1 < z_RO) (n : Int) (m : zM) (hIm : zI c m) (r_n : -2147483648 ≤ n ∧ n ≤ 2147483647) : zCi zn (d + 3) 112 [.ref 1, .int (Int32.ofInt n)] c m (fun (r : Int) (m1 : zM) => zI c m1 ∧ (0 ≤ r ∧ r ≤ 1) ∧ (m1 1 1 = m 1 1) ∧ (m 1 2 ≤ m1 1 2) ∧ (m1 4 3 = m 4 3) ∧ (m1 4 4 = m 4 4) ∧ (m1 8 185 = m 8 185) ∧ zN m m1) := by
  refine zCi.of zu_X8_takesNumber hC (Nat.le_of_ble_eq_true rfl) ?_
  show zW zn (d + 2) 112 c (0, [(some (.ref 1)), (some (.int (Int32.ofInt n))), none], [], zk c m) (fun v h1 => ∃ (r : Int) (m1 : zM), v = some (.int (Int32.ofInt r)) ∧ h1 = zk c m1 ∧ zI c m1 ∧ (0 ≤ r ∧ r ≤ 1) ∧ (m1 1 1 = m 1 1) ∧ (m 1 2 ≤ m1 1 2) ∧ (m1 4 3 = m 4 3) ∧ (m1 4 4 = m 4 4) ∧ (m1 8 185 = m 8 185) ∧ zN m m1)
  have f27 : (0 : Int) ≤ m 1 1 ∧ m 1 1 ≤ 240 := hIm.1 1 1
  have f28 : (0 : Int) ≤ m 1 2 ∧ m 1 2 ≤ 240 := hIm.1 1 2
  obtain ⟨m29, hm29⟩ : ∃ q, q = zm_up m 1 3 0 := ⟨_, rfl⟩
  have hIm29 : zI c m29 := by rw [hm29]; exact zI_up hIm (by unfold zOk; omega) (show (-2147483648 : Int) ≤ 0 ∧ 0 ≤ 2147483647 by omega)
  have em29 : m29 1 3 = 0 := by rw [hm29]; exact zm_eq
  have f30 : m29 1 1 = m 1 1 := by rw [hm29]; exact zm_ne (by omega)
  have f31 : m29 1 2 = m 1 2 := by rw [hm29]; exact zm_ne (by omega)
  have tk32 : zN m m29 := by rw [hm29]; exact zN_up zN_rf (by unfold zRow; omega)
  have tk33 : m29 1 1 = m 1 1 := by rw [hm29, zm_ne (by omega)]
  have tk34 : m29 4 3 = m 4 3 := by rw [hm29, zm_ne (by omega)]
  have tk35 : m29 4 4 = m 4 4 := by rw [hm29, zm_ne (by omega)]
  have tk36 : m29 8 185 = m 8 185 := by rw [hm29, zm_ne (by omega)]
  refine zW.step (st1 := (5, [(some (.ref 1)), (some (.int (Int32.ofInt n))), none], [], z_hup (zk c m) 1 (.inr (8, [.ref 2, .int (Int32.ofInt (m 1 1)), .int (Int32.ofInt (m 1 2)), .int (Int32.ofInt 0)])))) (st2 := (5, [(some (.ref 1)), (some (.int (Int32.ofInt n))), none], [], zk c m29)) ⟨[zo, zo, zo], _, rfl, ⟨trivial, trivial, ⟨(Nat.lt_of_lt_of_le (Nat.le_of_ble_eq_true rfl) hN), rfl, rfl⟩, trivial⟩⟩ (z_steq rfl rfl ((zk_up c m 1 3 0 _ rfl).trans (by rw [hm29]))) ?_
  refine zW.step (st1 := (6, [(some (.ref 1)), (some (.int (Int32.ofInt n))), none], [.ref 1], zk c m29)) (st2 := (6, [(some (.ref 1)), (some (.int (Int32.ofInt n))), none], [.ref 1], zk c m29)) ⟨[zo], _, rfl, ⟨trivial, trivial⟩⟩ rfl ?_
  obtain ⟨r37, m37, hs37, hIm37, z_37, q_37, l_37, a9_37, r9_37, p9_37, n9_37, kN_37⟩ := S_X8_next zn (d + 0) hN hC m29 hIm29
  refine zW.step (st1 := (9, [(some (.ref 1)), (some (.int (Int32.ofInt n))), none], [.int (Int32.ofInt r37)], zk c m37)) ⟨[zc (some (.int (Int32.ofInt r37))) (zk c m37)], _, rfl, ⟨⟨⟨(Nat.lt_of_lt_of_le (Nat.le_of_ble_eq_true rfl) hN), (Nat.le_of_ble_eq_true rfl)⟩, hs37, (Nat.le_of_ble_eq_true rfl), Nat.le_refl _, Nat.le_refl _, Nat.le_refl _, Nat.le_refl _⟩, trivial⟩⟩ rfl ?_
  have f38 : (0 : Int) ≤ m37 1 1 ∧ m37 1 1 ≤ 240 := hIm37.1 1 1
  have f39 : (0 : Int) ≤ m37 1 2 ∧ m37 1 2 ≤ 240 := hIm37.1 1 2
  have tk40 : zN m m37 := zN_tr tk32 kN_37
  have tk41 : m37 1 1 = m 1 1 := (show _ = _ from l_37).trans tk33
  have tk42 : m37 4 3 = m 4 3 := (show _ = _ from r9_37).trans tk34
  have tk43 : m37 4 4 = m 4 4 := (show _ = _ from p9_37).trans tk35
  have tk44 : m37 8 185 = m 8 185 := (show _ = _ from n9_37).trans tk36
  obtain ⟨r45, hs45, z_45, q_45⟩ := S_X8_isDigit zn (d + 1) hN hC r37 m37 hIm37 (by omega)
  refine zW.step (st1 := (12, [(some (.ref 1)), (some (.int (Int32.ofInt n))), none], [.int (Int32.ofInt r45)], zk c m37)) ⟨[zc (some (.int (Int32.ofInt r45))) (zk c m37)], _, rfl, ⟨⟨(Nat.le_of_ble_eq_true rfl), hs45, (Nat.le_of_ble_eq_true rfl), Nat.le_refl _, Nat.le_refl _, Nat.le_refl _, Nat.le_refl _⟩, trivial⟩⟩ rfl ?_
  by_cases b46 : r45 = 0
  · refine zW.step (st1 := (15, [(some (.ref 1)), (some (.int (Int32.ofInt n))), none], [], zk c m37)) (st2 := (15, [(some (.ref 1)), (some (.int (Int32.ofInt n))), none], [], zk c m37)) ⟨[zo], _, rfl, ⟨zbf (fun q => q ((zi_eq rfl (rfl : (0 : Int32) = Int32.ofInt 0) (by unfold zR; omega) (⟨by decide, by decide⟩ : zR 0)).mpr b46)), trivial⟩⟩ rfl ?_
    refine zW.step (st1 := (16, [(some (.ref 1)), (some (.int (Int32.ofInt n))), none], [.int (Int32.ofInt 0)], zk c m37)) (st2 := (16, [(some (.ref 1)), (some (.int (Int32.ofInt n))), none], [.int (Int32.ofInt 0)], zk c m37)) ⟨[zo], _, rfl, ⟨trivial, trivial⟩⟩ rfl ?_
    exact zW.fin (zfin_i rfl rfl rfl) ⟨0, m37, rfl, rfl, hIm37, (by omega), (by omega), (by omega), (by omega), (by omega), (by omega), tk40⟩
  · refine zW.step (st1 := (17, [(some (.ref 1)), (some (.int (Int32.ofInt n))), none], [], zk c m37)) (st2 := (17, [(some (.ref 1)), (some (.int (Int32.ofInt n))), none], [], zk c m37)) ⟨[zt], _, rfl, ⟨zbt (fun q => b46 ((zi_eq rfl (rfl : (0 : Int32) = Int32.ofInt 0) (by unfold zR; omega) (⟨by decide, by decide⟩ : zR 0)).mp q)), trivial⟩⟩ rfl ?_
    refine zW.step (st1 := (19, [(some (.ref 1)), (some (.int (Int32.ofInt n))), (some (.int (Int32.ofInt 0)))], [], zk c m37)) (st2 := (19, [(some (.ref 1)), (some (.int (Int32.ofInt n))), (some (.int (Int32.ofInt 0)))], [], zk c m37)) ⟨[zo, zo], _, rfl, ⟨trivial, trivial, trivial⟩⟩ rfl ?_
    refine L_X8_takesNumber_19 zn _ hN hC n r_n m _ (fun x2_47 m_47 hIm_47 i1_47 j_47 tN_47 tCl_47 tCr_47 tCp_47 tCn_47 => ?_) _ 0 m37 hIm37 (by omega) (by omega) tk40 tk41 tk42 tk43 tk44 rfl
    have f48 : (0 : Int) ≤ m_47 1 1 ∧ m_47 1 1 ≤ 240 := hIm_47.1 1 1
    have f49 : (0 : Int) ≤ m_47 1 2 ∧ m_47 1 2 ≤ 240 := hIm_47.1 1 2
    refine zW.step (st1 := (70, [(some (.ref 1)), (some (.int (Int32.ofInt n))), (some (.int (Int32.ofInt x2_47)))], [.ref 1], zk c m_47)) (st2 := (70, [(some (.ref 1)), (some (.int (Int32.ofInt n))), (some (.int (Int32.ofInt x2_47)))], [.ref 1], zk c m_47)) ⟨[zo], _, rfl, ⟨trivial, trivial⟩⟩ rfl ?_
    obtain ⟨r50, hs50, z_50, q_50⟩ := S_X8_here zn (d + 1) hN hC m_47 hIm_47
    refine zW.step (st1 := (73, [(some (.ref 1)), (some (.int (Int32.ofInt n))), (some (.int (Int32.ofInt x2_47)))], [.int (Int32.ofInt r50)], zk c m_47)) ⟨[zc (some (.int (Int32.ofInt r50))) (zk c m_47)], _, rfl, ⟨⟨⟨(Nat.lt_of_lt_of_le (Nat.le_of_ble_eq_true rfl) hN), (Nat.le_of_ble_eq_true rfl)⟩, hs50, (Nat.le_of_ble_eq_true rfl), Nat.le_refl _, Nat.le_refl _, Nat.le_refl _, Nat.le_refl _⟩, trivial⟩⟩ rfl ?_
    obtain ⟨r51, hs51, z_51, q_51⟩ := S_X8_isDigit zn (d + 1) hN hC r50 m_47 hIm_47 (by omega)
    refine zW.step (st1 := (76, [(some (.ref 1)), (some (.int (Int32.ofInt n))), (some (.int (Int32.ofInt x2_47)))], [.int (Int32.ofInt r51)], zk c m_47)) ⟨[zc (some (.int (Int32.ofInt r51))) (zk c m_47)], _, rfl, ⟨⟨(Nat.le_of_ble_eq_true rfl), hs51, (Nat.le_of_ble_eq_true rfl), Nat.le_refl _, Nat.le_refl _, Nat.le_refl _, Nat.le_refl _⟩, trivial⟩⟩ rfl ?_
    by_cases b52 : r51 = 0
    · refine zW.step (st1 := (79, [(some (.ref 1)), (some (.int (Int32.ofInt n))), (some (.int (Int32.ofInt x2_47)))], [], zk c m_47)) (st2 := (79, [(some (.ref 1)), (some (.int (Int32.ofInt n))), (some (.int (Int32.ofInt x2_47)))], [], zk c m_47)) ⟨[zo], _, rfl, ⟨zbf (fun q => q ((zi_eq rfl (rfl : (0 : Int32) = Int32.ofInt 0) (by unfold zR; omega) (⟨by decide, by decide⟩ : zR 0)).mpr b52)), trivial⟩⟩ rfl ?_
      refine zW.step (st1 := (84, [(some (.ref 1)), (some (.int (Int32.ofInt n))), (some (.int (Int32.ofInt x2_47)))], [.int (Int32.ofInt 1)], zk c m_47)) (st2 := (84, [(some (.ref 1)), (some (.int (Int32.ofInt n))), (some (.int (Int32.ofInt x2_47)))], [.int (Int32.ofInt 1)], zk c m_47)) ⟨[zo, zo], _, rfl, ⟨trivial, trivial, trivial⟩⟩ rfl ?_
      exact zW.fin (zfin_i rfl rfl rfl) ⟨1, m_47, rfl, rfl, hIm_47, (by omega), (by omega), (by omega), (by omega), (by omega), (by omega), tN_47⟩
    · refine zW.step (st1 := (83, [(some (.ref 1)), (some (.int (Int32.ofInt n))), (some (.int (Int32.ofInt x2_47)))], [], zk c m_47)) (st2 := (83, [(some (.ref 1)), (some (.int (Int32.ofInt n))), (some (.int (Int32.ofInt x2_47)))], [], zk c m_47)) ⟨[zt], _, rfl, ⟨zbt (fun q => b52 ((zi_eq rfl (rfl : (0 : Int32) = Int32.ofInt 0) (by unfold zR; omega) (⟨by decide, by decide⟩ : zR 0)).mp q)), trivial⟩⟩ rfl ?_
      refine zW.step (st1 := (84, [(some (.ref 1)), (some (.int (Int32.ofInt n))), (some (.int (Int32.ofInt x2_47)))], [.int (Int32.ofInt 0)], zk c m_47)) (st2 := (84, [(some (.ref 1)), (some (.int (Int32.ofInt n))), (some (.int (Int32.ofInt x2_47)))], [.int (Int32.ofInt 0)], zk c m_47)) ⟨[zo], _, rfl, ⟨trivial, trivial⟩⟩ rfl ?_
      exact zW.fin (zfin_i rfl rfl rfl) ⟨0, m_47, rfl, rfl, hIm_47, (by omega), (by omega), (by omega), (by omega), (by omega), (by omega), tN_47⟩

set_option maxRecDepth 100000 in
set_option maxHeartbeats 4000000 in
theorem L_X8_signsIn_5 (zn : Bool) (d : Nat) {c : Nat × Nat} (hN : 107 ≤ c.1) (hC : c.1 < z_RO) (a : Int) (r_a : -2147483648 ≤ a ∧ a ≤ 2147483647) (m : zM) (hIm : zI c m) (Q : Option Value → z_H → Prop) (K : ∀ (x1 : Int) (x2 : Int), -8 ≤ x2 ∧ x2 ≤ 24 → 0 ≤ x1 ∧ 8 * x1 ≤ 24 - x2 → zW zn (d + 0) 110 c (33, [(some (.int (Int32.ofInt a))), (some (.int (Int32.ofInt x1))), (some (.int (Int32.ofInt x2)))], [], zk c m) Q) :
    ∀ (w : Nat) (x1 : Int) (x2 : Int), -8 ≤ x2 ∧ x2 ≤ 24 → 0 ≤ x1 ∧ 8 * x1 ≤ 24 - x2 → w = (x2 + 8).toNat → zW zn (d + 0) 110 c (5, [(some (.int (Int32.ofInt a))), (some (.int (Int32.ofInt x1))), (some (.int (Int32.ofInt x2)))], [], zk c m) Q := by
  intro w
  induction w using Nat.strongRecOn with | _ w ih => ?_
  intro x1 x2 i1 i2 hw
  by_cases b1 : x2 < 0
  · refine zW.step (st1 := (33, [(some (.int (Int32.ofInt a))), (some (.int (Int32.ofInt x1))), (some (.int (Int32.ofInt x2)))], [], zk c m)) (st2 := (33, [(some (.int (Int32.ofInt a))), (some (.int (Int32.ofInt x1))), (some (.int (Int32.ofInt x2)))], [], zk c m)) ⟨[zo, zt], _, rfl, ⟨trivial, zbt ((zi_lt rfl (rfl : (0 : Int32) = Int32.ofInt 0) (by unfold zR; omega) (⟨by decide, by decide⟩ : zR 0)).mpr b1), trivial⟩⟩ rfl ?_
    exact K x1 x2 (by omega) (by omega)
  · refine zW.step (st1 := (9, [(some (.int (Int32.ofInt a))), (some (.int (Int32.ofInt x1))), (some (.int (Int32.ofInt x2)))], [], zk c m)) (st2 := (9, [(some (.int (Int32.ofInt a))), (some (.int (Int32.ofInt x1))), (some (.int (Int32.ofInt x2)))], [], zk c m)) ⟨[zo, zo], _, rfl, ⟨trivial, zbf (fun q => b1 ((zi_lt rfl (rfl : (0 : Int32) = Int32.ofInt 0) (by unfold zR; omega) (⟨by decide, by decide⟩ : zR 0)).mp q)), trivial⟩⟩ rfl ?_
    have f2 : (-2147483648 : Int) ≤ zb_ushr a x2 ∧ zb_ushr a x2 ≤ 2147483647 := zb_ushrR a x2
    have f3 : (-2147483648 : Int) ≤ zb_and (zb_ushr a x2) 255 ∧ zb_and (zb_ushr a x2) 255 ≤ 2147483647 := zb_andR (zb_ushr a x2) 255
    have f4 := zb_and_le (a := zb_ushr a x2) (b := 255) (by decide) (by decide)
    by_cases b5 : (zb_and (zb_ushr a x2) 255) = 0
    · refine zW.step (st1 := (20, [(some (.int (Int32.ofInt a))), (some (.int (Int32.ofInt x1))), (some (.int (Int32.ofInt x2)))], [.int (Int32.ofInt x1)], zk c m)) (st2 := (20, [(some (.int (Int32.ofInt a))), (some (.int (Int32.ofInt x1))), (some (.int (Int32.ofInt x2)))], [.int (Int32.ofInt x1)], zk c m)) ⟨[zo, zo, zo, zo, zo, zo, zo], _, rfl, ⟨trivial, trivial, trivial, trivial, trivial, trivial, zbf (fun q => q ((zi_eq (zi_and (zi_ushr rfl rfl) (by decide : (Int16.ofInt 255).toInt32 = Int32.ofInt 255)) (rfl : (0 : Int32) = Int32.ofInt 0) (zb_andR _ _) (⟨by decide, by decide⟩ : zR 0)).mpr b5)), trivial⟩⟩ rfl ?_
      refine zW.step (st1 := (5, [(some (.int (Int32.ofInt a))), (some (.int ((Int32.ofInt x1) + (Int32.ofInt 0)))), (some (.int ((Int32.ofInt x2) + Int32.ofInt (-8))))], [], zk c m)) (st2 := (5, [(some (.int (Int32.ofInt a))), (some (.int (Int32.ofInt (x1 + 0)))), (some (.int (Int32.ofInt (x2 - 8))))], [], zk c m)) ⟨[zo, zo, zo, zo, zo, zo], _, rfl, ⟨trivial, trivial, trivial, trivial, trivial, trivial, trivial⟩⟩ (z_steq (z_c1 rfl (z_c1 (z_si (zi_add rfl rfl)) (z_c1 (z_si (((zi_add rfl rfl)).trans (congrArg Int32.ofInt (Int.sub_eq_add_neg).symm))) rfl))) rfl rfl) ?_
      exact ih _ (by omega) (x1 + 0) (x2 - 8) (by omega) (by omega) rfl
    · refine zW.step (st1 := (24, [(some (.int (Int32.ofInt a))), (some (.int (Int32.ofInt x1))), (some (.int (Int32.ofInt x2)))], [.int (Int32.ofInt x1)], zk c m)) (st2 := (24, [(some (.int (Int32.ofInt a))), (some (.int (Int32.ofInt x1))), (some (.int (Int32.ofInt x2)))], [.int (Int32.ofInt x1)], zk c m)) ⟨[zo, zo, zo, zo, zo, zo, zt], _, rfl, ⟨trivial, trivial, trivial, trivial, trivial, trivial, zbt (fun q => b5 ((zi_eq (zi_and (zi_ushr rfl rfl) (by decide : (Int16.ofInt 255).toInt32 = Int32.ofInt 255)) (rfl : (0 : Int32) = Int32.ofInt 0) (zb_andR _ _) (⟨by decide, by decide⟩ : zR 0)).mp q)), trivial⟩⟩ rfl ?_
      refine zW.step (st1 := (5, [(some (.int (Int32.ofInt a))), (some (.int ((Int32.ofInt x1) + (Int32.ofInt 1)))), (some (.int ((Int32.ofInt x2) + Int32.ofInt (-8))))], [], zk c m)) (st2 := (5, [(some (.int (Int32.ofInt a))), (some (.int (Int32.ofInt (x1 + 1)))), (some (.int (Int32.ofInt (x2 - 8))))], [], zk c m)) ⟨[zo, zo, zo, zo, zo], _, rfl, ⟨trivial, trivial, trivial, trivial, trivial, trivial⟩⟩ (z_steq (z_c1 rfl (z_c1 (z_si (zi_add rfl rfl)) (z_c1 (z_si (((zi_add rfl rfl)).trans (congrArg Int32.ofInt (Int.sub_eq_add_neg).symm))) rfl))) rfl rfl) ?_
      exact ih _ (by omega) (x1 + 1) (x2 - 8) (by omega) (by omega) rfl

set_option maxRecDepth 100000 in
set_option maxHeartbeats 4000000 in
theorem S_X8_signsIn (zn : Bool) (d : Nat) {c : Nat × Nat} (hN : 107 ≤ c.1) (hC : c.1 < z_RO) (a : Int) (m : zM) (hIm : zI c m) (r_a : -2147483648 ≤ a ∧ a ≤ 2147483647) : zPi zn (d + 1) 110 [.int (Int32.ofInt a)] c m (fun (r : Int) => (0 ≤ r ∧ r ≤ 4)) := by
  refine zPi.of zu_X8_signsIn hC (Nat.le_of_ble_eq_true rfl) ?_
  show zW zn (d + 0) 110 c (0, [(some (.int (Int32.ofInt a))), none, none], [], zk c m) (fun v h1 => ∃ (r : Int), v = some (.int (Int32.ofInt r)) ∧ h1 = zk c m ∧ (0 ≤ r ∧ r ≤ 4))
  refine zW.step (st1 := (5, [(some (.int (Int32.ofInt a))), (some (.int (Int32.ofInt 0))), (some (.int ((Int8.ofInt 24).toInt32)))], [], zk c m)) (st2 := (5, [(some (.int (Int32.ofInt a))), (some (.int (Int32.ofInt 0))), (some (.int (Int32.ofInt 24)))], [], zk c m)) ⟨[zo, zo, zo, zo], _, rfl, ⟨trivial, trivial, trivial, trivial, trivial⟩⟩ (z_steq (z_c1 rfl (z_c1 rfl (z_c1 (z_si (by decide : (Int8.ofInt 24).toInt32 = Int32.ofInt 24)) rfl))) rfl rfl) ?_
  refine L_X8_signsIn_5 zn _ hN hC a r_a m hIm _ (fun x1_6 x2_6 i1_6 i2_6 => ?_) _ 0 24 (by omega) (by omega) rfl
  refine zW.step (st1 := (34, [(some (.int (Int32.ofInt a))), (some (.int (Int32.ofInt x1_6))), (some (.int (Int32.ofInt x2_6)))], [.int (Int32.ofInt x1_6)], zk c m)) (st2 := (34, [(some (.int (Int32.ofInt a))), (some (.int (Int32.ofInt x1_6))), (some (.int (Int32.ofInt x2_6)))], [.int (Int32.ofInt x1_6)], zk c m)) ⟨[zo], _, rfl, ⟨trivial, trivial⟩⟩ rfl ?_
  exact zW.fin (zfin_i rfl rfl rfl) ⟨x1_6, rfl, rfl, (by omega)⟩

set_option maxRecDepth 100000 in
set_option maxHeartbeats 4000000 in
theorem L_X8_append_3 (zn : Bool) (d : Nat) {c : Nat × Nat} (hN : 107 ≤ c.1) (hC : c.1 < z_RO) (a : Int) (r_a : -2147483648 ≤ a ∧ a ≤ 2147483647) (m0 : zM) (Q : Option Value → z_H → Prop) (K : ∀ (x2 : Int) (o3 : Option Value) (m : zM), zI c m → -8 ≤ x2 ∧ x2 ≤ 24 → zN m0 m → zW zn (d + 0) 105 c (55, [(some (.ref 1)), (some (.int (Int32.ofInt a))), (some (.int (Int32.ofInt x2))), o3], [], zk c m) Q) :
    ∀ (w : Nat) (x2 : Int) (o3 : Option Value) (m : zM), zI c m → -8 ≤ x2 ∧ x2 ≤ 24 → zN m0 m → w = (x2 + 8).toNat → zW zn (d + 0) 105 c (3, [(some (.ref 1)), (some (.int (Int32.ofInt a))), (some (.int (Int32.ofInt x2))), o3], [], zk c m) Q := by
  intro w
  induction w using Nat.strongRecOn with | _ w ih => ?_
  intro x2 o3 m hIm i1 tN hw
  have f1 : (0 : Int) ≤ m 1 1 ∧ m 1 1 ≤ 240 := hIm.1 1 1
  have f2 : (0 : Int) ≤ m 1 2 ∧ m 1 2 ≤ 240 := hIm.1 1 2
  by_cases b3 : x2 < 0
  · refine zW.step (st1 := (55, [(some (.ref 1)), (some (.int (Int32.ofInt a))), (some (.int (Int32.ofInt x2))), o3], [], zk c m)) (st2 := (55, [(some (.ref 1)), (some (.int (Int32.ofInt a))), (some (.int (Int32.ofInt x2))), o3], [], zk c m)) ⟨[zo, zt], _, rfl, ⟨trivial, zbt ((zi_lt rfl (rfl : (0 : Int32) = Int32.ofInt 0) (by unfold zR; omega) (⟨by decide, by decide⟩ : zR 0)).mpr b3), trivial⟩⟩ rfl ?_
    exact K x2 o3 m hIm (by omega) tN
  · refine zW.step (st1 := (7, [(some (.ref 1)), (some (.int (Int32.ofInt a))), (some (.int (Int32.ofInt x2))), o3], [], zk c m)) (st2 := (7, [(some (.ref 1)), (some (.int (Int32.ofInt a))), (some (.int (Int32.ofInt x2))), o3], [], zk c m)) ⟨[zo, zo], _, rfl, ⟨trivial, zbf (fun q => b3 ((zi_lt rfl (rfl : (0 : Int32) = Int32.ofInt 0) (by unfold zR; omega) (⟨by decide, by decide⟩ : zR 0)).mp q)), trivial⟩⟩ rfl ?_
    have f4 : (-2147483648 : Int) ≤ zb_ushr a x2 ∧ zb_ushr a x2 ≤ 2147483647 := zb_ushrR a x2
    have f5 : (-2147483648 : Int) ≤ zb_and (zb_ushr a x2) 255 ∧ zb_and (zb_ushr a x2) 255 ≤ 2147483647 := zb_andR (zb_ushr a x2) 255
    have f6 := zb_and_le (a := zb_ushr a x2) (b := 255) (by decide) (by decide)
    by_cases b7 : (zb_and (zb_ushr a x2) 255) = 0
    · refine zW.step (st1 := (49, [(some (.ref 1)), (some (.int (Int32.ofInt a))), (some (.int (Int32.ofInt x2))), (some (.int ((((Int32.ofInt a).toUInt32 >>> ((Int32.ofInt x2).toUInt32 &&& Int32.toUInt32 31)).toInt32) &&& ((Int16.ofInt 255).toInt32))))], [], zk c m)) (st2 := (49, [(some (.ref 1)), (some (.int (Int32.ofInt a))), (some (.int (Int32.ofInt x2))), (some (.int (Int32.ofInt (zb_and (zb_ushr a x2) 255))))], [], zk c m)) ⟨[zo, zo, zo, zo, zo, zo, zo, zt], _, rfl, ⟨trivial, trivial, trivial, trivial, trivial, trivial, trivial, zbt ((zi_eq (zi_and (zi_ushr rfl rfl) (by decide : (Int16.ofInt 255).toInt32 = Int32.ofInt 255)) (rfl : (0 : Int32) = Int32.ofInt 0) (zb_andR _ _) (⟨by decide, by decide⟩ : zR 0)).mpr b7), trivial⟩⟩ (z_steq (z_c1 rfl (z_c1 rfl (z_c1 rfl (z_c1 (z_si (zi_and (zi_ushr rfl rfl) (by decide : (Int16.ofInt 255).toInt32 = Int32.ofInt 255))) rfl)))) rfl rfl) ?_
      refine zW.step (st1 := (3, [(some (.ref 1)), (some (.int (Int32.ofInt a))), (some (.int ((Int32.ofInt x2) + Int32.ofInt (-8)))), (some (.int (Int32.ofInt (zb_and (zb_ushr a x2) 255))))], [], zk c m)) (st2 := (3, [(some (.ref 1)), (some (.int (Int32.ofInt a))), (some (.int (Int32.ofInt (x2 - 8)))), (some (.int (Int32.ofInt (zb_and (zb_ushr a x2) 255))))], [], zk c m)) ⟨[zo, zo], _, rfl, ⟨trivial, trivial, trivial⟩⟩ (z_steq (z_c1 rfl (z_c1 rfl (z_c1 (z_si (((zi_add rfl rfl)).trans (congrArg Int32.ofInt (Int.sub_eq_add_neg).symm))) rfl))) rfl rfl) ?_
      exact ih _ (by omega) (x2 - 8) (some (.int (Int32.ofInt (zb_and (zb_ushr a x2) 255)))) m hIm (by omega) tN rfl
    · refine zW.step (st1 := (19, [(some (.ref 1)), (some (.int (Int32.ofInt a))), (some (.int (Int32.ofInt x2))), (some (.int ((((Int32.ofInt a).toUInt32 >>> ((Int32.ofInt x2).toUInt32 &&& Int32.toUInt32 31)).toInt32) &&& ((Int16.ofInt 255).toInt32))))], [], zk c m)) (st2 := (19, [(some (.ref 1)), (some (.int (Int32.ofInt a))), (some (.int (Int32.ofInt x2))), (some (.int (Int32.ofInt (zb_and (zb_ushr a x2) 255))))], [], zk c m)) ⟨[zo, zo, zo, zo, zo, zo, zo, zo], _, rfl, ⟨trivial, trivial, trivial, trivial, trivial, trivial, trivial, zbf (fun q => b7 ((zi_eq (zi_and (zi_ushr rfl rfl) (by decide : (Int16.ofInt 255).toInt32 = Int32.ofInt 255)) (rfl : (0 : Int32) = Int32.ofInt 0) (zb_andR _ _) (⟨by decide, by decide⟩ : zR 0)).mp q)), trivial⟩⟩ (z_steq (z_c1 rfl (z_c1 rfl (z_c1 rfl (z_c1 (z_si (zi_and (zi_ushr rfl rfl) (by decide : (Int16.ofInt 255).toInt32 = Int32.ofInt 255))) rfl)))) rfl rfl) ?_
      by_cases b8 : 240 ≤ (m 1 1)
      · refine zW.step (st1 := (49, [(some (.ref 1)), (some (.int (Int32.ofInt a))), (some (.int (Int32.ofInt x2))), (some (.int (Int32.ofInt (zb_and (zb_ushr a x2) 255))))], [], zk c m)) (st2 := (49, [(some (.ref 1)), (some (.int (Int32.ofInt a))), (some (.int (Int32.ofInt x2))), (some (.int (Int32.ofInt (zb_and (zb_ushr a x2) 255))))], [], zk c m)) ⟨[zo, zo, zo, zt], _, rfl, ⟨trivial, (Nat.lt_of_lt_of_le (Nat.le_of_ble_eq_true rfl) hN), trivial, zbt ((zi_le (by decide : (Int16.ofInt 240).toInt32 = Int32.ofInt 240) rfl (⟨by decide, by decide⟩ : zR 240) (by unfold zR; omega)).mpr b8), trivial⟩⟩ rfl ?_
        refine zW.step (st1 := (3, [(some (.ref 1)), (some (.int (Int32.ofInt a))), (some (.int ((Int32.ofInt x2) + Int32.ofInt (-8)))), (some (.int (Int32.ofInt (zb_and (zb_ushr a x2) 255))))], [], zk c m)) (st2 := (3, [(some (.ref 1)), (some (.int (Int32.ofInt a))), (some (.int (Int32.ofInt (x2 - 8)))), (some (.int (Int32.ofInt (zb_and (zb_ushr a x2) 255))))], [], zk c m)) ⟨[zo, zo], _, rfl, ⟨trivial, trivial, trivial⟩⟩ (z_steq (z_c1 rfl (z_c1 rfl (z_c1 (z_si (((zi_add rfl rfl)).trans (congrArg Int32.ofInt (Int.sub_eq_add_neg).symm))) rfl))) rfl rfl) ?_
        exact ih _ (by omega) (x2 - 8) (some (.int (Int32.ofInt (zb_and (zb_ushr a x2) 255)))) m hIm (by omega) tN rfl
      · refine zW.step (st1 := (29, [(some (.ref 1)), (some (.int (Int32.ofInt a))), (some (.int (Int32.ofInt x2))), (some (.int (Int32.ofInt (zb_and (zb_ushr a x2) 255))))], [], zk c m)) (st2 := (29, [(some (.ref 1)), (some (.int (Int32.ofInt a))), (some (.int (Int32.ofInt x2))), (some (.int (Int32.ofInt (zb_and (zb_ushr a x2) 255))))], [], zk c m)) ⟨[zo, zo, zo, zo], _, rfl, ⟨trivial, (Nat.lt_of_lt_of_le (Nat.le_of_ble_eq_true rfl) hN), trivial, zbf (fun q => b8 ((zi_le (by decide : (Int16.ofInt 240).toInt32 = Int32.ofInt 240) rfl (⟨by decide, by decide⟩ : zR 240) (by unfold zR; omega)).mp q)), trivial⟩⟩ rfl ?_
        obtain ⟨m9, hm9⟩ : ∃ q, q = zm_up m 2 ((m 1 1).toNat) (zb_and (zb_ushr a x2) 255) := ⟨_, rfl⟩
        have hIm9 : zI c m9 := by rw [hm9]; exact zI_up hIm (by unfold zOk; omega) (show (0 : Int) ≤ (zb_and (zb_ushr a x2) 255) ∧ (zb_and (zb_ushr a x2) 255) ≤ 255 by omega)
        have em9 : m9 2 ((m 1 1).toNat) = (zb_and (zb_ushr a x2) 255) := by rw [hm9]; exact zm_eq
        have f10 : m9 1 1 = m 1 1 := by rw [hm9]; exact zm_ne (by omega)
        have f11 : m9 1 2 = m 1 2 := by rw [hm9]; exact zm_ne (by omega)
        have tk12 : zN m0 m9 := by rw [hm9]; exact zN_up tN (by unfold zRow; omega)
        refine zW.step (st1 := (39, [(some (.ref 1)), (some (.int (Int32.ofInt a))), (some (.int (Int32.ofInt x2))), (some (.int (Int32.ofInt (zb_and (zb_ushr a x2) 255))))], [], z_hup (zk c m) 2 (.inl (0, 240, .inl (upd (fun j => Int32.ofInt (m 2 j)) (Int32.ofInt (m 1 1)).toNatClampNeg (Int32.ofInt (zb_and (zb_ushr a x2) 255))))))) (st2 := (39, [(some (.ref 1)), (some (.int (Int32.ofInt a))), (some (.int (Int32.ofInt x2))), (some (.int (Int32.ofInt (zb_and (zb_ushr a x2) 255))))], [], zk c m9)) ⟨[zo, zo, zo, zo, zo, (false, 0, none, zh0, some (.inl (0, 240, .inl (fun j => Int32.ofInt (m 2 j)))))], _, rfl, ⟨trivial, (Nat.lt_of_lt_of_le (Nat.le_of_ble_eq_true rfl) hN), trivial, (Nat.lt_of_lt_of_le (Nat.le_of_ble_eq_true rfl) hN), trivial, ⟨zk_ra c m zA_2 (Nat.lt_of_lt_of_le (Nat.le_of_ble_eq_true rfl) hN), zi_in rfl (by omega) (by omega) (by decide)⟩, trivial⟩⟩ (z_steq rfl rfl ((zk_ias c m zA_2 rfl (by unfold zR; omega) rfl).trans (by rw [hm9]))) ?_
        have f13 : (0 : Int) ≤ m9 1 1 ∧ m9 1 1 ≤ 240 := hIm9.1 1 1
        obtain ⟨m14, hm14⟩ : ∃ q, q = zm_up m9 1 1 ((m9 1 1) + 1) := ⟨_, rfl⟩
        have hIm14 : zI c m14 := by rw [hm14]; exact zI_up hIm9 (by unfold zOk; omega) (show (0 : Int) ≤ ((m9 1 1) + 1) ∧ ((m9 1 1) + 1) ≤ 240 by omega)
        have em14 : m14 1 1 = ((m9 1 1) + 1) := by rw [hm14]; exact zm_eq
        have f15 : m14 1 2 = m9 1 2 := by rw [hm14]; exact zm_ne (by omega)
        have tk16 : zN m0 m14 := by rw [hm14]; exact zN_up tk12 (by unfold zRow; omega)
        clear tk12
        refine zW.step (st1 := (49, [(some (.ref 1)), (some (.int (Int32.ofInt a))), (some (.int (Int32.ofInt x2))), (some (.int (Int32.ofInt (zb_and (zb_ushr a x2) 255))))], [], z_hup (zk c m9) 1 (.inr (8, [.ref 2, .int ((Int32.ofInt (m9 1 1)) + (Int32.ofInt 1)), .int (Int32.ofInt (m9 1 2)), .int (Int32.ofInt (m9 1 3))])))) (st2 := (49, [(some (.ref 1)), (some (.int (Int32.ofInt a))), (some (.int (Int32.ofInt x2))), (some (.int (Int32.ofInt (zb_and (zb_ushr a x2) 255))))], [], zk c m14)) ⟨[zo, zo, zo, zo, zo, zo], _, rfl, ⟨trivial, trivial, (Nat.lt_of_lt_of_le (Nat.le_of_ble_eq_true rfl) hN), trivial, trivial, ⟨(Nat.lt_of_lt_of_le (Nat.le_of_ble_eq_true rfl) hN), rfl, rfl⟩, trivial⟩⟩ (z_steq rfl rfl ((zk_up c m9 1 1 ((m9 1 1) + 1) _ ((congrArg (fun q => (.inr (8, [.ref 2, .int q, .int (Int32.ofInt (m9 1 2)), .int (Int32.ofInt (m9 1 3))]) : z_E)) (zi_add rfl rfl)).trans rfl)).trans (by rw [hm14]))) ?_
        refine zW.step (st1 := (3, [(some (.ref 1)), (some (.int (Int32.ofInt a))), (some (.int ((Int32.ofInt x2) + Int32.ofInt (-8)))), (some (.int (Int32.ofInt (zb_and (zb_ushr a x2) 255))))], [], zk c m14)) (st2 := (3, [(some (.ref 1)), (some (.int (Int32.ofInt a))), (some (.int (Int32.ofInt (x2 - 8)))), (some (.int (Int32.ofInt (zb_and (zb_ushr a x2) 255))))], [], zk c m14)) ⟨[zo, zo], _, rfl, ⟨trivial, trivial, trivial⟩⟩ (z_steq (z_c1 rfl (z_c1 rfl (z_c1 (z_si (((zi_add rfl rfl)).trans (congrArg Int32.ofInt (Int.sub_eq_add_neg).symm))) rfl))) rfl rfl) ?_
        exact ih _ (by omega) (x2 - 8) (some (.int (Int32.ofInt (zb_and (zb_ushr a x2) 255)))) m14 hIm14 (by omega) tk16 rfl

set_option maxRecDepth 100000 in
set_option maxHeartbeats 4000000 in
theorem S_X8_append (zn : Bool) (d : Nat) {c : Nat × Nat} (hN : 107 ≤ c.1) (hC : c.1 < z_RO) (a : Int) (m : zM) (hIm : zI c m) (r_a : -2147483648 ≤ a ∧ a ≤ 2147483647) : zCv zn (d + 1) 105 [.ref 1, .int (Int32.ofInt a)] c m (fun (m1 : zM) => zI c m1 ∧ zN m m1) := by
  refine zCv.of zu_X8_append hC (Nat.le_of_ble_eq_true rfl) ?_
  show zW zn (d + 0) 105 c (0, [(some (.ref 1)), (some (.int (Int32.ofInt a))), none, none], [], zk c m) (fun v h1 => ∃ (m1 : zM), v = none ∧ h1 = zk c m1 ∧ zI c m1 ∧ zN m m1)
  have f17 : (0 : Int) ≤ m 1 1 ∧ m 1 1 ≤ 240 := hIm.1 1 1
  have f18 : (0 : Int) ≤ m 1 2 ∧ m 1 2 ≤ 240 := hIm.1 1 2
  refine zW.step (st1 := (3, [(some (.ref 1)), (some (.int (Int32.ofInt a))), (some (.int ((Int8.ofInt 24).toInt32))), none], [], zk c m)) (st2 := (3, [(some (.ref 1)), (some (.int (Int32.ofInt a))), (some (.int (Int32.ofInt 24))), none], [], zk c m)) ⟨[zo, zo], _, rfl, ⟨trivial, trivial, trivial⟩⟩ (z_steq (z_c1 rfl (z_c1 rfl (z_c1 (z_si (by decide : (Int8.ofInt 24).toInt32 = Int32.ofInt 24)) rfl))) rfl rfl) ?_
  refine L_X8_append_3 zn _ hN hC a r_a m _ (fun x2_19 o3_19 m_19 hIm_19 i1_19 tN_19 => ?_) _ 24 none m hIm (by omega) zN_rf rfl
  have f20 : (0 : Int) ≤ m_19 1 1 ∧ m_19 1 1 ≤ 240 := hIm_19.1 1 1
  have f21 : (0 : Int) ≤ m_19 1 2 ∧ m_19 1 2 ≤ 240 := hIm_19.1 1 2
  exact zW.fin (zfin_v rfl rfl) ⟨m_19, rfl, rfl, hIm_19, tN_19⟩

