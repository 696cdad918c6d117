/-! what methods do over memory, by program (wip/tools/gw): X3_look, X3_pass, X8_isDigit, X8_here, X8_next, X8_takes, X8_takesNumber, X8_signsIn -/
set_option maxRecDepth 100000 in
set_option maxHeartbeats 4000000 in
theorem S_X3_look (zn : Bool) (d : Nat) {c : Nat × Nat} {mM : zM} (hN : 107 ≤ c.1) (hC : c.1 < z_RO) (s : Nat) (p : Int) (m : zM) (hIm : zI c mM m) (r_p : -2147483648 ≤ p ∧ p ≤ 2147483647) (h_s : zS s) (k_s : s = 17 ∨ s = 70 ∨ s = 74 ∨ s = 76) (hp : 0 ≤ p ∧ p ≤ 5) : zCi zn (d + 4) 66 [.ref 18, .ref s, .int (Int32.ofInt p)] c m (fun (r : Int) (m1 : zM) => zI c mM m1 ∧ (-1 ≤ r ∧ r ≤ 9) ∧ zF s m m1 ∧ zG s m m1) := by
  refine zCi.of zu_X3_look hC (Nat.le_of_ble_eq_true rfl) ?_
  show zW zn (d + 3) 66 c (0, [(some (.ref 18)), (some (.ref s)), (some (.int (Int32.ofInt p)))], [], zk c m) (fun v h1 => ∃ (r : Int) (m1 : zM), v = some (.int (Int32.ofInt r)) ∧ h1 = zk c m1 ∧ zI c mM m1 ∧ (-1 ≤ r ∧ r ≤ 9) ∧ zF s m m1 ∧ zG s m m1)
  refine zW.step (st1 := (2, [(some (.ref 18)), (some (.ref s)), (some (.int (Int32.ofInt p)))], [.ref s, .ref 18], zk c m)) (st2 := (2, [(some (.ref 18)), (some (.ref s)), (some (.int (Int32.ofInt p)))], [.ref s, .ref 18], zk c m)) ⟨[zo, zo], _, rfl, ⟨trivial, trivial, trivial⟩⟩ rfl ?_
  obtain ⟨m1, hs1, hIm1, kF_1, kG_1⟩ := S_X3_prepare zn (d + 1) hN hC s m hIm h_s (by omega)
  refine zW.step (st1 := (5, [(some (.ref 18)), (some (.ref s)), (some (.int (Int32.ofInt p)))], [], zk c m1)) ⟨[zc (none) (zk c m1)], _, rfl, ⟨⟨⟨(Nat.lt_of_lt_of_le (Nat.le_of_ble_eq_true rfl) hN), (Nat.le_of_ble_eq_true rfl)⟩, hs1, (Nat.le_of_ble_eq_true rfl), Nat.le_refl _, Nat.le_refl _, Nat.le_refl _, Nat.le_refl _⟩, trivial⟩⟩ rfl ?_
  have tk2 : zF s m m1 := zF_tr zF_rf kF_1 (by unfold zQ; omega)
  have tk3 : zG s m m1 := zG_tr zG_rf kG_1
  refine zW.step (st1 := (8, [(some (.ref 18)), (some (.ref s)), (some (.int (Int32.ofInt p)))], [.int (Int32.ofInt p), .ref s, .ref 18], zk c m1)) (st2 := (8, [(some (.ref 18)), (some (.ref s)), (some (.int (Int32.ofInt p)))], [.int (Int32.ofInt p), .ref s, .ref 18], zk c m1)) ⟨[zo, zo, zo], _, rfl, ⟨trivial, trivial, trivial, trivial⟩⟩ rfl ?_
  obtain ⟨m4, hs4, hIm4, kF_4, kG_4⟩ := S_X3_walk zn (d + 2) hN hC s p m1 hIm1 (by omega) h_s (by omega) (by omega)
  refine zW.step (st1 := (11, [(some (.ref 18)), (some (.ref s)), (some (.int (Int32.ofInt p)))], [], zk c m4)) ⟨[zc (none) (zk c m4)], _, rfl, ⟨⟨⟨(Nat.lt_of_lt_of_le (Nat.le_of_ble_eq_true rfl) hN), (Nat.le_of_ble_eq_true rfl)⟩, hs4, (Nat.le_of_ble_eq_true rfl), Nat.le_refl _, Nat.le_refl _, Nat.le_refl _, Nat.le_refl _⟩, trivial⟩⟩ rfl ?_
  have tk5 : zF s m m4 := zF_tr tk2 kF_4 (by unfold zQ; omega)
  have tk6 : zG s m m4 := zG_tr tk3 kG_4
  have f7 : (-2147483648 : Int) ≤ m4 s ((166 + p).toNat) ∧ m4 s ((166 + p).toNat) ≤ 2147483647 := zr_i hIm4 h_s ((166 + p).toNat)
  by_cases b8 : (m4 s ((166 + p).toNat)) = 1
  · refine zW.step (st1 := (22, [(some (.ref 18)), (some (.ref s)), (some (.int (Int32.ofInt p)))], [], zk c m4)) (st2 := (22, [(some (.ref 18)), (some (.ref s)), (some (.int (Int32.ofInt p)))], [], zk c m4)) ⟨[zo, zo, zo, zo, (false, 0, none, zh0, some (.inl (0, 188, .inl (fun j => Int32.ofInt (m4 s j))))), zo, zo], _, rfl, ⟨trivial, trivial, trivial, trivial, ⟨zk_ra c m4 h_s.1 (by omega), zi_in (zi_add (by decide : (Int16.ofInt 166).toInt32 = Int32.ofInt 166) rfl) (by omega) (by omega) (by omega)⟩, trivial, zbf (fun q => q ((zi_eq ((zk_rd (f := m4 s) (zi_add (by decide : (Int16.ofInt 166).toInt32 = Int32.ofInt 166) rfl) (by unfold zR; omega)).trans rfl : Int32.ofInt (m4 s (((Int16.ofInt 166).toInt32) + (Int32.ofInt p)).toNatClampNeg) = Int32.ofInt (m4 s ((166 + p).toNat))) rfl (by unfold zR; omega) (⟨by decide, by decide⟩ : zR 1)).mpr b8)), trivial⟩⟩ rfl ?_
    refine zW.step (st1 := (32, [(some (.ref 18)), (some (.ref s)), (some (.int (Int32.ofInt p)))], [.int (Int32.ofInt (-1))], zk c m4)) (st2 := (32, [(some (.ref 18)), (some (.ref s)), (some (.int (Int32.ofInt p)))], [.int (Int32.ofInt (-1))], zk c m4)) ⟨[zo, zo], _, rfl, ⟨trivial, trivial, trivial⟩⟩ rfl ?_
    exact zW.fin (zfin_i rfl rfl rfl) ⟨(-1), m4, rfl, rfl, hIm4, (by omega), tk5, tk6⟩
  · refine zW.step (st1 := (26, [(some (.ref 18)), (some (.ref s)), (some (.int (Int32.ofInt p)))], [], zk c m4)) (st2 := (26, [(some (.ref 18)), (some (.ref s)), (some (.int (Int32.ofInt p)))], [], zk c m4)) ⟨[zo, zo, zo, zo, (false, 0, none, zh0, some (.inl (0, 188, .inl (fun j => Int32.ofInt (m4 s j))))), zo, zt], _, rfl, ⟨trivial, trivial, trivial, trivial, ⟨zk_ra c m4 h_s.1 (by omega), zi_in (zi_add (by decide : (Int16.ofInt 166).toInt32 = Int32.ofInt 166) rfl) (by omega) (by omega) (by omega)⟩, trivial, zbt (fun q => b8 ((zi_eq ((zk_rd (f := m4 s) (zi_add (by decide : (Int16.ofInt 166).toInt32 = Int32.ofInt 166) rfl) (by unfold zR; omega)).trans rfl : Int32.ofInt (m4 s (((Int16.ofInt 166).toInt32) + (Int32.ofInt p)).toNatClampNeg) = Int32.ofInt (m4 s ((166 + p).toNat))) rfl (by unfold zR; omega) (⟨by decide, by decide⟩ : zR 1)).mp q)), trivial⟩⟩ rfl ?_
    refine zW.step (st1 := (29, [(some (.ref 18)), (some (.ref s)), (some (.int (Int32.ofInt p)))], [.int (Int32.ofInt p), .ref s, .ref 18], zk c m4)) (st2 := (29, [(some (.ref 18)), (some (.ref s)), (some (.int (Int32.ofInt p)))], [.int (Int32.ofInt p), .ref s, .ref 18], zk c m4)) ⟨[zo, zo, zo], _, rfl, ⟨trivial, trivial, trivial, trivial⟩⟩ rfl ?_
    obtain ⟨r9, m9, hs9, hIm9, q_9, kF_9, kG_9⟩ := S_X3_choice zn (d + 0) hN hC s p m4 hIm4 (by omega) h_s (by omega) (by omega)
    refine zW.step (st1 := (32, [(some (.ref 18)), (some (.ref s)), (some (.int (Int32.ofInt p)))], [.int (Int32.ofInt r9)], zk c m9)) ⟨[zc (some (.int (Int32.ofInt r9))) (zk c m9)], _, rfl, ⟨⟨⟨(Nat.lt_of_lt_of_le (Nat.le_of_ble_eq_true rfl) hN), (Nat.le_of_ble_eq_true rfl)⟩, hs9, (Nat.le_of_ble_eq_true rfl), Nat.le_refl _, Nat.le_refl _, Nat.le_refl _, Nat.le_refl _⟩, trivial⟩⟩ rfl ?_
    have tk10 : zF s m m9 := zF_tr tk5 kF_9 (by unfold zQ; omega)
    have tk11 : zG s m m9 := zG_tr tk6 kG_9
    exact zW.fin (zfin_i rfl rfl rfl) ⟨r9, m9, rfl, rfl, hIm9, (by omega), tk10, tk11⟩

set_option maxRecDepth 100000 in
set_option maxHeartbeats 4000000 in
theorem L_X3_pass_7 (zn : Bool) (d : Nat) {c : Nat × Nat} {mM : zM} (hN : 107 ≤ c.1) (hC : c.1 < z_RO) (s : Nat) (h_s : zS s) (k_s : s = 17 ∨ s = 70 ∨ s = 74 ∨ s = 76) (m0 : zM) (Q : Option Value → z_H → Prop) (K : ∀ (x2 : Int) (o3 : Option Value) (m : zM), zI c mM m → 0 ≤ x2 ∧ x2 ≤ 6 → zF s m0 m → m s 184 = m0 s 184 → zW zn (d + 3) 68 c (82, [(some (.ref 18)), (some (.ref s)), (some (.int (Int32.ofInt x2))), o3], [], zk c m) Q) :
    ∀ (w : Nat) (x2 : Int) (o3 : Option Value) (m : zM), zI c mM m → 0 ≤ x2 ∧ x2 ≤ 6 → zF s m0 m → m s 184 = m0 s 184 → w = (6 - x2).toNat → zW zn (d + 3) 68 c (7, [(some (.ref 18)), (some (.ref s)), (some (.int (Int32.ofInt x2))), o3], [], zk c m) Q := by
  intro w
  induction w using Nat.strongRecOn with | _ w ih => ?_
  intro x2 o3 m hIm i1 tF tCh hw
  have f1 : (0 : Int) ≤ m 13 4 ∧ m 13 4 ≤ 6 := hIm.1 13 4
  by_cases b2 : (m 13 4) ≤ x2
  · refine zW.step (st1 := (82, [(some (.ref 18)), (some (.ref s)), (some (.int (Int32.ofInt x2))), o3], [], zk c m)) (st2 := (82, [(some (.ref 18)), (some (.ref s)), (some (.int (Int32.ofInt x2))), o3], [], zk c m)) ⟨[zo, zo, zo, zo, zt], _, rfl, ⟨trivial, trivial, (Nat.lt_of_lt_of_le (Nat.le_of_ble_eq_true rfl) hN), (Nat.lt_of_lt_of_le (Nat.le_of_ble_eq_true rfl) hN), zbt ((zi_le rfl rfl (by unfold zR; omega) (by unfold zR; omega)).mpr b2), trivial⟩⟩ rfl ?_
    exact K x2 o3 m hIm (by omega) tF tCh
  · refine zW.step (st1 := (18, [(some (.ref 18)), (some (.ref s)), (some (.int (Int32.ofInt x2))), o3], [], zk c m)) (st2 := (18, [(some (.ref 18)), (some (.ref s)), (some (.int (Int32.ofInt x2))), o3], [], zk c m)) ⟨[zo, zo, zo, zo, zo], _, rfl, ⟨trivial, trivial, (Nat.lt_of_lt_of_le (Nat.le_of_ble_eq_true rfl) hN), (Nat.lt_of_lt_of_le (Nat.le_of_ble_eq_true rfl) hN), zbf (fun q => b2 ((zi_le rfl rfl (by unfold zR; omega) (by unfold zR; omega)).mp q)), trivial⟩⟩ rfl ?_
    refine zW.step (st1 := (21, [(some (.ref 18)), (some (.ref s)), (some (.int (Int32.ofInt x2))), o3], [.int (Int32.ofInt x2), .ref s, .ref 18], zk c m)) (st2 := (21, [(some (.ref 18)), (some (.ref s)), (some (.int (Int32.ofInt x2))), o3], [.int (Int32.ofInt x2), .ref s, .ref 18], zk c m)) ⟨[zo, zo, zo], _, rfl, ⟨trivial, trivial, trivial, trivial⟩⟩ rfl ?_
    obtain ⟨m3, hs3, hIm3, kF_3, kG_3⟩ := S_X3_walk zn (d + 2) hN hC s x2 m hIm (by omega) h_s (by omega) (by omega)
    refine zW.step (st1 := (24, [(some (.ref 18)), (some (.ref s)), (some (.int (Int32.ofInt x2))), o3], [], zk c m3)) ⟨[zc (none) (zk c m3)], _, rfl, ⟨⟨⟨(Nat.lt_of_lt_of_le (Nat.le_of_ble_eq_true rfl) hN), (Nat.le_of_ble_eq_true rfl)⟩, hs3, (Nat.le_of_ble_eq_true rfl), Nat.le_refl _, Nat.le_refl _, Nat.le_refl _, Nat.le_refl _⟩, trivial⟩⟩ rfl ?_
    have tk4 : zF s m0 m3 := zF_tr tF kF_3 (by unfold zQ; omega)
    have tk5 : m3 s 184 = m0 s 184 := zG_c kG_3 tCh
    have f6 : (-2147483648 : Int) ≤ m3 s ((166 + x2).toNat) ∧ m3 s ((166 + x2).toNat) ≤ 2147483647 := zr_i hIm3 h_s ((166 + x2).toNat)
    by_cases b7 : (m3 s ((166 + x2).toNat)) = 1
    · refine zW.step (st1 := (35, [(some (.ref 18)), (some (.ref s)), (some (.int (Int32.ofInt x2))), o3], [], zk c m3)) (st2 := (35, [(some (.ref 18)), (some (.ref s)), (some (.int (Int32.ofInt x2))), o3], [], zk c m3)) ⟨[zo, zo, zo, zo, (false, 0, none, zh0, some (.inl (0, 188, .inl (fun j => Int32.ofInt (m3 s j))))), zo, zo], _, rfl, ⟨trivial, trivial, trivial, trivial, ⟨zk_ra c m3 h_s.1 (by omega), zi_in (zi_add (by decide : (Int16.ofInt 166).toInt32 = Int32.ofInt 166) rfl) (by omega) (by omega) (by omega)⟩, trivial, zbf (fun q => q ((zi_eq ((zk_rd (f := m3 s) (zi_add (by decide : (Int16.ofInt 166).toInt32 = Int32.ofInt 166) rfl) (by unfold zR; omega)).trans rfl : Int32.ofInt (m3 s (((Int16.ofInt 166).toInt32) + (Int32.ofInt x2)).toNatClampNeg) = Int32.ofInt (m3 s ((166 + x2).toNat))) rfl (by unfold zR; omega) (⟨by decide, by decide⟩ : zR 1)).mpr b7)), trivial⟩⟩ rfl ?_
      have b8 : ((-1) : Int) = (-1) := by omega
      refine zW.step (st1 := (76, [(some (.ref 18)), (some (.ref s)), (some (.int (Int32.ofInt x2))), (some (.int (Int32.ofInt (-1))))], [], zk c m3)) (st2 := (76, [(some (.ref 18)), (some (.ref s)), (some (.int (Int32.ofInt x2))), (some (.int (Int32.ofInt (-1))))], [], zk c m3)) ⟨[zo, zo, zo, zo, zo, zt], _, rfl, ⟨trivial, trivial, trivial, trivial, trivial, zbt ((zi_eq rfl rfl (⟨by decide, by decide⟩ : zR (-1)) (⟨by decide, by decide⟩ : zR (-1))).mpr b8), trivial⟩⟩ rfl ?_
      refine zW.step (st1 := (7, [(some (.ref 18)), (some (.ref s)), (some (.int ((Int32.ofInt x2) + Int32.ofInt 1))), (some (.int (Int32.ofInt (-1))))], [], zk c m3)) (st2 := (7, [(some (.ref 18)), (some (.ref s)), (some (.int (Int32.ofInt (x2 + 1)))), (some (.int (Int32.ofInt (-1))))], [], zk c m3)) ⟨[zo, zo], _, rfl, ⟨trivial, trivial, trivial⟩⟩ (z_steq (z_c1 rfl (z_c1 rfl (z_c1 (z_si (zi_add rfl rfl)) rfl))) rfl rfl) ?_
      exact ih _ (by omega) (x2 + 1) (some (.int (Int32.ofInt (-1)))) m3 hIm3 (by omega) tk4 tk5 rfl
    · refine zW.step (st1 := (39, [(some (.ref 18)), (some (.ref s)), (some (.int (Int32.ofInt x2))), o3], [], zk c m3)) (st2 := (39, [(some (.ref 18)), (some (.ref s)), (some (.int (Int32.ofInt x2))), o3], [], zk c m3)) ⟨[zo, zo, zo, zo, (false, 0, none, zh0, some (.inl (0, 188, .inl (fun j => Int32.ofInt (m3 s j))))), zo, zt], _, rfl, ⟨trivial, trivial, trivial, trivial, ⟨zk_ra c m3 h_s.1 (by omega), zi_in (zi_add (by decide : (Int16.ofInt 166).toInt32 = Int32.ofInt 166) rfl) (by omega) (by omega) (by omega)⟩, trivial, zbt (fun q => b7 ((zi_eq ((zk_rd (f := m3 s) (zi_add (by decide : (Int16.ofInt 166).toInt32 = Int32.ofInt 166) rfl) (by unfold zR; omega)).trans rfl : Int32.ofInt (m3 s (((Int16.ofInt 166).toInt32) + (Int32.ofInt x2)).toNatClampNeg) = Int32.ofInt (m3 s ((166 + x2).toNat))) rfl (by unfold zR; omega) (⟨by decide, by decide⟩ : zR 1)).mp q)), trivial⟩⟩ rfl ?_
      refine zW.step (st1 := (42, [(some (.ref 18)), (some (.ref s)), (some (.int (Int32.ofInt x2))), o3], [.int (Int32.ofInt x2), .ref s, .ref 18], zk c m3)) (st2 := (42, [(some (.ref 18)), (some (.ref s)), (some (.int (Int32.ofInt x2))), o3], [.int (Int32.ofInt x2), .ref s, .ref 18], zk c m3)) ⟨[zo, zo, zo], _, rfl, ⟨trivial, trivial, trivial, trivial⟩⟩ rfl ?_
      obtain ⟨r9, m9, hs9, hIm9, q_9, kF_9, kG_9⟩ := S_X3_choice zn (d + 0) hN hC s x2 m3 hIm3 (by omega) h_s (by omega) (by omega)
      refine zW.step (st1 := (45, [(some (.ref 18)), (some (.ref s)), (some (.int (Int32.ofInt x2))), o3], [.int (Int32.ofInt r9)], zk c m9)) ⟨[zc (some (.int (Int32.ofInt r9))) (zk c m9)], _, rfl, ⟨⟨⟨(Nat.lt_of_lt_of_le (Nat.le_of_ble_eq_true rfl) hN), (Nat.le_of_ble_eq_true rfl)⟩, hs9, (Nat.le_of_ble_eq_true rfl), Nat.le_refl _, Nat.le_refl _, Nat.le_refl _, Nat.le_refl _⟩, trivial⟩⟩ rfl ?_
      have tk10 : zF s m0 m9 := zF_tr tk4 kF_9 (by unfold zQ; omega)
      have tk11 : m9 s 184 = m0 s 184 := zG_c kG_9 tk5
      by_cases b12 : r9 = (-1)
      · refine zW.step (st1 := (76, [(some (.ref 18)), (some (.ref s)), (some (.int (Int32.ofInt x2))), (some (.int (Int32.ofInt r9)))], [], zk c m9)) (st2 := (76, [(some (.ref 18)), (some (.ref s)), (some (.int (Int32.ofInt x2))), (some (.int (Int32.ofInt r9)))], [], zk c m9)) ⟨[zo, zo, zo, zt], _, rfl, ⟨trivial, trivial, trivial, zbt ((zi_eq rfl rfl (by unfold zR; omega) (⟨by decide, by decide⟩ : zR (-1))).mpr b12), trivial⟩⟩ rfl ?_
        refine zW.step (st1 := (7, [(some (.ref 18)), (some (.ref s)), (some (.int ((Int32.ofInt x2) + Int32.ofInt 1))), (some (.int (Int32.ofInt r9)))], [], zk c m9)) (st2 := (7, [(some (.ref 18)), (some (.ref s)), (some (.int (Int32.ofInt (x2 + 1)))), (some (.int (Int32.ofInt r9)))], [], zk c m9)) ⟨[zo, zo], _, rfl, ⟨trivial, trivial, trivial⟩⟩ (z_steq (z_c1 rfl (z_c1 rfl (z_c1 (z_si (zi_add rfl rfl)) rfl))) rfl rfl) ?_
        exact ih _ (by omega) (x2 + 1) (some (.int (Int32.ofInt r9))) m9 hIm9 (by omega) tk10 tk11 rfl
      · refine zW.step (st1 := (51, [(some (.ref 18)), (some (.ref s)), (some (.int (Int32.ofInt x2))), (some (.int (Int32.ofInt r9)))], [], zk c m9)) (st2 := (51, [(some (.ref 18)), (some (.ref s)), (some (.int (Int32.ofInt x2))), (some (.int (Int32.ofInt r9)))], [], zk c m9)) ⟨[zo, zo, zo, zo], _, rfl, ⟨trivial, trivial, trivial, zbf (fun q => b12 ((zi_eq rfl rfl (by unfold zR; omega) (⟨by decide, by decide⟩ : zR (-1))).mp q)), trivial⟩⟩ rfl ?_
        have f13 : (-2147483648 : Int) ≤ m9 s ((110 + r9).toNat) ∧ m9 s ((110 + r9).toNat) ≤ 2147483647 := zr_i hIm9 h_s ((110 + r9).toNat)
        by_cases b14 : (m9 s ((110 + r9).toNat)) = 0
        · refine zW.step (st1 := (60, [(some (.ref 18)), (some (.ref s)), (some (.int (Int32.ofInt x2))), (some (.int (Int32.ofInt r9)))], [], zk c m9)) (st2 := (60, [(some (.ref 18)), (some (.ref s)), (some (.int (Int32.ofInt x2))), (some (.int (Int32.ofInt r9)))], [], zk c m9)) ⟨[zo, zo, zo, zo, (false, 0, none, zh0, some (.inl (0, 188, .inl (fun j => Int32.ofInt (m9 s j))))), zo], _, rfl, ⟨trivial, trivial, trivial, trivial, ⟨zk_ra c m9 h_s.1 (by omega), zi_in (zi_add (by decide : (Int8.ofInt 110).toInt32 = Int32.ofInt 110) rfl) (by omega) (by omega) (by omega)⟩, zbf (fun q => q ((zi_eq ((zk_rd (f := m9 s) (zi_add (by decide : (Int8.ofInt 110).toInt32 = Int32.ofInt 110) rfl) (by unfold zR; omega)).trans rfl : Int32.ofInt (m9 s (((Int8.ofInt 110).toInt32) + (Int32.ofInt r9)).toNatClampNeg) = Int32.ofInt (m9 s ((110 + r9).toNat))) (rfl : (0 : Int32) = Int32.ofInt 0) (by unfold zR; omega) (⟨by decide, by decide⟩ : zR 0)).mpr b14)), trivial⟩⟩ rfl ?_
          have f15 : (-2147483648 : Int) ≤ m9 19 r9.toNat ∧ m9 19 r9.toNat ≤ 2147483647 := hIm9.1 19 r9.toNat
          have f16 : (-2147483648 : Int) ≤ m9 s ((160 + x2).toNat) ∧ m9 s ((160 + x2).toNat) ≤ 2147483647 := zr_i hIm9 h_s ((160 + x2).toNat)
          have f17 := zwR ((m9 19 r9.toNat) + (m9 s ((160 + x2).toNat)))
          have f18 := zwI ((m9 19 r9.toNat) + (m9 s ((160 + x2).toNat)))
          obtain ⟨m19, hm19⟩ : ∃ q, q = zm_up m9 19 r9.toNat (zw ((m9 19 r9.toNat) + (m9 s ((160 + x2).toNat)))) := ⟨_, rfl⟩
          have hIm19 : zI c mM m19 := by rw [hm19]; exact zI_up hIm9 (by unfold zOk; omega) (show (-2147483648 : Int) ≤ (zw ((m9 19 r9.toNat) + (m9 s ((160 + x2).toNat)))) ∧ (zw ((m9 19 r9.toNat) + (m9 s ((160 + x2).toNat)))) ≤ 2147483647 by omega)
          have em19 : m19 19 r9.toNat = (zw ((m9 19 r9.toNat) + (m9 s ((160 + x2).toNat)))) := by rw [hm19]; exact zm_eq
          have tk20 : zF s m0 m19 := by rw [hm19]; exact zF_up tk10 (by unfold zQ; omega)
          have tk21 : m19 s 184 = m0 s 184 := by rw [hm19, zm_ne (by omega)]; exact tk11
          clear tk10
          refine zW.step (st1 := (76, [(some (.ref 18)), (some (.ref s)), (some (.int (Int32.ofInt x2))), (some (.int (Int32.ofInt r9)))], [], z_hup (zk c m9) 19 (.inl (0, 10, .inl (upd (fun j => Int32.ofInt (m9 19 j)) (Int32.ofInt r9).toNatClampNeg ((Int32.ofInt (m9 19 (Int32.ofInt r9).toNatClampNeg)) + (Int32.ofInt (m9 s (((Int16.ofInt 160).toInt32) + (Int32.ofInt x2)).toNatClampNeg)))))))) (st2 := (76, [(some (.ref 18)), (some (.ref s)), (some (.int (Int32.ofInt x2))), (some (.int (Int32.ofInt r9)))], [], zk c m19)) ⟨[zo, zo, zo, zo, (false, 0, none, zh0, some (.inl (0, 10, .inl (fun j => Int32.ofInt (m9 19 j))))), zo, zo, zo, zo, (false, 0, none, zh0, some (.inl (0, 188, .inl (fun j => Int32.ofInt (m9 s j))))), zo, (false, 0, none, zh0, some (.inl (0, 10, .inl (fun j => Int32.ofInt (m9 19 j)))))], _, rfl, ⟨trivial, (Nat.lt_of_lt_of_le (Nat.le_of_ble_eq_true rfl) hN), trivial, trivial, ⟨zk_ra c m9 zA_19 (Nat.lt_of_lt_of_le (Nat.le_of_ble_eq_true rfl) hN), zi_in rfl (by omega) (by omega) (by omega)⟩, trivial, trivial, trivial, trivial, ⟨zk_ra c m9 h_s.1 (by omega), zi_in (zi_add (by decide : (Int16.ofInt 160).toInt32 = Int32.ofInt 160) rfl) (by omega) (by omega) (by omega)⟩, trivial, ⟨zk_ra c m9 zA_19 (Nat.lt_of_lt_of_le (Nat.le_of_ble_eq_true rfl) hN), zi_in rfl (by omega) (by omega) (by omega)⟩, trivial⟩⟩ (z_steq rfl rfl ((zk_ias c m9 zA_19 rfl (by unfold zR; omega) (Eq.trans (zi_add ((zk_rd (f := m9 19) rfl (by unfold zR; omega)).trans rfl : Int32.ofInt (m9 19 (Int32.ofInt r9).toNatClampNeg) = Int32.ofInt (m9 19 r9.toNat)) ((zk_rd (f := m9 s) (zi_add (by decide : (Int16.ofInt 160).toInt32 = Int32.ofInt 160) rfl) (by unfold zR; omega)).trans rfl : Int32.ofInt (m9 s (((Int16.ofInt 160).toInt32) + (Int32.ofInt x2)).toNatClampNeg) = Int32.ofInt (m9 s ((160 + x2).toNat)))) (zw_eq _))).trans (by rw [hm19]))) ?_
          clear f6 f13 f15 f16 f17 f18 em19
          refine zW.step (st1 := (7, [(some (.ref 18)), (some (.ref s)), (some (.int ((Int32.ofInt x2) + Int32.ofInt 1))), (some (.int (Int32.ofInt r9)))], [], zk c m19)) (st2 := (7, [(some (.ref 18)), (some (.ref s)), (some (.int (Int32.ofInt (x2 + 1)))), (some (.int (Int32.ofInt r9)))], [], zk c m19)) ⟨[zo, zo], _, rfl, ⟨trivial, trivial, trivial⟩⟩ (z_steq (z_c1 rfl (z_c1 rfl (z_c1 (z_si (zi_add rfl rfl)) rfl))) rfl rfl) ?_
          exact ih _ (by omega) (x2 + 1) (some (.int (Int32.ofInt r9))) m19 hIm19 (by omega) tk20 tk21 rfl
        · refine zW.step (st1 := (76, [(some (.ref 18)), (some (.ref s)), (some (.int (Int32.ofInt x2))), (some (.int (Int32.ofInt r9)))], [], zk c m9)) (st2 := (76, [(some (.ref 18)), (some (.ref s)), (some (.int (Int32.ofInt x2))), (some (.int (Int32.ofInt r9)))], [], zk c m9)) ⟨[zo, zo, zo, zo, (false, 0, none, zh0, some (.inl (0, 188, .inl (fun j => Int32.ofInt (m9 s j))))), zt], _, rfl, ⟨trivial, trivial, trivial, trivial, ⟨zk_ra c m9 h_s.1 (by omega), zi_in (zi_add (by decide : (Int8.ofInt 110).toInt32 = Int32.ofInt 110) rfl) (by omega) (by omega) (by omega)⟩, zbt (fun q => b14 ((zi_eq ((zk_rd (f := m9 s) (zi_add (by decide : (Int8.ofInt 110).toInt32 = Int32.ofInt 110) rfl) (by unfold zR; omega)).trans rfl : Int32.ofInt (m9 s (((Int8.ofInt 110).toInt32) + (Int32.ofInt r9)).toNatClampNeg) = Int32.ofInt (m9 s ((110 + r9).toNat))) (rfl : (0 : Int32) = Int32.ofInt 0) (by unfold zR; omega) (⟨by decide, by decide⟩ : zR 0)).mp q)), trivial⟩⟩ rfl ?_
          refine zW.step (st1 := (7, [(some (.ref 18)), (some (.ref s)), (some (.int ((Int32.ofInt x2) + Int32.ofInt 1))), (some (.int (Int32.ofInt r9)))], [], zk c m9)) (st2 := (7, [(some (.ref 18)), (some (.ref s)), (some (.int (Int32.ofInt (x2 + 1)))), (some (.int (Int32.ofInt r9)))], [], zk c m9)) ⟨[zo, zo], _, rfl, ⟨trivial, trivial, trivial⟩⟩ (z_steq (z_c1 rfl (z_c1 rfl (z_c1 (z_si (zi_add rfl rfl)) rfl))) rfl rfl) ?_
          exact ih _ (by omega) (x2 + 1) (some (.int (Int32.ofInt r9))) m9 hIm9 (by omega) tk10 tk11 rfl

set_option maxRecDepth 100000 in
set_option maxHeartbeats 4000000 in
theorem S_X3_pass (zn : Bool) (d : Nat) {c : Nat × Nat} {mM : zM} (hN : 107 ≤ c.1) (hC : c.1 < z_RO) (s : Nat) (m : zM) (hIm : zI c mM m) (h_s : zS s) (k_s : s = 17 ∨ s = 70 ∨ s = 74 ∨ s = 76) (hh : m s 184 ≤ 999999999) : zCv zn (d + 4) 68 [.ref 18, .ref s] c m (fun (m1 : zM) => zI c mM m1 ∧ (m1 s 184 = m s 184 + 1) ∧ zF s m m1) := by
  refine zCv.of zu_X3_pass hC (Nat.le_of_ble_eq_true rfl) ?_
  show zW zn (d + 3) 68 c (0, [(some (.ref 18)), (some (.ref s)), none, none], [], zk c m) (fun v h1 => ∃ (m1 : zM), v = none ∧ h1 = zk c m1 ∧ zI c mM m1 ∧ (m1 s 184 = m s 184 + 1) ∧ zF s m m1)
  refine zW.step (st1 := (2, [(some (.ref 18)), (some (.ref s)), none, none], [.ref s, .ref 18], zk c m)) (st2 := (2, [(some (.ref 18)), (some (.ref s)), none, none], [.ref s, .ref 18], zk c m)) ⟨[zo, zo], _, rfl, ⟨trivial, trivial, trivial⟩⟩ rfl ?_
  obtain ⟨m22, hs22, hIm22, kF_22, kG_22⟩ := S_X3_prepare zn (d + 1) hN hC s m hIm h_s (by omega)
  refine zW.step (st1 := (5, [(some (.ref 18)), (some (.ref s)), none, none], [], zk c m22)) ⟨[zc (none) (zk c m22)], _, rfl, ⟨⟨⟨(Nat.lt_of_lt_of_le (Nat.le_of_ble_eq_true rfl) hN), (Nat.le_of_ble_eq_true rfl)⟩, hs22, (Nat.le_of_ble_eq_true rfl), Nat.le_refl _, Nat.le_refl _, Nat.le_refl _, Nat.le_refl _⟩, trivial⟩⟩ rfl ?_
  have tk23 : zF s m m22 := zF_tr zF_rf kF_22 (by unfold zQ; omega)
  have tk24 : m22 s 184 = m s 184 := zG_c kG_22 rfl
  refine zW.step (st1 := (7, [(some (.ref 18)), (some (.ref s)), (some (.int (Int32.ofInt 0))), none], [], zk c m22)) (st2 := (7, [(some (.ref 18)), (some (.ref s)), (some (.int (Int32.ofInt 0))), none], [], zk c m22)) ⟨[zo, zo], _, rfl, ⟨trivial, trivial, trivial⟩⟩ rfl ?_
  refine L_X3_pass_7 zn _ hN hC s h_s k_s m _ (fun x2_25 o3_25 m_25 hIm_25 i1_25 tF_25 tCh_25 => ?_) _ 0 none m22 hIm22 (by omega) tk23 tk24 rfl
  refine zW.step (st1 := (84, [(some (.ref 18)), (some (.ref s)), (some (.int (Int32.ofInt x2_25))), o3_25], [.ref s, .ref 18], zk c m_25)) (st2 := (84, [(some (.ref 18)), (some (.ref s)), (some (.int (Int32.ofInt x2_25))), o3_25], [.ref s, .ref 18], zk c m_25)) ⟨[zo, zo], _, rfl, ⟨trivial, trivial, trivial⟩⟩ rfl ?_
  obtain ⟨m26, hs26, hIm26, kF_26, kG_26⟩ := S_X3_digest zn (d + 1) hN hC s m_25 hIm_25 h_s (by omega)
  refine zW.step (st1 := (87, [(some (.ref 18)), (some (.ref s)), (some (.int (Int32.ofInt x2_25))), o3_25], [], zk c m26)) ⟨[zc (none) (zk c m26)], _, rfl, ⟨⟨⟨(Nat.lt_of_lt_of_le (Nat.le_of_ble_eq_true rfl) hN), (Nat.le_of_ble_eq_true rfl)⟩, hs26, (Nat.le_of_ble_eq_true rfl), Nat.le_refl _, Nat.le_refl _, Nat.le_refl _, Nat.le_refl _⟩, trivial⟩⟩ rfl ?_
  have tk27 : zF s m m26 := zF_tr tF_25 kF_26 (by unfold zQ; omega)
  have tk28 : m26 s 184 = m s 184 := zG_c kG_26 tCh_25
  refine zW.step (st1 := (89, [(some (.ref 18)), (some (.ref s)), (some (.int (Int32.ofInt x2_25))), o3_25], [.ref s, .ref 18], zk c m26)) (st2 := (89, [(some (.ref 18)), (some (.ref s)), (some (.int (Int32.ofInt x2_25))), o3_25], [.ref s, .ref 18], zk c m26)) ⟨[zo, zo], _, rfl, ⟨trivial, trivial, trivial⟩⟩ rfl ?_
  obtain ⟨m29, hs29, hIm29, kF_29, kG_29⟩ := S_X3_goWild zn (d + 0) hN hC s m26 hIm26 h_s (by omega)
  refine zW.step (st1 := (92, [(some (.ref 18)), (some (.ref s)), (some (.int (Int32.ofInt x2_25))), o3_25], [], zk c m29)) ⟨[zc (none) (zk c m29)], _, rfl, ⟨⟨⟨(Nat.lt_of_lt_of_le (Nat.le_of_ble_eq_true rfl) hN), (Nat.le_of_ble_eq_true rfl)⟩, hs29, (Nat.le_of_ble_eq_true rfl), Nat.le_refl _, Nat.le_refl _, Nat.le_refl _, Nat.le_refl _⟩, trivial⟩⟩ rfl ?_
  have tk30 : zF s m m29 := zF_tr tk27 kF_29 (by unfold zQ; omega)
  have tk31 : m29 s 184 = m s 184 := zG_c kG_29 tk28
  have f32 : (0 : Int) ≤ m29 s 184 ∧ m29 s 184 ≤ 1000000000 := zr_h hIm29 h_s
  obtain ⟨m33, hm33⟩ : ∃ q, q = zm_up m29 s 184 ((m29 s 184) + 1) := ⟨_, rfl⟩
  have hIm33 : zI c mM m33 := by rw [hm33]; exact zI_up hIm29 (by unfold zOk; omega) (zrw_h h_s (show (0 : Int) ≤ ((m29 s 184) + 1) ∧ ((m29 s 184) + 1) ≤ 1000000000 by omega))
  have em33 : m33 s 184 = ((m29 s 184) + 1) := by rw [hm33]; exact zm_eq
  have tk34 : zF s m m33 := by rw [hm33]; exact zF_up tk30 (by unfold zQ; omega)
  have tk35 : m33 s 184 = (m29 s 184) + 1 := em33
  clear tk30
  refine zW.step (st1 := (101, [(some (.ref 18)), (some (.ref s)), (some (.int (Int32.ofInt x2_25))), o3_25], [], z_hup (zk c m29) s (.inl (0, 188, .inl (upd (fun j => Int32.ofInt (m29 s j)) ((Int16.ofInt 184).toInt32).toNatClampNeg ((Int32.ofInt (m29 s ((Int16.ofInt 184).toInt32).toNatClampNeg)) + (Int32.ofInt 1))))))) (st2 := (101, [(some (.ref 18)), (some (.ref s)), (some (.int (Int32.ofInt x2_25))), o3_25], [], zk c m33)) ⟨[zo, zo, zo, (false, 0, none, zh0, some (.inl (0, 188, .inl (fun j => Int32.ofInt (m29 s j))))), zo, zo, (false, 0, none, zh0, some (.inl (0, 188, .inl (fun j => Int32.ofInt (m29 s j)))))], _, rfl, ⟨trivial, trivial, trivial, ⟨zk_ra c m29 h_s.1 (by omega), zi_in (by decide : (Int16.ofInt 184).toInt32 = Int32.ofInt 184) (by omega) (by omega) (by omega)⟩, trivial, trivial, ⟨zk_ra c m29 h_s.1 (by omega), zi_in (by decide : (Int16.ofInt 184).toInt32 = Int32.ofInt 184) (by omega) (by omega) (by omega)⟩, trivial⟩⟩ (z_steq rfl rfl ((zk_ias c m29 h_s.1 (by decide : (Int16.ofInt 184).toInt32 = Int32.ofInt 184) (⟨by decide, by decide⟩ : zR 184) (zi_add ((zk_rd (f := m29 s) (by decide : (Int16.ofInt 184).toInt32 = Int32.ofInt 184) (⟨by decide, by decide⟩ : zR 184)).trans rfl : Int32.ofInt (m29 s ((Int16.ofInt 184).toInt32).toNatClampNeg) = Int32.ofInt (m29 s 184)) rfl)).trans (by rw [hm33]; rfl))) ?_
  clear f32 em33
  have f36 : (-2147483648 : Int) ≤ m33 s 186 ∧ m33 s 186 ≤ 2147483647 := zr_i hIm33 h_s 186
  have f37 : (-2147483648 : Int) ≤ m33 18 3 ∧ m33 18 3 ≤ 2147483647 := hIm33.1 18 3
  have f38 := zwR ((m33 s 186) + (m33 18 3))
  have f39 := zwI ((m33 s 186) + (m33 18 3))
  obtain ⟨m40, hm40⟩ : ∃ q, q = zm_up m33 s 186 (zw ((m33 s 186) + (m33 18 3))) := ⟨_, rfl⟩
  have hIm40 : zI c mM m40 := by rw [hm40]; exact zI_up hIm33 (by unfold zOk; omega) (zrw_i h_s (by omega) (show (-2147483648 : Int) ≤ (zw ((m33 s 186) + (m33 18 3))) ∧ (zw ((m33 s 186) + (m33 18 3))) ≤ 2147483647 by omega))
  have em40 : m40 s 186 = (zw ((m33 s 186) + (m33 18 3))) := by rw [hm40]; exact zm_eq
  have tk41 : zF s m m40 := by rw [hm40]; exact zF_up tk34 (by unfold zQ; omega)
  have tk42 : m40 s 184 = (m29 s 184) + 1 := by rw [hm40, zm_ne (by omega)]; exact tk35
  clear tk34
  refine zW.step (st1 := (113, [(some (.ref 18)), (some (.ref s)), (some (.int (Int32.ofInt x2_25))), o3_25], [], z_hup (zk c m33) s (.inl (0, 188, .inl (upd (fun j => Int32.ofInt (m33 s j)) ((Int16.ofInt 186).toInt32).toNatClampNeg ((Int32.ofInt (m33 s ((Int16.ofInt 186).toInt32).toNatClampNeg)) + (Int32.ofInt (m33 18 3)))))))) (st2 := (113, [(some (.ref 18)), (some (.ref s)), (some (.int (Int32.ofInt x2_25))), o3_25], [], zk c m40)) ⟨[zo, zo, zo, (false, 0, none, zh0, some (.inl (0, 188, .inl (fun j => Int32.ofInt (m33 s j))))), zo, zo, zo, (false, 0, none, zh0, some (.inl (0, 188, .inl (fun j => Int32.ofInt (m33 s j)))))], _, rfl, ⟨trivial, trivial, trivial, ⟨zk_ra c m33 h_s.1 (by omega), zi_in (by decide : (Int16.ofInt 186).toInt32 = Int32.ofInt 186) (by omega) (by omega) (by omega)⟩, trivial, (Nat.lt_of_lt_of_le (Nat.le_of_ble_eq_true rfl) hN), trivial, ⟨zk_ra c m33 h_s.1 (by omega), zi_in (by decide : (Int16.ofInt 186).toInt32 = Int32.ofInt 186) (by omega) (by omega) (by omega)⟩, trivial⟩⟩ (z_steq rfl rfl ((zk_ias c m33 h_s.1 (by decide : (Int16.ofInt 186).toInt32 = Int32.ofInt 186) (⟨by decide, by decide⟩ : zR 186) (Eq.trans (zi_add ((zk_rd (f := m33 s) (by decide : (Int16.ofInt 186).toInt32 = Int32.ofInt 186) (⟨by decide, by decide⟩ : zR 186)).trans rfl : Int32.ofInt (m33 s ((Int16.ofInt 186).toInt32).toNatClampNeg) = Int32.ofInt (m33 s 186)) rfl) (zw_eq _))).trans (by rw [hm40]; rfl))) ?_
  clear f36 f37 f38 f39 em40
  have f43 : (-2147483648 : Int) ≤ m40 s 187 ∧ m40 s 187 ≤ 2147483647 := zr_i hIm40 h_s 187
  have f44 : (-2147483648 : Int) ≤ m40 18 4 ∧ m40 18 4 ≤ 2147483647 := hIm40.1 18 4
  have f45 := zwR ((m40 s 187) + (m40 18 4))
  have f46 := zwI ((m40 s 187) + (m40 18 4))
  obtain ⟨m47, hm47⟩ : ∃ q, q = zm_up m40 s 187 (zw ((m40 s 187) + (m40 18 4))) := ⟨_, rfl⟩
  have hIm47 : zI c mM m47 := by rw [hm47]; exact zI_up hIm40 (by unfold zOk; omega) (zrw_i h_s (by omega) (show (-2147483648 : Int) ≤ (zw ((m40 s 187) + (m40 18 4))) ∧ (zw ((m40 s 187) + (m40 18 4))) ≤ 2147483647 by omega))
  have em47 : m47 s 187 = (zw ((m40 s 187) + (m40 18 4))) := by rw [hm47]; exact zm_eq
  have tk48 : zF s m m47 := by rw [hm47]; exact zF_up tk41 (by unfold zQ; omega)
  have tk49 : m47 s 184 = (m29 s 184) + 1 := by rw [hm47, zm_ne (by omega)]; exact tk42
  clear tk41
  refine zW.step (st1 := (125, [(some (.ref 18)), (some (.ref s)), (some (.int (Int32.ofInt x2_25))), o3_25], [], z_hup (zk c m40) s (.inl (0, 188, .inl (upd (fun j => Int32.ofInt (m40 s j)) ((Int16.ofInt 187).toInt32).toNatClampNeg ((Int32.ofInt (m40 s ((Int16.ofInt 187).toInt32).toNatClampNeg)) + (Int32.ofInt (m40 18 4)))))))) (st2 := (125, [(some (.ref 18)), (some (.ref s)), (some (.int (Int32.ofInt x2_25))), o3_25], [], zk c m47)) ⟨[zo, zo, zo, (false, 0, none, zh0, some (.inl (0, 188, .inl (fun j => Int32.ofInt (m40 s j))))), zo, zo, zo, (false, 0, none, zh0, some (.inl (0, 188, .inl (fun j => Int32.ofInt (m40 s j)))))], _, rfl, ⟨trivial, trivial, trivial, ⟨zk_ra c m40 h_s.1 (by omega), zi_in (by decide : (Int16.ofInt 187).toInt32 = Int32.ofInt 187) (by omega) (by omega) (by omega)⟩, trivial, (Nat.lt_of_lt_of_le (Nat.le_of_ble_eq_true rfl) hN), trivial, ⟨zk_ra c m40 h_s.1 (by omega), zi_in (by decide : (Int16.ofInt 187).toInt32 = Int32.ofInt 187) (by omega) (by omega) (by omega)⟩, trivial⟩⟩ (z_steq rfl rfl ((zk_ias c m40 h_s.1 (by decide : (Int16.ofInt 187).toInt32 = Int32.ofInt 187) (⟨by decide, by decide⟩ : zR 187) (Eq.trans (zi_add ((zk_rd (f := m40 s) (by decide : (Int16.ofInt 187).toInt32 = Int32.ofInt 187) (⟨by decide, by decide⟩ : zR 187)).trans rfl : Int32.ofInt (m40 s ((Int16.ofInt 187).toInt32).toNatClampNeg) = Int32.ofInt (m40 s 187)) rfl) (zw_eq _))).trans (by rw [hm47]; rfl))) ?_
  clear f43 f44 f45 f46 em47
  exact zW.fin (zfin_v rfl rfl) ⟨m47, rfl, rfl, hIm47, (by omega), tk48⟩

set_option maxRecDepth 100000 in
set_option maxHeartbeats 4000000 in
theorem S_X8_isDigit (zn : Bool) (d : Nat) {c : Nat × Nat} {mM : zM} (hN : 107 ≤ c.1) (hC : c.1 < z_RO) (a : Int) (m : zM) (hIm : zI c mM m) (r_a : -2147483648 ≤ a ∧ a ≤ 2147483647) : zPi zn (d + 1) 108 [.int (Int32.ofInt a)] c m (fun (r : Int) => (0 ≤ r ∧ r ≤ 1) ∧ (r = 1 ↔ 48 ≤ a ∧ a ≤ 57)) := by
  refine zPi.of zu_X8_isDigit hC (Nat.le_of_ble_eq_true rfl) ?_
  show zW zn (d + 0) 108 c (0, [(some (.int (Int32.ofInt a)))], [], zk c m) (fun v h1 => ∃ (r : Int), v = some (.int (Int32.ofInt r)) ∧ h1 = zk c m ∧ (0 ≤ r ∧ r ≤ 1) ∧ (r = 1 ↔ 48 ≤ a ∧ a ≤ 57))
  by_cases b1 : a < 48
  · refine zW.step (st1 := (16, [(some (.int (Int32.ofInt a)))], [], zk c m)) (st2 := (16, [(some (.int (Int32.ofInt a)))], [], zk c m)) ⟨[zo, zo, zt], _, rfl, ⟨trivial, trivial, zbt ((zi_lt rfl (by decide : (Int8.ofInt 48).toInt32 = Int32.ofInt 48) (by unfold zR; omega) (⟨by decide, by decide⟩ : zR 48)).mpr b1), trivial⟩⟩ rfl ?_
    refine zW.step (st1 := (17, [(some (.int (Int32.ofInt a)))], [.int (Int32.ofInt 0)], zk c m)) (st2 := (17, [(some (.int (Int32.ofInt a)))], [.int (Int32.ofInt 0)], zk c m)) ⟨[zo], _, rfl, ⟨trivial, trivial⟩⟩ rfl ?_
    exact zW.fin (zfin_i rfl rfl rfl) ⟨0, rfl, rfl, (by omega), (by omega)⟩
  · refine zW.step (st1 := (6, [(some (.int (Int32.ofInt a)))], [], zk c m)) (st2 := (6, [(some (.int (Int32.ofInt a)))], [], zk c m)) ⟨[zo, zo, zo], _, rfl, ⟨trivial, trivial, zbf (fun q => b1 ((zi_lt rfl (by decide : (Int8.ofInt 48).toInt32 = Int32.ofInt 48) (by unfold zR; omega) (⟨by decide, by decide⟩ : zR 48)).mp q)), trivial⟩⟩ rfl ?_
    by_cases b2 : 57 < a
    · refine zW.step (st1 := (16, [(some (.int (Int32.ofInt a)))], [], zk c m)) (st2 := (16, [(some (.int (Int32.ofInt a)))], [], zk c m)) ⟨[zo, zo, zt], _, rfl, ⟨trivial, trivial, zbt ((zi_lt (by decide : (Int8.ofInt 57).toInt32 = Int32.ofInt 57) rfl (⟨by decide, by decide⟩ : zR 57) (by unfold zR; omega)).mpr b2), trivial⟩⟩ rfl ?_
      refine zW.step (st1 := (17, [(some (.int (Int32.ofInt a)))], [.int (Int32.ofInt 0)], zk c m)) (st2 := (17, [(some (.int (Int32.ofInt a)))], [.int (Int32.ofInt 0)], zk c m)) ⟨[zo], _, rfl, ⟨trivial, trivial⟩⟩ rfl ?_
      exact zW.fin (zfin_i rfl rfl rfl) ⟨0, rfl, rfl, (by omega), (by omega)⟩
    · refine zW.step (st1 := (12, [(some (.int (Int32.ofInt a)))], [], zk c m)) (st2 := (12, [(some (.int (Int32.ofInt a)))], [], zk c m)) ⟨[zo, zo, zo], _, rfl, ⟨trivial, trivial, zbf (fun q => b2 ((zi_lt (by decide : (Int8.ofInt 57).toInt32 = Int32.ofInt 57) rfl (⟨by decide, by decide⟩ : zR 57) (by unfold zR; omega)).mp q)), trivial⟩⟩ rfl ?_
      refine zW.step (st1 := (17, [(some (.int (Int32.ofInt a)))], [.int (Int32.ofInt 1)], zk c m)) (st2 := (17, [(some (.int (Int32.ofInt a)))], [.int (Int32.ofInt 1)], zk c m)) ⟨[zo, zo], _, rfl, ⟨trivial, trivial, trivial⟩⟩ rfl ?_
      exact zW.fin (zfin_i rfl rfl rfl) ⟨1, rfl, rfl, (by omega), (by omega)⟩

set_option maxRecDepth 100000 in
set_option maxHeartbeats 4000000 in
theorem S_X8_here (zn : Bool) (d : Nat) {c : Nat × Nat} {mM : zM} (hN : 107 ≤ c.1) (hC : c.1 < z_RO) (m : zM) (hIm : zI c mM m) : zPi zn (d + 1) 106 [.ref 1] c m (fun (r : Int) => (-1 ≤ r ∧ r ≤ 255) ∧ (r = -1 ∨ m 1 2 < m 1 1) ∧ (m 1 2 < m 1 1 → r = m 2 (m 1 2).toNat)) := by
  refine zPi.of zu_X8_here hC (Nat.le_of_ble_eq_true rfl) ?_
  show zW zn (d + 0) 106 c (0, [(some (.ref 1))], [], zk c m) (fun v h1 => ∃ (r : Int), v = some (.int (Int32.ofInt r)) ∧ h1 = zk c m ∧ (-1 ≤ r ∧ r ≤ 255) ∧ (r = -1 ∨ m 1 2 < m 1 1) ∧ (m 1 2 < m 1 1 → r = m 2 (m 1 2).toNat))
  have f1 : (0 : Int) ≤ m 1 2 ∧ m 1 2 ≤ 240 := hIm.1 1 2
  have f2 : (0 : Int) ≤ m 1 1 ∧ m 1 1 ≤ 240 := hIm.1 1 1
  by_cases b3 : (m 1 1) ≤ (m 1 2)
  · refine zW.step (st1 := (23, [(some (.ref 1))], [], zk c m)) (st2 := (23, [(some (.ref 1))], [], zk c m)) ⟨[zo, zo, zo, zo, zt], _, rfl, ⟨trivial, (Nat.lt_of_lt_of_le (Nat.le_of_ble_eq_true rfl) hN), trivial, (Nat.lt_of_lt_of_le (Nat.le_of_ble_eq_true rfl) hN), zbt ((zi_le rfl rfl (by unfold zR; omega) (by unfold zR; omega)).mpr b3), trivial⟩⟩ rfl ?_
    refine zW.step (st1 := (24, [(some (.ref 1))], [.int (Int32.ofInt (-1))], zk c m)) (st2 := (24, [(some (.ref 1))], [.int (Int32.ofInt (-1))], zk c m)) ⟨[zo], _, rfl, ⟨trivial, trivial⟩⟩ rfl ?_
    exact zW.fin (zfin_i rfl rfl rfl) ⟨(-1), rfl, rfl, (by omega), (by omega), (by omega)⟩
  · refine zW.step (st1 := (11, [(some (.ref 1))], [], zk c m)) (st2 := (11, [(some (.ref 1))], [], zk c m)) ⟨[zo, zo, zo, zo, zo], _, rfl, ⟨trivial, (Nat.lt_of_lt_of_le (Nat.le_of_ble_eq_true rfl) hN), trivial, (Nat.lt_of_lt_of_le (Nat.le_of_ble_eq_true rfl) hN), zbf (fun q => b3 ((zi_le rfl rfl (by unfold zR; omega) (by unfold zR; omega)).mp q)), trivial⟩⟩ rfl ?_
    have f4 : (0 : Int) ≤ m 2 ((m 1 2).toNat) ∧ m 2 ((m 1 2).toNat) ≤ 255 := hIm.1 2 ((m 1 2).toNat)
    refine zW.step (st1 := (24, [(some (.ref 1))], [.int (Int32.ofInt (m 2 (Int32.ofInt (m 1 2)).toNatClampNeg))], zk c m)) (st2 := (24, [(some (.ref 1))], [.int (Int32.ofInt (m 2 ((m 1 2).toNat)))], zk c m)) ⟨[zo, zo, zo, zo, (false, 0, none, zh0, some (.inl (0, 240, .inl (fun j => Int32.ofInt (m 2 j))))), zo], _, rfl, ⟨trivial, (Nat.lt_of_lt_of_le (Nat.le_of_ble_eq_true rfl) hN), trivial, (Nat.lt_of_lt_of_le (Nat.le_of_ble_eq_true rfl) hN), ⟨zk_ra c m zA_2 (Nat.lt_of_lt_of_le (Nat.le_of_ble_eq_true rfl) hN), zi_in rfl (by omega) (by omega) (by omega)⟩, trivial, trivial⟩⟩ (z_steq rfl (z_c1 (z_vi ((zk_rd (f := m 2) rfl (by unfold zR; omega)).trans rfl : Int32.ofInt (m 2 (Int32.ofInt (m 1 2)).toNatClampNeg) = Int32.ofInt (m 2 ((m 1 2).toNat)))) rfl) rfl) ?_
    exact zW.fin (zfin_i rfl rfl rfl) ⟨m 2 ((m 1 2).toNat), rfl, rfl, (by omega), (by omega), (by omega)⟩

set_option maxRecDepth 100000 in
set_option maxHeartbeats 4000000 in
theorem L_X8_next_0 (zn : Bool) (d : Nat) {c : Nat × Nat} {mM : zM} (hN : 107 ≤ c.1) (hC : c.1 < z_RO) (m0 : zM) (Q : Option Value → z_H → Prop) (K : ∀  (m : zM), zI c mM m → m0 1 2 ≤ m 1 2 → zN m0 m → m 1 1 = m0 1 1 → m 4 3 = m0 4 3 → m 4 4 = m0 4 4 → m 8 185 = m0 8 185 → m 1 3 = m0 1 3 → m 10 2 = m0 10 2 → zW zn (d + 1) 109 c (38, [(some (.ref 1))], [], zk c m) Q) :
    ∀ (w : Nat)  (m : zM), zI c mM m → m0 1 2 ≤ m 1 2 → zN m0 m → m 1 1 = m0 1 1 → m 4 3 = m0 4 3 → m 4 4 = m0 4 4 → m 8 185 = m0 8 185 → m 1 3 = m0 1 3 → m 10 2 = m0 10 2 → w = (240 - m 1 2).toNat → zW zn (d + 1) 109 c (0, [(some (.ref 1))], [], zk c m) Q := by
  intro w
  induction w using Nat.strongRecOn with | _ w ih => ?_
  intro m hIm j tN tCl tCr tCp tCn tCc tCe hw
  have f1 : (0 : Int) ≤ m 1 1 ∧ m 1 1 ≤ 240 := hIm.1 1 1
  have f2 : (0 : Int) ≤ m 1 2 ∧ m 1 2 ≤ 240 := hIm.1 1 2
  by_cases b3 : (m 1 1) ≤ (m 1 2)
  · refine zW.step (st1 := (38, [(some (.ref 1))], [], zk c m)) (st2 := (38, [(some (.ref 1))], [], zk c m)) ⟨[zo, zo, zo, zo, zt], _, rfl, ⟨trivial, (Nat.lt_of_lt_of_le (Nat.le_of_ble_eq_true rfl) hN), trivial, (Nat.lt_of_lt_of_le (Nat.le_of_ble_eq_true rfl) hN), zbt ((zi_le rfl rfl (by unfold zR; omega) (by unfold zR; omega)).mpr b3), trivial⟩⟩ rfl ?_
    exact K m hIm (by omega) tN tCl tCr tCp tCn tCc tCe
  · refine zW.step (st1 := (11, [(some (.ref 1))], [], zk c m)) (st2 := (11, [(some (.ref 1))], [], zk c m)) ⟨[zo, zo, zo, zo, zo], _, rfl, ⟨trivial, (Nat.lt_of_lt_of_le (Nat.le_of_ble_eq_true rfl) hN), trivial, (Nat.lt_of_lt_of_le (Nat.le_of_ble_eq_true rfl) hN), zbf (fun q => b3 ((zi_le rfl rfl (by unfold zR; omega) (by unfold zR; omega)).mp q)), trivial⟩⟩ rfl ?_
    have f4 : (0 : Int) ≤ m 2 ((m 1 2).toNat) ∧ m 2 ((m 1 2).toNat) ≤ 255 := hIm.1 2 ((m 1 2).toNat)
    by_cases b5 : (m 2 ((m 1 2).toNat)) = 32
    · refine zW.step (st1 := (25, [(some (.ref 1))], [], zk c m)) (st2 := (25, [(some (.ref 1))], [], zk c m)) ⟨[zo, zo, zo, zo, (false, 0, none, zh0, some (.inl (0, 240, .inl (fun j => Int32.ofInt (m 2 j))))), zo, zo], _, rfl, ⟨trivial, (Nat.lt_of_lt_of_le (Nat.le_of_ble_eq_true rfl) hN), trivial, (Nat.lt_of_lt_of_le (Nat.le_of_ble_eq_true rfl) hN), ⟨zk_ra c m zA_2 (Nat.lt_of_lt_of_le (Nat.le_of_ble_eq_true rfl) hN), zi_in rfl (by omega) (by omega) (by omega)⟩, trivial, zbf (fun q => q ((zi_eq ((zk_rd (f := m 2) rfl (by unfold zR; omega)).trans rfl : Int32.ofInt (m 2 (Int32.ofInt (m 1 2)).toNatClampNeg) = Int32.ofInt (m 2 ((m 1 2).toNat))) (by decide : (Int8.ofInt 32).toInt32 = Int32.ofInt 32) (by unfold zR; omega) (⟨by decide, by decide⟩ : zR 32)).mpr b5)), trivial⟩⟩ rfl ?_
      obtain ⟨m6, hm6⟩ : ∃ q, q = zm_up m 1 2 ((m 1 2) + 1) := ⟨_, rfl⟩
      have hIm6 : zI c mM m6 := by rw [hm6]; exact zI_up hIm (by unfold zOk; omega) (show (0 : Int) ≤ ((m 1 2) + 1) ∧ ((m 1 2) + 1) ≤ 240 by omega)
      have em6 : m6 1 2 = ((m 1 2) + 1) := by rw [hm6]; exact zm_eq
      have tk7 : zN m0 m6 := by rw [hm6]; exact zN_up tN (by unfold zRow; omega)
      have tk8 : m6 1 1 = m0 1 1 := by rw [hm6, zm_ne (by omega)]; exact tCl
      have tk9 : m6 4 3 = m0 4 3 := by rw [hm6, zm_ne (by omega)]; exact tCr
      have tk10 : m6 4 4 = m0 4 4 := by rw [hm6, zm_ne (by omega)]; exact tCp
      have tk11 : m6 8 185 = m0 8 185 := by rw [hm6, zm_ne (by omega)]; exact tCn
      have tk12 : m6 1 3 = m0 1 3 := by rw [hm6, zm_ne (by omega)]; exact tCc
      have tk13 : m6 10 2 = m0 10 2 := by rw [hm6, zm_ne (by omega)]; exact tCe
      refine zW.step (st1 := (35, [(some (.ref 1))], [], z_hup (zk c m) 1 (.inr (8, [.ref 2, .int (Int32.ofInt (m 1 1)), .int ((Int32.ofInt (m 1 2)) + (Int32.ofInt 1)), .int (Int32.ofInt (m 1 3))])))) (st2 := (35, [(some (.ref 1))], [], zk c m6)) ⟨[zo, zo, zo, zo, zo, zo], _, rfl, ⟨trivial, trivial, (Nat.lt_of_lt_of_le (Nat.le_of_ble_eq_true rfl) hN), trivial, trivial, ⟨(Nat.lt_of_lt_of_le (Nat.le_of_ble_eq_true rfl) hN), rfl, rfl⟩, trivial⟩⟩ (z_steq rfl rfl ((zk_up c m 1 2 ((m 1 2) + 1) _ ((congrArg (fun q => (.inr (8, [.ref 2, .int (Int32.ofInt (m 1 1)), .int q, .int (Int32.ofInt (m 1 3))]) : z_E)) (zi_add rfl rfl)).trans rfl)).trans (by rw [hm6]))) ?_
      refine zW.step (st1 := (0, [(some (.ref 1))], [], zk c m6)) (st2 := (0, [(some (.ref 1))], [], zk c m6)) ⟨[zo], _, rfl, ⟨trivial, trivial⟩⟩ rfl ?_
      exact ih _ (by omega) m6 hIm6 (by omega) tk7 tk8 tk9 tk10 tk11 tk12 tk13 rfl
    · refine zW.step (st1 := (38, [(some (.ref 1))], [], zk c m)) (st2 := (38, [(some (.ref 1))], [], zk c m)) ⟨[zo, zo, zo, zo, (false, 0, none, zh0, some (.inl (0, 240, .inl (fun j => Int32.ofInt (m 2 j))))), zo, zt], _, rfl, ⟨trivial, (Nat.lt_of_lt_of_le (Nat.le_of_ble_eq_true rfl) hN), trivial, (Nat.lt_of_lt_of_le (Nat.le_of_ble_eq_true rfl) hN), ⟨zk_ra c m zA_2 (Nat.lt_of_lt_of_le (Nat.le_of_ble_eq_true rfl) hN), zi_in rfl (by omega) (by omega) (by omega)⟩, trivial, zbt (fun q => b5 ((zi_eq ((zk_rd (f := m 2) rfl (by unfold zR; omega)).trans rfl : Int32.ofInt (m 2 (Int32.ofInt (m 1 2)).toNatClampNeg) = Int32.ofInt (m 2 ((m 1 2).toNat))) (by decide : (Int8.ofInt 32).toInt32 = Int32.ofInt 32) (by unfold zR; omega) (⟨by decide, by decide⟩ : zR 32)).mp q)), trivial⟩⟩ rfl ?_
      exact K m hIm (by omega) tN tCl tCr tCp tCn tCc tCe

set_option maxRecDepth 100000 in
set_option maxHeartbeats 4000000 in
theorem S_X8_next (zn : Bool) (d : Nat) {c : Nat × Nat} {mM : zM} (hN : 107 ≤ c.1) (hC : c.1 < z_RO) (m : zM) (hIm : zI c mM m) : zCi zn (d + 2) 109 [.ref 1] c m (fun (r : Int) (m1 : zM) => zI c mM m1 ∧ (-1 ≤ r ∧ r ≤ 255) ∧ (r = -1 ∨ m1 1 2 < m1 1 1) ∧ (m1 1 1 = m 1 1) ∧ (m 1 2 ≤ m1 1 2) ∧ (m1 4 3 = m 4 3) ∧ (m1 4 4 = m 4 4) ∧ (m1 8 185 = m 8 185) ∧ (m1 1 3 = m 1 3) ∧ (m1 10 2 = m 10 2) ∧ (m1 1 2 < m1 1 1 → r = m1 2 (m1 1 2).toNat) ∧ zN m m1) := by
  refine zCi.of zu_X8_next hC (Nat.le_of_ble_eq_true rfl) ?_
  show zW zn (d + 1) 109 c (0, [(some (.ref 1))], [], zk c m) (fun v h1 => ∃ (r : Int) (m1 : zM), v = some (.int (Int32.ofInt r)) ∧ h1 = zk c m1 ∧ zI c mM m1 ∧ (-1 ≤ r ∧ r ≤ 255) ∧ (r = -1 ∨ m1 1 2 < m1 1 1) ∧ (m1 1 1 = m 1 1) ∧ (m 1 2 ≤ m1 1 2) ∧ (m1 4 3 = m 4 3) ∧ (m1 4 4 = m 4 4) ∧ (m1 8 185 = m 8 185) ∧ (m1 1 3 = m 1 3) ∧ (m1 10 2 = m 10 2) ∧ (m1 1 2 < m1 1 1 → r = m1 2 (m1 1 2).toNat) ∧ zN m m1)
  have f14 : (0 : Int) ≤ m 1 1 ∧ m 1 1 ≤ 240 := hIm.1 1 1
  have f15 : (0 : Int) ≤ m 1 2 ∧ m 1 2 ≤ 240 := hIm.1 1 2
  refine L_X8_next_0 zn _ hN hC m _ (fun m_16 hIm_16 j_16 tN_16 tCl_16 tCr_16 tCp_16 tCn_16 tCc_16 tCe_16 => ?_) _ m hIm (by omega) zN_rf rfl rfl rfl rfl rfl rfl rfl
  have f17 : (0 : Int) ≤ m_16 1 1 ∧ m_16 1 1 ≤ 240 := hIm_16.1 1 1
  have f18 : (0 : Int) ≤ m_16 1 2 ∧ m_16 1 2 ≤ 240 := hIm_16.1 1 2
  refine zW.step (st1 := (39, [(some (.ref 1))], [.ref 1], zk c m_16)) (st2 := (39, [(some (.ref 1))], [.ref 1], zk c m_16)) ⟨[zo], _, rfl, ⟨trivial, trivial⟩⟩ rfl ?_
  obtain ⟨r19, hs19, z_19, q_19, v_19⟩ := S_X8_here zn (d + 0) hN hC m_16 hIm_16
  refine zW.step (st1 := (42, [(some (.ref 1))], [.int (Int32.ofInt r19)], zk c m_16)) ⟨[zc (some (.int (Int32.ofInt r19))) (zk c m_16)], _, rfl, ⟨⟨⟨(Nat.lt_of_lt_of_le (Nat.le_of_ble_eq_true rfl) hN), (Nat.le_of_ble_eq_true rfl)⟩, hs19, (Nat.le_of_ble_eq_true rfl), Nat.le_refl _, Nat.le_refl _, Nat.le_refl _, Nat.le_refl _⟩, trivial⟩⟩ rfl ?_
  exact zW.fin (zfin_i rfl rfl rfl) ⟨r19, m_16, rfl, rfl, hIm_16, (by omega), (by omega), (by omega), (by omega), (by omega), (by omega), (by omega), (by omega), (by omega), (by omega), tN_16⟩

set_option maxRecDepth 100000 in
set_option maxHeartbeats 4000000 in
theorem S_X8_takes (zn : Bool) (d : Nat) {c : Nat × Nat} {mM : zM} (hN : 107 ≤ c.1) (hC : c.1 < z_RO) (a : Int) (m : zM) (hIm : zI c mM m) (r_a : -2147483648 ≤ a ∧ a ≤ 2147483647) (ha : 0 ≤ a) : zCi zn (d + 3) 111 [.ref 1, .int (Int32.ofInt a)] c m (fun (r : Int) (m1 : zM) => zI c mM m1 ∧ (0 ≤ r ∧ r ≤ 1) ∧ (m1 1 1 = m 1 1) ∧ (m 1 2 ≤ m1 1 2) ∧ (r = 1 → m 1 2 < m1 1 2) ∧ (m1 4 3 = m 4 3) ∧ (m1 4 4 = m 4 4) ∧ (m1 8 185 = m 8 185) ∧ (m1 10 2 = m 10 2) ∧ zN m m1) := by
  refine zCi.of zu_X8_takes hC (Nat.le_of_ble_eq_true rfl) ?_
  show zW zn (d + 2) 111 c (0, [(some (.ref 1)), (some (.int (Int32.ofInt a)))], [], zk c m) (fun v h1 => ∃ (r : Int) (m1 : zM), v = some (.int (Int32.ofInt r)) ∧ h1 = zk c m1 ∧ zI c mM m1 ∧ (0 ≤ r ∧ r ≤ 1) ∧ (m1 1 1 = m 1 1) ∧ (m 1 2 ≤ m1 1 2) ∧ (r = 1 → m 1 2 < m1 1 2) ∧ (m1 4 3 = m 4 3) ∧ (m1 4 4 = m 4 4) ∧ (m1 8 185 = m 8 185) ∧ (m1 10 2 = m 10 2) ∧ zN m m1)
  have f1 : (0 : Int) ≤ m 1 1 ∧ m 1 1 ≤ 240 := hIm.1 1 1
  have f2 : (0 : Int) ≤ m 1 2 ∧ m 1 2 ≤ 240 := hIm.1 1 2
  refine zW.step (st1 := (1, [(some (.ref 1)), (some (.int (Int32.ofInt a)))], [.ref 1], zk c m)) (st2 := (1, [(some (.ref 1)), (some (.int (Int32.ofInt a)))], [.ref 1], zk c m)) ⟨[zo], _, rfl, ⟨trivial, trivial⟩⟩ rfl ?_
  obtain ⟨r3, m3, hs3, hIm3, z_3, q_3, l_3, a9_3, r9_3, p9_3, n9_3, c3_3, e2_3, v9_3, kN_3⟩ := S_X8_next zn (d + 0) hN hC m hIm
  refine zW.step (st1 := (4, [(some (.ref 1)), (some (.int (Int32.ofInt a)))], [.int (Int32.ofInt r3)], zk c m3)) ⟨[zc (some (.int (Int32.ofInt r3))) (zk c m3)], _, rfl, ⟨⟨⟨(Nat.lt_of_lt_of_le (Nat.le_of_ble_eq_true rfl) hN), (Nat.le_of_ble_eq_true rfl)⟩, hs3, (Nat.le_of_ble_eq_true rfl), Nat.le_refl _, Nat.le_refl _, Nat.le_refl _, Nat.le_refl _⟩, trivial⟩⟩ rfl ?_
  have f4 : (0 : Int) ≤ m3 1 1 ∧ m3 1 1 ≤ 240 := hIm3.1 1 1
  have f5 : (0 : Int) ≤ m3 1 2 ∧ m3 1 2 ≤ 240 := hIm3.1 1 2
  have tk6 : zN m m3 := zN_tr zN_rf kN_3
  have tk7 : m3 1 1 = m 1 1 := (show _ = _ from l_3).trans rfl
  have tk8 : m3 4 3 = m 4 3 := (show _ = _ from r9_3).trans rfl
  have tk9 : m3 4 4 = m 4 4 := (show _ = _ from p9_3).trans rfl
  have tk10 : m3 8 185 = m 8 185 := (show _ = _ from n9_3).trans rfl
  have tk11 : m3 10 2 = m 10 2 := (show _ = _ from e2_3).trans rfl
  by_cases b12 : r3 = a
  · refine zW.step (st1 := (10, [(some (.ref 1)), (some (.int (Int32.ofInt a)))], [], zk c m3)) (st2 := (10, [(some (.ref 1)), (some (.int (Int32.ofInt a)))], [], zk c m3)) ⟨[zo, zt], _, rfl, ⟨trivial, zbt ((zi_eq rfl rfl (by unfold zR; omega) (by unfold zR; omega)).mpr b12), trivial⟩⟩ rfl ?_
    obtain ⟨m13, hm13⟩ : ∃ q, q = zm_up m3 1 2 ((m3 1 2) + 1) := ⟨_, rfl⟩
    have hIm13 : zI c mM m13 := by rw [hm13]; exact zI_up hIm3 (by unfold zOk; omega) (show (0 : Int) ≤ ((m3 1 2) + 1) ∧ ((m3 1 2) + 1) ≤ 240 by omega)
    have em13 : m13 1 2 = ((m3 1 2) + 1) := by rw [hm13]; exact zm_eq
    have f14 : m13 1 1 = m3 1 1 := by rw [hm13]; exact zm_ne (by omega)
    have tk15 : zN m m13 := by rw [hm13]; exact zN_up tk6 (by unfold zRow; omega)
    have tk16 : m13 1 1 = m 1 1 := by rw [hm13, zm_ne (by omega)]; exact tk7
    have tk17 : m13 4 3 = m 4 3 := by rw [hm13, zm_ne (by omega)]; exact tk8
    have tk18 : m13 4 4 = m 4 4 := by rw [hm13, zm_ne (by omega)]; exact tk9
    have tk19 : m13 8 185 = m 8 185 := by rw [hm13, zm_ne (by omega)]; exact tk10
    have tk20 : m13 10 2 = m 10 2 := by rw [hm13, zm_ne (by omega)]; exact tk11
    clear tk6
    refine zW.step (st1 := (20, [(some (.ref 1)), (some (.int (Int32.ofInt a)))], [], z_hup (zk c m3) 1 (.inr (8, [.ref 2, .int (Int32.ofInt (m3 1 1)), .int ((Int32.ofInt (m3 1 2)) + (Int32.ofInt 1)), .int (Int32.ofInt (m3 1 3))])))) (st2 := (20, [(some (.ref 1)), (some (.int (Int32.ofInt a)))], [], zk c m13)) ⟨[zo, zo, zo, zo, zo, zo], _, rfl, ⟨trivial, trivial, (Nat.lt_of_lt_of_le (Nat.le_of_ble_eq_true rfl) hN), trivial, trivial, ⟨(Nat.lt_of_lt_of_le (Nat.le_of_ble_eq_true rfl) hN), rfl, rfl⟩, trivial⟩⟩ (z_steq rfl rfl ((zk_up c m3 1 2 ((m3 1 2) + 1) _ ((congrArg (fun q => (.inr (8, [.ref 2, .int (Int32.ofInt (m3 1 1)), .int q, .int (Int32.ofInt (m3 1 3))]) : z_E)) (zi_add rfl rfl)).trans rfl)).trans (by rw [hm13]))) ?_
    refine zW.step (st1 := (21, [(some (.ref 1)), (some (.int (Int32.ofInt a)))], [.int (Int32.ofInt 1)], zk c m13)) (st2 := (21, [(some (.ref 1)), (some (.int (Int32.ofInt a)))], [.int (Int32.ofInt 1)], zk c m13)) ⟨[zo], _, rfl, ⟨trivial, trivial⟩⟩ rfl ?_
    exact zW.fin (zfin_i rfl rfl rfl) ⟨1, m13, rfl, rfl, hIm13, (by omega), (by omega), (by omega), (by omega), (by omega), (by omega), (by omega), (by omega), tk15⟩
  · refine zW.step (st1 := (8, [(some (.ref 1)), (some (.int (Int32.ofInt a)))], [], zk c m3)) (st2 := (8, [(some (.ref 1)), (some (.int (Int32.ofInt a)))], [], zk c m3)) ⟨[zo, zo], _, rfl, ⟨trivial, zbf (fun q => b12 ((zi_eq rfl rfl (by unfold zR; omega) (by unfold zR; omega)).mp q)), trivial⟩⟩ rfl ?_
    refine zW.step (st1 := (9, [(some (.ref 1)), (some (.int (Int32.ofInt a)))], [.int (Int32.ofInt 0)], zk c m3)) (st2 := (9, [(some (.ref 1)), (some (.int (Int32.ofInt a)))], [.int (Int32.ofInt 0)], zk c m3)) ⟨[zo], _, rfl, ⟨trivial, trivial⟩⟩ rfl ?_
    exact zW.fin (zfin_i rfl rfl rfl) ⟨0, m3, rfl, rfl, hIm3, (by omega), (by omega), (by omega), (by omega), (by omega), (by omega), (by omega), (by omega), tk6⟩

set_option maxRecDepth 100000 in
set_option maxHeartbeats 4000000 in
theorem L_X8_takesNumber_19 (zn : Bool) (d : Nat) {c : Nat × Nat} {mM : zM} (hN : 107 ≤ c.1) (hC : c.1 < z_RO) (n : Int) (r_n : -2147483648 ≤ n ∧ n ≤ 2147483647) (hn9 : n ≤ 4) (hn1 : 1 ≤ n) (m0 : zM) (Q : Option Value → z_H → Prop) (K : ∀ (x2 : Int) (m : zM), zI c mM m → 0 ≤ x2 ∧ (x2 ≤ n ∨ x2 = 0) → m0 1 2 ≤ m 1 2 → 0 ≤ m 1 3 ∧ (x2 = 0 ∧ m 1 3 ≤ 0 ∨ x2 = 1 ∧ m 1 3 ≤ 9 ∨ x2 = 2 ∧ m 1 3 ≤ 99 ∨ x2 = 3 ∧ m 1 3 ≤ 999 ∨ x2 = 4 ∧ m 1 3 ≤ 9999) → x2 = 0 ∧ 48 ≤ m 2 (m 1 2).toNat ∧ m 2 (m 1 2).toNat ≤ 57 ∧ m 1 2 < m 1 1 ∨ m0 1 2 < m 1 2 → zN m0 m → m 1 1 = m0 1 1 → m 4 3 = m0 4 3 → m 4 4 = m0 4 4 → m 8 185 = m0 8 185 → m 10 2 = m0 10 2 → zW zn (d + 2) 112 c (69, [(some (.ref 1)), (some (.int (Int32.ofInt n))), (some (.int (Int32.ofInt x2)))], [], zk c m) Q) :
    ∀ (w : Nat) (x2 : Int) (m : zM), zI c mM m → 0 ≤ x2 ∧ (x2 ≤ n ∨ x2 = 0) → m0 1 2 ≤ m 1 2 → 0 ≤ m 1 3 ∧ (x2 = 0 ∧ m 1 3 ≤ 0 ∨ x2 = 1 ∧ m 1 3 ≤ 9 ∨ x2 = 2 ∧ m 1 3 ≤ 99 ∨ x2 = 3 ∧ m 1 3 ≤ 999 ∨ x2 = 4 ∧ m 1 3 ≤ 9999) → x2 = 0 ∧ 48 ≤ m 2 (m 1 2).toNat ∧ m 2 (m 1 2).toNat ≤ 57 ∧ m 1 2 < m 1 1 ∨ m0 1 2 < m 1 2 → zN m0 m → m 1 1 = m0 1 1 → m 4 3 = m0 4 3 → m 4 4 = m0 4 4 → m 8 185 = m0 8 185 → m 10 2 = m0 10 2 → w = (n - x2).toNat → zW zn (d + 2) 112 c (19, [(some (.ref 1)), (some (.int (Int32.ofInt n))), (some (.int (Int32.ofInt x2)))], [], zk c m) Q := by
  intro w
  induction w using Nat.strongRecOn with | _ w ih => ?_
  intro x2 m hIm i1 j v9 jq tN tCl tCr tCp tCn tCe hw
  have f1 : (0 : Int) ≤ m 1 1 ∧ m 1 1 ≤ 240 := hIm.1 1 1
  have f2 : (0 : Int) ≤ m 1 2 ∧ m 1 2 ≤ 240 := hIm.1 1 2
  have f3 : (-2147483648 : Int) ≤ m 1 3 ∧ m 1 3 ≤ 2147483647 := hIm.1 1 3
  by_cases b4 : n ≤ x2
  · refine zW.step (st1 := (69, [(some (.ref 1)), (some (.int (Int32.ofInt n))), (some (.int (Int32.ofInt x2)))], [], zk c m)) (st2 := (69, [(some (.ref 1)), (some (.int (Int32.ofInt n))), (some (.int (Int32.ofInt x2)))], [], zk c m)) ⟨[zo, zo, zt], _, rfl, ⟨trivial, trivial, zbt ((zi_le rfl rfl (by unfold zR; omega) (by unfold zR; omega)).mpr b4), trivial⟩⟩ rfl ?_
    exact K x2 m hIm (by omega) (by omega) (by omega) (by omega) tN tCl tCr tCp tCn tCe
  · refine zW.step (st1 := (24, [(some (.ref 1)), (some (.int (Int32.ofInt n))), (some (.int (Int32.ofInt x2)))], [], zk c m)) (st2 := (24, [(some (.ref 1)), (some (.int (Int32.ofInt n))), (some (.int (Int32.ofInt x2)))], [], zk c m)) ⟨[zo, zo, zo], _, rfl, ⟨trivial, trivial, zbf (fun q => b4 ((zi_le rfl rfl (by unfold zR; omega) (by unfold zR; omega)).mp q)), trivial⟩⟩ rfl ?_
    refine zW.step (st1 := (25, [(some (.ref 1)), (some (.int (Int32.ofInt n))), (some (.int (Int32.ofInt x2)))], [.ref 1], zk c m)) (st2 := (25, [(some (.ref 1)), (some (.int (Int32.ofInt n))), (some (.int (Int32.ofInt x2)))], [.ref 1], zk c m)) ⟨[zo], _, rfl, ⟨trivial, trivial⟩⟩ rfl ?_
    obtain ⟨r5, hs5, z_5, q_5, v_5⟩ := S_X8_here zn (d + 1) hN hC m hIm
    refine zW.step (st1 := (28, [(some (.ref 1)), (some (.int (Int32.ofInt n))), (some (.int (Int32.ofInt x2)))], [.int (Int32.ofInt r5)], zk c m)) ⟨[zc (some (.int (Int32.ofInt r5))) (zk c m)], _, rfl, ⟨⟨⟨(Nat.lt_of_lt_of_le (Nat.le_of_ble_eq_true rfl) hN), (Nat.le_of_ble_eq_true rfl)⟩, hs5, (Nat.le_of_ble_eq_true rfl), Nat.le_refl _, Nat.le_refl _, Nat.le_refl _, Nat.le_refl _⟩, trivial⟩⟩ rfl ?_
    obtain ⟨r6, hs6, z_6, q_6⟩ := S_X8_isDigit zn (d + 1) hN hC r5 m hIm (by omega)
    refine zW.step (st1 := (31, [(some (.ref 1)), (some (.int (Int32.ofInt n))), (some (.int (Int32.ofInt x2)))], [.int (Int32.ofInt r6)], zk c m)) ⟨[zc (some (.int (Int32.ofInt r6))) (zk c m)], _, rfl, ⟨⟨(Nat.le_of_ble_eq_true rfl), hs6, (Nat.le_of_ble_eq_true rfl), Nat.le_refl _, Nat.le_refl _, Nat.le_refl _, Nat.le_refl _⟩, trivial⟩⟩ rfl ?_
    by_cases b7 : r6 = 0
    · refine zW.step (st1 := (69, [(some (.ref 1)), (some (.int (Int32.ofInt n))), (some (.int (Int32.ofInt x2)))], [], zk c m)) (st2 := (69, [(some (.ref 1)), (some (.int (Int32.ofInt n))), (some (.int (Int32.ofInt x2)))], [], zk c m)) ⟨[zt], _, rfl, ⟨zbt ((zi_eq rfl (rfl : (0 : Int32) = Int32.ofInt 0) (by unfold zR; omega) (⟨by decide, by decide⟩ : zR 0)).mpr b7), trivial⟩⟩ rfl ?_
      exact K x2 m hIm (by omega) (by omega) (by omega) (by omega) tN tCl tCr tCp tCn tCe
    · refine zW.step (st1 := (34, [(some (.ref 1)), (some (.int (Int32.ofInt n))), (some (.int (Int32.ofInt x2)))], [], zk c m)) (st2 := (34, [(some (.ref 1)), (some (.int (Int32.ofInt n))), (some (.int (Int32.ofInt x2)))], [], zk c m)) ⟨[zo], _, rfl, ⟨zbf (fun q => b7 ((zi_eq rfl (rfl : (0 : Int32) = Int32.ofInt 0) (by unfold zR; omega) (⟨by decide, by decide⟩ : zR 0)).mp q)), trivial⟩⟩ rfl ?_
      refine zW.step (st1 := (43, [(some (.ref 1)), (some (.int (Int32.ofInt n))), (some (.int (Int32.ofInt x2)))], [.ref 1, .int ((Int32.ofInt (m 1 3)) * ((Int8.ofInt 10).toInt32)), .ref 1], zk c m)) (st2 := (43, [(some (.ref 1)), (some (.int (Int32.ofInt n))), (some (.int (Int32.ofInt x2)))], [.ref 1, .int (Int32.ofInt ((m 1 3) * 10)), .ref 1], zk c m)) ⟨[zo, zo, zo, zo, zo, zo], _, rfl, ⟨trivial, trivial, (Nat.lt_of_lt_of_le (Nat.le_of_ble_eq_true rfl) hN), trivial, trivial, trivial, trivial⟩⟩ (z_steq rfl (z_c1 rfl (z_c1 (z_vi (zi_mul rfl (by decide : (Int8.ofInt 10).toInt32 = Int32.ofInt 10))) rfl)) rfl) ?_
      obtain ⟨r8, hs8, z_8, q_8, v_8⟩ := S_X8_here zn (d + 1) hN hC m hIm
      refine zW.step (st1 := (46, [(some (.ref 1)), (some (.int (Int32.ofInt n))), (some (.int (Int32.ofInt x2)))], [.int (Int32.ofInt r8), .int (Int32.ofInt ((m 1 3) * 10)), .ref 1], zk c m)) ⟨[zc (some (.int (Int32.ofInt r8))) (zk c m)], _, rfl, ⟨⟨⟨(Nat.lt_of_lt_of_le (Nat.le_of_ble_eq_true rfl) hN), (Nat.le_of_ble_eq_true rfl)⟩, hs8, (Nat.le_of_ble_eq_true rfl), Nat.le_refl _, Nat.le_refl _, Nat.le_refl _, Nat.le_refl _⟩, trivial⟩⟩ rfl ?_
      have f9 := zwR ((((m 1 3) * 10) + r8) - 48)
      have f10 := zwI ((((m 1 3) * 10) + r8) - 48)
      obtain ⟨m11, hm11⟩ : ∃ q, q = zm_up m 1 3 (zw ((((m 1 3) * 10) + r8) - 48)) := ⟨_, rfl⟩
      have hIm11 : zI c mM m11 := by rw [hm11]; exact zI_up hIm (by unfold zOk; omega) (show (-2147483648 : Int) ≤ (zw ((((m 1 3) * 10) + r8) - 48)) ∧ (zw ((((m 1 3) * 10) + r8) - 48)) ≤ 2147483647 by omega)
      have em11 : m11 1 3 = (zw ((((m 1 3) * 10) + r8) - 48)) := by rw [hm11]; exact zm_eq
      have f12 : m11 1 1 = m 1 1 := by rw [hm11]; exact zm_ne (by omega)
      have f13 : m11 1 2 = m 1 2 := by rw [hm11]; exact zm_ne (by omega)
      have tk14 : zN m0 m11 := by rw [hm11]; exact zN_up tN (by unfold zRow; omega)
      have tk15 : m11 1 1 = m0 1 1 := by rw [hm11, zm_ne (by omega)]; exact tCl
      have tk16 : m11 4 3 = m0 4 3 := by rw [hm11, zm_ne (by omega)]; exact tCr
      have tk17 : m11 4 4 = m0 4 4 := by rw [hm11, zm_ne (by omega)]; exact tCp
      have tk18 : m11 8 185 = m0 8 185 := by rw [hm11, zm_ne (by omega)]; exact tCn
      have tk19 : m11 10 2 = m0 10 2 := by rw [hm11, zm_ne (by omega)]; exact tCe
      refine zW.step (st1 := (53, [(some (.ref 1)), (some (.int (Int32.ofInt n))), (some (.int (Int32.ofInt x2)))], [], z_hup (zk c m) 1 (.inr (8, [.ref 2, .int (Int32.ofInt (m 1 1)), .int (Int32.ofInt (m 1 2)), .int (((Int32.ofInt ((m 1 3) * 10)) + (Int32.ofInt r8)) - ((Int8.ofInt 48).toInt32))])))) (st2 := (53, [(some (.ref 1)), (some (.int (Int32.ofInt n))), (some (.int (Int32.ofInt x2)))], [], zk c m11)) ⟨[zo, zo, zo, zo], _, rfl, ⟨trivial, trivial, trivial, ⟨(Nat.lt_of_lt_of_le (Nat.le_of_ble_eq_true rfl) hN), rfl, rfl⟩, trivial⟩⟩ (z_steq rfl rfl ((zk_up c m 1 3 (zw ((((m 1 3) * 10) + r8) - 48)) _ ((congrArg (fun q => (.inr (8, [.ref 2, .int (Int32.ofInt (m 1 1)), .int (Int32.ofInt (m 1 2)), .int q]) : z_E)) (Eq.trans (zi_sub (zi_add rfl rfl) (by decide : (Int8.ofInt 48).toInt32 = Int32.ofInt 48)) (zw_eq _))).trans rfl)).trans (by rw [hm11]))) ?_
      have f20 : (0 : Int) ≤ m11 1 2 ∧ m11 1 2 ≤ 240 := hIm11.1 1 2
      obtain ⟨m21, hm21⟩ : ∃ q, q = zm_up m11 1 2 ((m11 1 2) + 1) := ⟨_, rfl⟩
      have hIm21 : zI c mM m21 := by rw [hm21]; exact zI_up hIm11 (by unfold zOk; omega) (show (0 : Int) ≤ ((m11 1 2) + 1) ∧ ((m11 1 2) + 1) ≤ 240 by omega)
      have em21 : m21 1 2 = ((m11 1 2) + 1) := by rw [hm21]; exact zm_eq
      have f22 : m21 1 1 = m11 1 1 := by rw [hm21]; exact zm_ne (by omega)
      have f23 : m21 1 3 = m11 1 3 := by rw [hm21]; exact zm_ne (by omega)
      have tk24 : zN m0 m21 := by rw [hm21]; exact zN_up tk14 (by unfold zRow; omega)
      have tk25 : m21 1 1 = m0 1 1 := by rw [hm21, zm_ne (by omega)]; exact tk15
      have tk26 : m21 4 3 = m0 4 3 := by rw [hm21, zm_ne (by omega)]; exact tk16
      have tk27 : m21 4 4 = m0 4 4 := by rw [hm21, zm_ne (by omega)]; exact tk17
      have tk28 : m21 8 185 = m0 8 185 := by rw [hm21, zm_ne (by omega)]; exact tk18
      have tk29 : m21 10 2 = m0 10 2 := by rw [hm21, zm_ne (by omega)]; exact tk19
      clear tk14
      refine zW.step (st1 := (63, [(some (.ref 1)), (some (.int (Int32.ofInt n))), (some (.int (Int32.ofInt x2)))], [], z_hup (zk c m11) 1 (.inr (8, [.ref 2, .int (Int32.ofInt (m11 1 1)), .int ((Int32.ofInt (m11 1 2)) + (Int32.ofInt 1)), .int (Int32.ofInt (m11 1 3))])))) (st2 := (63, [(some (.ref 1)), (some (.int (Int32.ofInt n))), (some (.int (Int32.ofInt x2)))], [], zk c m21)) ⟨[zo, zo, zo, zo, zo, zo], _, rfl, ⟨trivial, trivial, (Nat.lt_of_lt_of_le (Nat.le_of_ble_eq_true rfl) hN), trivial, trivial, ⟨(Nat.lt_of_lt_of_le (Nat.le_of_ble_eq_true rfl) hN), rfl, rfl⟩, trivial⟩⟩ (z_steq rfl rfl ((zk_up c m11 1 2 ((m11 1 2) + 1) _ ((congrArg (fun q => (.inr (8, [.ref 2, .int (Int32.ofInt (m11 1 1)), .int q, .int (Int32.ofInt (m11 1 3))]) : z_E)) (zi_add rfl rfl)).trans rfl)).trans (by rw [hm21]))) ?_
      refine zW.step (st1 := (19, [(some (.ref 1)), (some (.int (Int32.ofInt n))), (some (.int ((Int32.ofInt x2) + Int32.ofInt 1)))], [], zk c m21)) (st2 := (19, [(some (.ref 1)), (some (.int (Int32.ofInt n))), (some (.int (Int32.ofInt (x2 + 1))))], [], zk c m21)) ⟨[zo, zo], _, rfl, ⟨trivial, trivial, trivial⟩⟩ (z_steq (z_c1 rfl (z_c1 rfl (z_c1 (z_si (zi_add rfl rfl)) rfl))) rfl rfl) ?_
      exact ih _ (by omega) (x2 + 1) m21 hIm21 (by omega) (by omega) (by omega) (by omega) tk24 tk25 tk26 tk27 tk28 tk29 rfl

set_option maxRecDepth 100000 in
set_option maxHeartbeats 4000000 in
theorem S_X8_takesNumber (zn : Bool) (d : Nat) {c : Nat × Nat} {mM : zM} (hN : 107 ≤ c.1) (hC : c.1 < z_RO) (n : Int) (m : zM) (hIm : zI c mM m) (r_n : -2147483648 ≤ n ∧ n ≤ 2147483647) (hn9 : n ≤ 4) (hn1 : 1 ≤ n) : zCi zn (d + 3) 112 [.ref 1, .int (Int32.ofInt n)] c m (fun (r : Int) (m1 : zM) => zI c mM m1 ∧ (0 ≤ r ∧ r ≤ 1) ∧ (m1 1 1 = m 1 1) ∧ (m 1 2 ≤ m1 1 2) ∧ (m1 4 3 = m 4 3) ∧ (m1 4 4 = m 4 4) ∧ (m1 8 185 = m 8 185) ∧ (r = 1 → 0 ≤ m1 1 3 ∧ m1 1 3 ≤ 9999) ∧ (m1 10 2 = m 10 2) ∧ (r = 1 → m 1 2 < m1 1 2) ∧ zN m m1) := by
  refine zCi.of zu_X8_takesNumber hC (Nat.le_of_ble_eq_true rfl) ?_
  show zW zn (d + 2) 112 c (0, [(some (.ref 1)), (some (.int (Int32.ofInt n))), none], [], zk c m) (fun v h1 => ∃ (r : Int) (m1 : zM), v = some (.int (Int32.ofInt r)) ∧ h1 = zk c m1 ∧ zI c mM m1 ∧ (0 ≤ r ∧ r ≤ 1) ∧ (m1 1 1 = m 1 1) ∧ (m 1 2 ≤ m1 1 2) ∧ (m1 4 3 = m 4 3) ∧ (m1 4 4 = m 4 4) ∧ (m1 8 185 = m 8 185) ∧ (r = 1 → 0 ≤ m1 1 3 ∧ m1 1 3 ≤ 9999) ∧ (m1 10 2 = m 10 2) ∧ (r = 1 → m 1 2 < m1 1 2) ∧ zN m m1)
  have f30 : (0 : Int) ≤ m 1 1 ∧ m 1 1 ≤ 240 := hIm.1 1 1
  have f31 : (0 : Int) ≤ m 1 2 ∧ m 1 2 ≤ 240 := hIm.1 1 2
  have f32 : (-2147483648 : Int) ≤ m 1 3 ∧ m 1 3 ≤ 2147483647 := hIm.1 1 3
  obtain ⟨m33, hm33⟩ : ∃ q, q = zm_up m 1 3 0 := ⟨_, rfl⟩
  have hIm33 : zI c mM m33 := by rw [hm33]; exact zI_up hIm (by unfold zOk; omega) (show (-2147483648 : Int) ≤ 0 ∧ 0 ≤ 2147483647 by omega)
  have em33 : m33 1 3 = 0 := by rw [hm33]; exact zm_eq
  have f34 : m33 1 1 = m 1 1 := by rw [hm33]; exact zm_ne (by omega)
  have f35 : m33 1 2 = m 1 2 := by rw [hm33]; exact zm_ne (by omega)
  have tk36 : zN m m33 := by rw [hm33]; exact zN_up zN_rf (by unfold zRow; omega)
  have tk37 : m33 1 1 = m 1 1 := by rw [hm33, zm_ne (by omega)]
  have tk38 : m33 4 3 = m 4 3 := by rw [hm33, zm_ne (by omega)]
  have tk39 : m33 4 4 = m 4 4 := by rw [hm33, zm_ne (by omega)]
  have tk40 : m33 8 185 = m 8 185 := by rw [hm33, zm_ne (by omega)]
  have tk41 : m33 10 2 = m 10 2 := by rw [hm33, zm_ne (by omega)]
  refine zW.step (st1 := (5, [(some (.ref 1)), (some (.int (Int32.ofInt n))), none], [], z_hup (zk c m) 1 (.inr (8, [.ref 2, .int (Int32.ofInt (m 1 1)), .int (Int32.ofInt (m 1 2)), .int (Int32.ofInt 0)])))) (st2 := (5, [(some (.ref 1)), (some (.int (Int32.ofInt n))), none], [], zk c m33)) ⟨[zo, zo, zo], _, rfl, ⟨trivial, trivial, ⟨(Nat.lt_of_lt_of_le (Nat.le_of_ble_eq_true rfl) hN), rfl, rfl⟩, trivial⟩⟩ (z_steq rfl rfl ((zk_up c m 1 3 0 _ rfl).trans (by rw [hm33]))) ?_
  refine zW.step (st1 := (6, [(some (.ref 1)), (some (.int (Int32.ofInt n))), none], [.ref 1], zk c m33)) (st2 := (6, [(some (.ref 1)), (some (.int (Int32.ofInt n))), none], [.ref 1], zk c m33)) ⟨[zo], _, rfl, ⟨trivial, trivial⟩⟩ rfl ?_
  obtain ⟨r42, m42, hs42, hIm42, z_42, q_42, l_42, a9_42, r9_42, p9_42, n9_42, c3_42, e2_42, v9_42, kN_42⟩ := S_X8_next zn (d + 0) hN hC m33 hIm33
  refine zW.step (st1 := (9, [(some (.ref 1)), (some (.int (Int32.ofInt n))), none], [.int (Int32.ofInt r42)], zk c m42)) ⟨[zc (some (.int (Int32.ofInt r42))) (zk c m42)], _, rfl, ⟨⟨⟨(Nat.lt_of_lt_of_le (Nat.le_of_ble_eq_true rfl) hN), (Nat.le_of_ble_eq_true rfl)⟩, hs42, (Nat.le_of_ble_eq_true rfl), Nat.le_refl _, Nat.le_refl _, Nat.le_refl _, Nat.le_refl _⟩, trivial⟩⟩ rfl ?_
  have f43 : (0 : Int) ≤ m42 1 1 ∧ m42 1 1 ≤ 240 := hIm42.1 1 1
  have f44 : (0 : Int) ≤ m42 1 2 ∧ m42 1 2 ≤ 240 := hIm42.1 1 2
  have f45 : (-2147483648 : Int) ≤ m42 1 3 ∧ m42 1 3 ≤ 2147483647 := hIm42.1 1 3
  have tk46 : zN m m42 := zN_tr tk36 kN_42
  have tk47 : m42 1 1 = m 1 1 := (show _ = _ from l_42).trans tk37
  have tk48 : m42 4 3 = m 4 3 := (show _ = _ from r9_42).trans tk38
  have tk49 : m42 4 4 = m 4 4 := (show _ = _ from p9_42).trans tk39
  have tk50 : m42 8 185 = m 8 185 := (show _ = _ from n9_42).trans tk40
  have tk51 : m42 10 2 = m 10 2 := (show _ = _ from e2_42).trans tk41
  obtain ⟨r52, hs52, z_52, q_52⟩ := S_X8_isDigit zn (d + 1) hN hC r42 m42 hIm42 (by omega)
  refine zW.step (st1 := (12, [(some (.ref 1)), (some (.int (Int32.ofInt n))), none], [.int (Int32.ofInt r52)], zk c m42)) ⟨[zc (some (.int (Int32.ofInt r52))) (zk c m42)], _, rfl, ⟨⟨(Nat.le_of_ble_eq_true rfl), hs52, (Nat.le_of_ble_eq_true rfl), Nat.le_refl _, Nat.le_refl _, Nat.le_refl _, Nat.le_refl _⟩, trivial⟩⟩ rfl ?_
  by_cases b53 : r52 = 0
  · refine zW.step (st1 := (15, [(some (.ref 1)), (some (.int (Int32.ofInt n))), none], [], zk c m42)) (st2 := (15, [(some (.ref 1)), (some (.int (Int32.ofInt n))), none], [], zk c m42)) ⟨[zo], _, rfl, ⟨zbf (fun q => q ((zi_eq rfl (rfl : (0 : Int32) = Int32.ofInt 0) (by unfold zR; omega) (⟨by decide, by decide⟩ : zR 0)).mpr b53)), trivial⟩⟩ rfl ?_
    refine zW.step (st1 := (16, [(some (.ref 1)), (some (.int (Int32.ofInt n))), none], [.int (Int32.ofInt 0)], zk c m42)) (st2 := (16, [(some (.ref 1)), (some (.int (Int32.ofInt n))), none], [.int (Int32.ofInt 0)], zk c m42)) ⟨[zo], _, rfl, ⟨trivial, trivial⟩⟩ rfl ?_
    exact zW.fin (zfin_i rfl rfl rfl) ⟨0, m42, rfl, rfl, hIm42, (by omega), (by omega), (by omega), (by omega), (by omega), (by omega), (by omega), (by omega), (by omega), tk46⟩
  · refine zW.step (st1 := (17, [(some (.ref 1)), (some (.int (Int32.ofInt n))), none], [], zk c m42)) (st2 := (17, [(some (.ref 1)), (some (.int (Int32.ofInt n))), none], [], zk c m42)) ⟨[zt], _, rfl, ⟨zbt (fun q => b53 ((zi_eq rfl (rfl : (0 : Int32) = Int32.ofInt 0) (by unfold zR; omega) (⟨by decide, by decide⟩ : zR 0)).mp q)), trivial⟩⟩ rfl ?_
    refine zW.step (st1 := (19, [(some (.ref 1)), (some (.int (Int32.ofInt n))), (some (.int (Int32.ofInt 0)))], [], zk c m42)) (st2 := (19, [(some (.ref 1)), (some (.int (Int32.ofInt n))), (some (.int (Int32.ofInt 0)))], [], zk c m42)) ⟨[zo, zo], _, rfl, ⟨trivial, trivial, trivial⟩⟩ rfl ?_
    refine L_X8_takesNumber_19 zn _ hN hC n r_n hn9 hn1 m _ (fun x2_54 m_54 hIm_54 i1_54 j_54 v9_54 jq_54 tN_54 tCl_54 tCr_54 tCp_54 tCn_54 tCe_54 => ?_) _ 0 m42 hIm42 (by omega) (by omega) (by omega) (by omega) tk46 tk47 tk48 tk49 tk50 tk51 rfl
    have f55 : (0 : Int) ≤ m_54 1 1 ∧ m_54 1 1 ≤ 240 := hIm_54.1 1 1
    have f56 : (0 : Int) ≤ m_54 1 2 ∧ m_54 1 2 ≤ 240 := hIm_54.1 1 2
    have f57 : (-2147483648 : Int) ≤ m_54 1 3 ∧ m_54 1 3 ≤ 2147483647 := hIm_54.1 1 3
    refine zW.step (st1 := (70, [(some (.ref 1)), (some (.int (Int32.ofInt n))), (some (.int (Int32.ofInt x2_54)))], [.ref 1], zk c m_54)) (st2 := (70, [(some (.ref 1)), (some (.int (Int32.ofInt n))), (some (.int (Int32.ofInt x2_54)))], [.ref 1], zk c m_54)) ⟨[zo], _, rfl, ⟨trivial, trivial⟩⟩ rfl ?_
    obtain ⟨r58, hs58, z_58, q_58, v_58⟩ := S_X8_here zn (d + 1) hN hC m_54 hIm_54
    refine zW.step (st1 := (73, [(some (.ref 1)), (some (.int (Int32.ofInt n))), (some (.int (Int32.ofInt x2_54)))], [.int (Int32.ofInt r58)], zk c m_54)) ⟨[zc (some (.int (Int32.ofInt r58))) (zk c m_54)], _, rfl, ⟨⟨⟨(Nat.lt_of_lt_of_le (Nat.le_of_ble_eq_true rfl) hN), (Nat.le_of_ble_eq_true rfl)⟩, hs58, (Nat.le_of_ble_eq_true rfl), Nat.le_refl _, Nat.le_refl _, Nat.le_refl _, Nat.le_refl _⟩, trivial⟩⟩ rfl ?_
    obtain ⟨r59, hs59, z_59, q_59⟩ := S_X8_isDigit zn (d + 1) hN hC r58 m_54 hIm_54 (by omega)
    refine zW.step (st1 := (76, [(some (.ref 1)), (some (.int (Int32.ofInt n))), (some (.int (Int32.ofInt x2_54)))], [.int (Int32.ofInt r59)], zk c m_54)) ⟨[zc (some (.int (Int32.ofInt r59))) (zk c m_54)], _, rfl, ⟨⟨(Nat.le_of_ble_eq_true rfl), hs59, (Nat.le_of_ble_eq_true rfl), Nat.le_refl _, Nat.le_refl _, Nat.le_refl _, Nat.le_refl _⟩, trivial⟩⟩ rfl ?_
    by_cases b60 : r59 = 0
    · refine zW.step (st1 := (79, [(some (.ref 1)), (some (.int (Int32.ofInt n))), (some (.int (Int32.ofInt x2_54)))], [], zk c m_54)) (st2 := (79, [(some (.ref 1)), (some (.int (Int32.ofInt n))), (some (.int (Int32.ofInt x2_54)))], [], zk c m_54)) ⟨[zo], _, rfl, ⟨zbf (fun q => q ((zi_eq rfl (rfl : (0 : Int32) = Int32.ofInt 0) (by unfold zR; omega) (⟨by decide, by decide⟩ : zR 0)).mpr b60)), trivial⟩⟩ rfl ?_
      refine zW.step (st1 := (84, [(some (.ref 1)), (some (.int (Int32.ofInt n))), (some (.int (Int32.ofInt x2_54)))], [.int (Int32.ofInt 1)], zk c m_54)) (st2 := (84, [(some (.ref 1)), (some (.int (Int32.ofInt n))), (some (.int (Int32.ofInt x2_54)))], [.int (Int32.ofInt 1)], zk c m_54)) ⟨[zo, zo], _, rfl, ⟨trivial, trivial, trivial⟩⟩ rfl ?_
      exact zW.fin (zfin_i rfl rfl rfl) ⟨1, m_54, rfl, rfl, hIm_54, (by omega), (by omega), (by omega), (by omega), (by omega), (by omega), (by omega), (by omega), (by omega), tN_54⟩
    · refine zW.step (st1 := (83, [(some (.ref 1)), (some (.int (Int32.ofInt n))), (some (.int (Int32.ofInt x2_54)))], [], zk c m_54)) (st2 := (83, [(some (.ref 1)), (some (.int (Int32.ofInt n))), (some (.int (Int32.ofInt x2_54)))], [], zk c m_54)) ⟨[zt], _, rfl, ⟨zbt (fun q => b60 ((zi_eq rfl (rfl : (0 : Int32) = Int32.ofInt 0) (by unfold zR; omega) (⟨by decide, by decide⟩ : zR 0)).mp q)), trivial⟩⟩ rfl ?_
      refine zW.step (st1 := (84, [(some (.ref 1)), (some (.int (Int32.ofInt n))), (some (.int (Int32.ofInt x2_54)))], [.int (Int32.ofInt 0)], zk c m_54)) (st2 := (84, [(some (.ref 1)), (some (.int (Int32.ofInt n))), (some (.int (Int32.ofInt x2_54)))], [.int (Int32.ofInt 0)], zk c m_54)) ⟨[zo], _, rfl, ⟨trivial, trivial⟩⟩ rfl ?_
      exact zW.fin (zfin_i rfl rfl rfl) ⟨0, m_54, rfl, rfl, hIm_54, (by omega), (by omega), (by omega), (by omega), (by omega), (by omega), (by omega), (by omega), (by omega), tN_54⟩

set_option maxRecDepth 100000 in
set_option maxHeartbeats 4000000 in
theorem L_X8_signsIn_5 (zn : Bool) (d : Nat) {c : Nat × Nat} {mM : zM} (hN : 107 ≤ c.1) (hC : c.1 < z_RO) (a : Int) (r_a : -2147483648 ≤ a ∧ a ≤ 2147483647) (m : zM) (hIm : zI c mM m) (Q : Option Value → z_H → Prop) (K : ∀ (x1 : Int) (x2 : Int), -8 ≤ x2 ∧ x2 ≤ 24 → 0 ≤ x1 ∧ 8 * x1 ≤ 24 - x2 → zW zn (d + 0) 110 c (33, [(some (.int (Int32.ofInt a))), (some (.int (Int32.ofInt x1))), (some (.int (Int32.ofInt x2)))], [], zk c m) Q) :
    ∀ (w : Nat) (x1 : Int) (x2 : Int), -8 ≤ x2 ∧ x2 ≤ 24 → 0 ≤ x1 ∧ 8 * x1 ≤ 24 - x2 → w = (x2 + 8).toNat → zW zn (d + 0) 110 c (5, [(some (.int (Int32.ofInt a))), (some (.int (Int32.ofInt x1))), (some (.int (Int32.ofInt x2)))], [], zk c m) Q := by
  intro w
  induction w using Nat.strongRecOn with | _ w ih => ?_
  intro x1 x2 i1 i2 hw
  by_cases b1 : x2 < 0
  · refine zW.step (st1 := (33, [(some (.int (Int32.ofInt a))), (some (.int (Int32.ofInt x1))), (some (.int (Int32.ofInt x2)))], [], zk c m)) (st2 := (33, [(some (.int (Int32.ofInt a))), (some (.int (Int32.ofInt x1))), (some (.int (Int32.ofInt x2)))], [], zk c m)) ⟨[zo, zt], _, rfl, ⟨trivial, zbt ((zi_lt rfl (rfl : (0 : Int32) = Int32.ofInt 0) (by unfold zR; omega) (⟨by decide, by decide⟩ : zR 0)).mpr b1), trivial⟩⟩ rfl ?_
    exact K x1 x2 (by omega) (by omega)
  · refine zW.step (st1 := (9, [(some (.int (Int32.ofInt a))), (some (.int (Int32.ofInt x1))), (some (.int (Int32.ofInt x2)))], [], zk c m)) (st2 := (9, [(some (.int (Int32.ofInt a))), (some (.int (Int32.ofInt x1))), (some (.int (Int32.ofInt x2)))], [], zk c m)) ⟨[zo, zo], _, rfl, ⟨trivial, zbf (fun q => b1 ((zi_lt rfl (rfl : (0 : Int32) = Int32.ofInt 0) (by unfold zR; omega) (⟨by decide, by decide⟩ : zR 0)).mp q)), trivial⟩⟩ rfl ?_
    have f2 : (-2147483648 : Int) ≤ zb_ushr a x2 ∧ zb_ushr a x2 ≤ 2147483647 := zb_ushrR a x2
    have f3 : (-2147483648 : Int) ≤ zb_and (zb_ushr a x2) 255 ∧ zb_and (zb_ushr a x2) 255 ≤ 2147483647 := zb_andR (zb_ushr a x2) 255
    have f4 := zb_and255 (zb_ushr a x2)
    have f5 := zb_and_le (a := zb_ushr a x2) (b := 255) (by decide) (by decide)
    by_cases b6 : (zb_and (zb_ushr a x2) 255) = 0
    · refine zW.step (st1 := (20, [(some (.int (Int32.ofInt a))), (some (.int (Int32.ofInt x1))), (some (.int (Int32.ofInt x2)))], [.int (Int32.ofInt x1)], zk c m)) (st2 := (20, [(some (.int (Int32.ofInt a))), (some (.int (Int32.ofInt x1))), (some (.int (Int32.ofInt x2)))], [.int (Int32.ofInt x1)], zk c m)) ⟨[zo, zo, zo, zo, zo, zo, zo], _, rfl, ⟨trivial, trivial, trivial, trivial, trivial, trivial, zbf (fun q => q ((zi_eq (zi_and (zi_ushr rfl rfl) (by decide : (Int16.ofInt 255).toInt32 = Int32.ofInt 255)) (rfl : (0 : Int32) = Int32.ofInt 0) (zb_andR _ _) (⟨by decide, by decide⟩ : zR 0)).mpr b6)), trivial⟩⟩ rfl ?_
      refine zW.step (st1 := (5, [(some (.int (Int32.ofInt a))), (some (.int ((Int32.ofInt x1) + (Int32.ofInt 0)))), (some (.int ((Int32.ofInt x2) + Int32.ofInt (-8))))], [], zk c m)) (st2 := (5, [(some (.int (Int32.ofInt a))), (some (.int (Int32.ofInt (x1 + 0)))), (some (.int (Int32.ofInt (x2 - 8))))], [], zk c m)) ⟨[zo, zo, zo, zo, zo, zo], _, rfl, ⟨trivial, trivial, trivial, trivial, trivial, trivial, trivial⟩⟩ (z_steq (z_c1 rfl (z_c1 (z_si (zi_add rfl rfl)) (z_c1 (z_si (((zi_add rfl rfl)).trans (congrArg Int32.ofInt (Int.sub_eq_add_neg).symm))) rfl))) rfl rfl) ?_
      exact ih _ (by omega) (x1 + 0) (x2 - 8) (by omega) (by omega) rfl
    · refine zW.step (st1 := (24, [(some (.int (Int32.ofInt a))), (some (.int (Int32.ofInt x1))), (some (.int (Int32.ofInt x2)))], [.int (Int32.ofInt x1)], zk c m)) (st2 := (24, [(some (.int (Int32.ofInt a))), (some (.int (Int32.ofInt x1))), (some (.int (Int32.ofInt x2)))], [.int (Int32.ofInt x1)], zk c m)) ⟨[zo, zo, zo, zo, zo, zo, zt], _, rfl, ⟨trivial, trivial, trivial, trivial, trivial, trivial, zbt (fun q => b6 ((zi_eq (zi_and (zi_ushr rfl rfl) (by decide : (Int16.ofInt 255).toInt32 = Int32.ofInt 255)) (rfl : (0 : Int32) = Int32.ofInt 0) (zb_andR _ _) (⟨by decide, by decide⟩ : zR 0)).mp q)), trivial⟩⟩ rfl ?_
      refine zW.step (st1 := (5, [(some (.int (Int32.ofInt a))), (some (.int ((Int32.ofInt x1) + (Int32.ofInt 1)))), (some (.int ((Int32.ofInt x2) + Int32.ofInt (-8))))], [], zk c m)) (st2 := (5, [(some (.int (Int32.ofInt a))), (some (.int (Int32.ofInt (x1 + 1)))), (some (.int (Int32.ofInt (x2 - 8))))], [], zk c m)) ⟨[zo, zo, zo, zo, zo], _, rfl, ⟨trivial, trivial, trivial, trivial, trivial, trivial⟩⟩ (z_steq (z_c1 rfl (z_c1 (z_si (zi_add rfl rfl)) (z_c1 (z_si (((zi_add rfl rfl)).trans (congrArg Int32.ofInt (Int.sub_eq_add_neg).symm))) rfl))) rfl rfl) ?_
      exact ih _ (by omega) (x1 + 1) (x2 - 8) (by omega) (by omega) rfl

set_option maxRecDepth 100000 in
set_option maxHeartbeats 4000000 in
theorem S_X8_signsIn (zn : Bool) (d : Nat) {c : Nat × Nat} {mM : zM} (hN : 107 ≤ c.1) (hC : c.1 < z_RO) (a : Int) (m : zM) (hIm : zI c mM m) (r_a : -2147483648 ≤ a ∧ a ≤ 2147483647) : zPi zn (d + 1) 110 [.int (Int32.ofInt a)] c m (fun (r : Int) => (0 ≤ r ∧ r ≤ 4)) := by
  refine zPi.of zu_X8_signsIn hC (Nat.le_of_ble_eq_true rfl) ?_
  show zW zn (d + 0) 110 c (0, [(some (.int (Int32.ofInt a))), none, none], [], zk c m) (fun v h1 => ∃ (r : Int), v = some (.int (Int32.ofInt r)) ∧ h1 = zk c m ∧ (0 ≤ r ∧ r ≤ 4))
  refine zW.step (st1 := (5, [(some (.int (Int32.ofInt a))), (some (.int (Int32.ofInt 0))), (some (.int ((Int8.ofInt 24).toInt32)))], [], zk c m)) (st2 := (5, [(some (.int (Int32.ofInt a))), (some (.int (Int32.ofInt 0))), (some (.int (Int32.ofInt 24)))], [], zk c m)) ⟨[zo, zo, zo, zo], _, rfl, ⟨trivial, trivial, trivial, trivial, trivial⟩⟩ (z_steq (z_c1 rfl (z_c1 rfl (z_c1 (z_si (by decide : (Int8.ofInt 24).toInt32 = Int32.ofInt 24)) rfl))) rfl rfl) ?_
  refine L_X8_signsIn_5 zn _ hN hC a r_a m hIm _ (fun x1_7 x2_7 i1_7 i2_7 => ?_) _ 0 24 (by omega) (by omega) rfl
  refine zW.step (st1 := (34, [(some (.int (Int32.ofInt a))), (some (.int (Int32.ofInt x1_7))), (some (.int (Int32.ofInt x2_7)))], [.int (Int32.ofInt x1_7)], zk c m)) (st2 := (34, [(some (.int (Int32.ofInt a))), (some (.int (Int32.ofInt x1_7))), (some (.int (Int32.ofInt x2_7)))], [.int (Int32.ofInt x1_7)], zk c m)) ⟨[zo], _, rfl, ⟨trivial, trivial⟩⟩ rfl ?_
  exact zW.fin (zfin_i rfl rfl rfl) ⟨x1_7, rfl, rfl, (by omega)⟩

