/-! texts, by program (wip/tools/gw5): X8_takesNumber_2F -/
set_option maxRecDepth 100000 in
set_option maxHeartbeats 4000000 in
theorem L_X8_takesNumber_2F_19 (zn : Bool) (d : Nat) {c : Nat × Nat} {mM : zM} (hN : 107 ≤ c.1) (hC : c.1 < z_RO) (a9 : Int) (hb9 : 0 ≤ a9 ∧ a9 ≤ mM 1 1) (m0 : zM) (Q : Option Value → z_H → Prop) (KR : ∀ v h1, (fun v h1 => ∃ (r : Int) (m1 : zM), v = some (.int (Int32.ofInt r)) ∧ h1 = zk c m1 ∧ zI c mM m1 ∧ (0 ≤ r ∧ r ≤ 1) ∧ (r = (zn2 (mM 2) (mM 1 1) a9).1 ∧ m1 1 2 = (zn2 (mM 2) (mM 1 1) a9).2.1) ∧ (r = 1 → m1 1 3 = (zn2 (mM 2) (mM 1 1) a9).2.2) ∧ (a9 ≤ m1 1 2 ∧ m1 1 2 ≤ mM 1 1 ∧ (r = 1 → a9 < m1 1 2)) ∧ zN m0 m1 ∧ zD9 (fun p i => p = 1 ∧ (i = 2 ∨ i = 3)) m0 m1) v h1 → Q v h1) :
    ∀ (w : Nat) (x2 : Int) (m : zM), zI c mM m → 0 ≤ x2 ∧ x2 ≤ 2 → 48 ≤ zpk (mM 2) (mM 1 1) (znx (mM 2) (mM 1 1) a9) ∧ zpk (mM 2) (mM 1 1) (znx (mM 2) (mM 1 1) a9) ≤ 57 → m 1 2 ≤ mM 1 1 → (x2 = 0 ∧ m 1 2 = znx (mM 2) (mM 1 1) a9 ∧ m 1 3 = 0) ∨ (x2 = 1 ∧ m 1 2 = znx (mM 2) (mM 1 1) a9 + 1 ∧ m 1 3 = zpk (mM 2) (mM 1 1) (znx (mM 2) (mM 1 1) a9) - 48) ∨ (x2 = 2 ∧ 48 ≤ zpk (mM 2) (mM 1 1) (znx (mM 2) (mM 1 1) a9 + 1) ∧ zpk (mM 2) (mM 1 1) (znx (mM 2) (mM 1 1) a9 + 1) ≤ 57 ∧ m 1 2 = znx (mM 2) (mM 1 1) a9 + 1 + 1 ∧ m 1 3 = 10 * (zpk (mM 2) (mM 1 1) (znx (mM 2) (mM 1 1) a9) - 48) + (zpk (mM 2) (mM 1 1) (znx (mM 2) (mM 1 1) a9 + 1) - 48)) → zN m0 m → zD9 (fun p i => p = 1 ∧ (i = 2 ∨ i = 3)) m0 m → w = (2 - x2).toNat → zW zn (d + 2) 112 c (19, [(some (.ref 1)), (some (.int (Int32.ofInt 2))), (some (.int (Int32.ofInt x2)))], [], zk c m) Q := by
  intro w
  induction w using Nat.strongRecOn with | _ w ih => ?_
  intro x2 m hIm i1 jd jb J tN tD hw
  have f1 : (0 : Int) ≤ m 1 1 ∧ m 1 1 ≤ 240 := hIm.1 1 1
  have f2 : (0 : Int) ≤ m 1 2 ∧ m 1 2 ≤ 240 := hIm.1 1 2
  have f3 : (-2147483648 : Int) ≤ m 1 3 ∧ m 1 3 ≤ 2147483647 := hIm.1 1 3
  have q4 := zn_c hIm
  have q5 := znx_le (b := mM 2) (n := mM 1 1) hb9.2
  have q6 := zn2_f (mM 2) (mM 1 1) a9
  have q7 := zpk_at (mM 2) (mM 1 1) (znx (mM 2) (mM 1 1) a9) (m 1 2)
  by_cases b8 : 2 ≤ x2
  · refine zW.step (st1 := (69, [(some (.ref 1)), (some (.int (Int32.ofInt 2))), (some (.int (Int32.ofInt x2)))], [], zk c m)) (st2 := (69, [(some (.ref 1)), (some (.int (Int32.ofInt 2))), (some (.int (Int32.ofInt x2)))], [], zk c m)) ⟨[zo, zo, zt], _, rfl, ⟨trivial, trivial, zbt ((zi_le rfl rfl (⟨by decide, by decide⟩ : zR 2) (by unfold zR; omega)).mpr b8), trivial⟩⟩ rfl ?_
    refine zW.step (st1 := (70, [(some (.ref 1)), (some (.int (Int32.ofInt 2))), (some (.int (Int32.ofInt x2)))], [.ref 1], zk c m)) (st2 := (70, [(some (.ref 1)), (some (.int (Int32.ofInt 2))), (some (.int (Int32.ofInt x2)))], [.ref 1], zk c m)) ⟨[zo], _, rfl, ⟨trivial, trivial⟩⟩ rfl ?_
    obtain ⟨r9, hs9, z_9, f_9, l_9⟩ := S_X8_here_F zn (d + 1) hN hC (m 1 2) m hIm (by omega)
    refine zW.step (st1 := (73, [(some (.ref 1)), (some (.int (Int32.ofInt 2))), (some (.int (Int32.ofInt x2)))], [.int (Int32.ofInt r9)], zk c m)) ⟨[zc (some (.int (Int32.ofInt r9))) (zk c m)], _, rfl, ⟨⟨⟨(Nat.lt_of_lt_of_le (Nat.le_of_ble_eq_true rfl) hN), (Nat.le_of_ble_eq_true rfl)⟩, hs9, (Nat.le_of_ble_eq_true rfl), Nat.le_refl _, Nat.le_refl _, Nat.le_refl _, Nat.le_refl _⟩, trivial⟩⟩ rfl ?_
    obtain ⟨r10, hs10, z_10, q_10⟩ := S_X8_isDigit zn (d + 1) hN hC r9 m hIm (by omega)
    refine zW.step (st1 := (76, [(some (.ref 1)), (some (.int (Int32.ofInt 2))), (some (.int (Int32.ofInt x2)))], [.int (Int32.ofInt r10)], zk c m)) ⟨[zc (some (.int (Int32.ofInt r10))) (zk c m)], _, rfl, ⟨⟨(Nat.le_of_ble_eq_true rfl), hs10, (Nat.le_of_ble_eq_true rfl), Nat.le_refl _, Nat.le_refl _, Nat.le_refl _, Nat.le_refl _⟩, trivial⟩⟩ rfl ?_
    by_cases b11 : r10 = 0
    · refine zW.step (st1 := (79, [(some (.ref 1)), (some (.int (Int32.ofInt 2))), (some (.int (Int32.ofInt x2)))], [], zk c m)) (st2 := (79, [(some (.ref 1)), (some (.int (Int32.ofInt 2))), (some (.int (Int32.ofInt x2)))], [], zk c m)) ⟨[zo], _, rfl, ⟨zbf (fun q => q ((zi_eq rfl (rfl : (0 : Int32) = Int32.ofInt 0) (by unfold zR; omega) (⟨by decide, by decide⟩ : zR 0)).mpr b11)), trivial⟩⟩ rfl ?_
      refine zW.step (st1 := (84, [(some (.ref 1)), (some (.int (Int32.ofInt 2))), (some (.int (Int32.ofInt x2)))], [.int (Int32.ofInt 1)], zk c m)) (st2 := (84, [(some (.ref 1)), (some (.int (Int32.ofInt 2))), (some (.int (Int32.ofInt x2)))], [.int (Int32.ofInt 1)], zk c m)) ⟨[zo, zo], _, rfl, ⟨trivial, trivial, trivial⟩⟩ rfl ?_
      exact zW.fin (zfin_i rfl rfl rfl) (KR _ _ ⟨1, m, rfl, rfl, hIm, (by omega), (by omega), (by omega), (by omega), tN, tD⟩)
    · refine zW.step (st1 := (83, [(some (.ref 1)), (some (.int (Int32.ofInt 2))), (some (.int (Int32.ofInt x2)))], [], zk c m)) (st2 := (83, [(some (.ref 1)), (some (.int (Int32.ofInt 2))), (some (.int (Int32.ofInt x2)))], [], zk c m)) ⟨[zt], _, rfl, ⟨zbt (fun q => b11 ((zi_eq rfl (rfl : (0 : Int32) = Int32.ofInt 0) (by unfold zR; omega) (⟨by decide, by decide⟩ : zR 0)).mp q)), trivial⟩⟩ rfl ?_
      refine zW.step (st1 := (84, [(some (.ref 1)), (some (.int (Int32.ofInt 2))), (some (.int (Int32.ofInt x2)))], [.int (Int32.ofInt 0)], zk c m)) (st2 := (84, [(some (.ref 1)), (some (.int (Int32.ofInt 2))), (some (.int (Int32.ofInt x2)))], [.int (Int32.ofInt 0)], zk c m)) ⟨[zo], _, rfl, ⟨trivial, trivial⟩⟩ rfl ?_
      exact zW.fin (zfin_i rfl rfl rfl) (KR _ _ ⟨0, m, rfl, rfl, hIm, (by omega), (by omega), (by omega), (by omega), tN, tD⟩)
  · refine zW.step (st1 := (24, [(some (.ref 1)), (some (.int (Int32.ofInt 2))), (some (.int (Int32.ofInt x2)))], [], zk c m)) (st2 := (24, [(some (.ref 1)), (some (.int (Int32.ofInt 2))), (some (.int (Int32.ofInt x2)))], [], zk c m)) ⟨[zo, zo, zo], _, rfl, ⟨trivial, trivial, zbf (fun q => b8 ((zi_le rfl rfl (⟨by decide, by decide⟩ : zR 2) (by unfold zR; omega)).mp q)), trivial⟩⟩ rfl ?_
    refine zW.step (st1 := (25, [(some (.ref 1)), (some (.int (Int32.ofInt 2))), (some (.int (Int32.ofInt x2)))], [.ref 1], zk c m)) (st2 := (25, [(some (.ref 1)), (some (.int (Int32.ofInt 2))), (some (.int (Int32.ofInt x2)))], [.ref 1], zk c m)) ⟨[zo], _, rfl, ⟨trivial, trivial⟩⟩ rfl ?_
    obtain ⟨r12, hs12, z_12, f_12, l_12⟩ := S_X8_here_F zn (d + 1) hN hC (m 1 2) m hIm (by omega)
    refine zW.step (st1 := (28, [(some (.ref 1)), (some (.int (Int32.ofInt 2))), (some (.int (Int32.ofInt x2)))], [.int (Int32.ofInt r12)], zk c m)) ⟨[zc (some (.int (Int32.ofInt r12))) (zk c m)], _, rfl, ⟨⟨⟨(Nat.lt_of_lt_of_le (Nat.le_of_ble_eq_true rfl) hN), (Nat.le_of_ble_eq_true rfl)⟩, hs12, (Nat.le_of_ble_eq_true rfl), Nat.le_refl _, Nat.le_refl _, Nat.le_refl _, Nat.le_refl _⟩, trivial⟩⟩ rfl ?_
    obtain ⟨r13, hs13, z_13, q_13⟩ := S_X8_isDigit zn (d + 1) hN hC r12 m hIm (by omega)
    refine zW.step (st1 := (31, [(some (.ref 1)), (some (.int (Int32.ofInt 2))), (some (.int (Int32.ofInt x2)))], [.int (Int32.ofInt r13)], zk c m)) ⟨[zc (some (.int (Int32.ofInt r13))) (zk c m)], _, rfl, ⟨⟨(Nat.le_of_ble_eq_true rfl), hs13, (Nat.le_of_ble_eq_true rfl), Nat.le_refl _, Nat.le_refl _, Nat.le_refl _, Nat.le_refl _⟩, trivial⟩⟩ rfl ?_
    by_cases b14 : r13 = 0
    · refine zW.step (st1 := (69, [(some (.ref 1)), (some (.int (Int32.ofInt 2))), (some (.int (Int32.ofInt x2)))], [], zk c m)) (st2 := (69, [(some (.ref 1)), (some (.int (Int32.ofInt 2))), (some (.int (Int32.ofInt x2)))], [], zk c m)) ⟨[zt], _, rfl, ⟨zbt ((zi_eq rfl (rfl : (0 : Int32) = Int32.ofInt 0) (by unfold zR; omega) (⟨by decide, by decide⟩ : zR 0)).mpr b14), trivial⟩⟩ rfl ?_
      refine zW.step (st1 := (70, [(some (.ref 1)), (some (.int (Int32.ofInt 2))), (some (.int (Int32.ofInt x2)))], [.ref 1], zk c m)) (st2 := (70, [(some (.ref 1)), (some (.int (Int32.ofInt 2))), (some (.int (Int32.ofInt x2)))], [.ref 1], zk c m)) ⟨[zo], _, rfl, ⟨trivial, trivial⟩⟩ rfl ?_
      obtain ⟨r15, hs15, z_15, f_15, l_15⟩ := S_X8_here_F zn (d + 1) hN hC (m 1 2) m hIm (by omega)
      refine zW.step (st1 := (73, [(some (.ref 1)), (some (.int (Int32.ofInt 2))), (some (.int (Int32.ofInt x2)))], [.int (Int32.ofInt r15)], zk c m)) ⟨[zc (some (.int (Int32.ofInt r15))) (zk c m)], _, rfl, ⟨⟨⟨(Nat.lt_of_lt_of_le (Nat.le_of_ble_eq_true rfl) hN), (Nat.le_of_ble_eq_true rfl)⟩, hs15, (Nat.le_of_ble_eq_true rfl), Nat.le_refl _, Nat.le_refl _, Nat.le_refl _, Nat.le_refl _⟩, trivial⟩⟩ rfl ?_
      obtain ⟨r16, hs16, z_16, q_16⟩ := S_X8_isDigit zn (d + 1) hN hC r15 m hIm (by omega)
      refine zW.step (st1 := (76, [(some (.ref 1)), (some (.int (Int32.ofInt 2))), (some (.int (Int32.ofInt x2)))], [.int (Int32.ofInt r16)], zk c m)) ⟨[zc (some (.int (Int32.ofInt r16))) (zk c m)], _, rfl, ⟨⟨(Nat.le_of_ble_eq_true rfl), hs16, (Nat.le_of_ble_eq_true rfl), Nat.le_refl _, Nat.le_refl _, Nat.le_refl _, Nat.le_refl _⟩, trivial⟩⟩ rfl ?_
      by_cases b17 : r16 = 0
      · refine zW.step (st1 := (79, [(some (.ref 1)), (some (.int (Int32.ofInt 2))), (some (.int (Int32.ofInt x2)))], [], zk c m)) (st2 := (79, [(some (.ref 1)), (some (.int (Int32.ofInt 2))), (some (.int (Int32.ofInt x2)))], [], zk c m)) ⟨[zo], _, rfl, ⟨zbf (fun q => q ((zi_eq rfl (rfl : (0 : Int32) = Int32.ofInt 0) (by unfold zR; omega) (⟨by decide, by decide⟩ : zR 0)).mpr b17)), trivial⟩⟩ rfl ?_
        refine zW.step (st1 := (84, [(some (.ref 1)), (some (.int (Int32.ofInt 2))), (some (.int (Int32.ofInt x2)))], [.int (Int32.ofInt 1)], zk c m)) (st2 := (84, [(some (.ref 1)), (some (.int (Int32.ofInt 2))), (some (.int (Int32.ofInt x2)))], [.int (Int32.ofInt 1)], zk c m)) ⟨[zo, zo], _, rfl, ⟨trivial, trivial, trivial⟩⟩ rfl ?_
        exact zW.fin (zfin_i rfl rfl rfl) (KR _ _ ⟨1, m, rfl, rfl, hIm, (by omega), (by omega), (by omega), (by omega), tN, tD⟩)
      · refine zW.step (st1 := (83, [(some (.ref 1)), (some (.int (Int32.ofInt 2))), (some (.int (Int32.ofInt x2)))], [], zk c m)) (st2 := (83, [(some (.ref 1)), (some (.int (Int32.ofInt 2))), (some (.int (Int32.ofInt x2)))], [], zk c m)) ⟨[zt], _, rfl, ⟨zbt (fun q => b17 ((zi_eq rfl (rfl : (0 : Int32) = Int32.ofInt 0) (by unfold zR; omega) (⟨by decide, by decide⟩ : zR 0)).mp q)), trivial⟩⟩ rfl ?_
        refine zW.step (st1 := (84, [(some (.ref 1)), (some (.int (Int32.ofInt 2))), (some (.int (Int32.ofInt x2)))], [.int (Int32.ofInt 0)], zk c m)) (st2 := (84, [(some (.ref 1)), (some (.int (Int32.ofInt 2))), (some (.int (Int32.ofInt x2)))], [.int (Int32.ofInt 0)], zk c m)) ⟨[zo], _, rfl, ⟨trivial, trivial⟩⟩ rfl ?_
        exact zW.fin (zfin_i rfl rfl rfl) (KR _ _ ⟨0, m, rfl, rfl, hIm, (by omega), (by omega), (by omega), (by omega), tN, tD⟩)
    · refine zW.step (st1 := (34, [(some (.ref 1)), (some (.int (Int32.ofInt 2))), (some (.int (Int32.ofInt x2)))], [], zk c m)) (st2 := (34, [(some (.ref 1)), (some (.int (Int32.ofInt 2))), (some (.int (Int32.ofInt x2)))], [], zk c m)) ⟨[zo], _, rfl, ⟨zbf (fun q => b14 ((zi_eq rfl (rfl : (0 : Int32) = Int32.ofInt 0) (by unfold zR; omega) (⟨by decide, by decide⟩ : zR 0)).mp q)), trivial⟩⟩ rfl ?_
      refine zW.step (st1 := (43, [(some (.ref 1)), (some (.int (Int32.ofInt 2))), (some (.int (Int32.ofInt x2)))], [.ref 1, .int ((Int32.ofInt (m 1 3)) * ((Int8.ofInt 10).toInt32)), .ref 1], zk c m)) (st2 := (43, [(some (.ref 1)), (some (.int (Int32.ofInt 2))), (some (.int (Int32.ofInt x2)))], [.ref 1, .int (Int32.ofInt ((m 1 3) * 10)), .ref 1], zk c m)) ⟨[zo, zo, zo, zo, zo, zo], _, rfl, ⟨trivial, trivial, (Nat.lt_of_lt_of_le (Nat.le_of_ble_eq_true rfl) hN), trivial, trivial, trivial, trivial⟩⟩ (z_steq rfl (z_c1 rfl (z_c1 (z_vi (zi_mul rfl (by decide : (Int8.ofInt 10).toInt32 = Int32.ofInt 10))) rfl)) rfl) ?_
      obtain ⟨r18, hs18, z_18, f_18, l_18⟩ := S_X8_here_F zn (d + 1) hN hC (m 1 2) m hIm (by omega)
      refine zW.step (st1 := (46, [(some (.ref 1)), (some (.int (Int32.ofInt 2))), (some (.int (Int32.ofInt x2)))], [.int (Int32.ofInt r18), .int (Int32.ofInt ((m 1 3) * 10)), .ref 1], zk c m)) ⟨[zc (some (.int (Int32.ofInt r18))) (zk c m)], _, rfl, ⟨⟨⟨(Nat.lt_of_lt_of_le (Nat.le_of_ble_eq_true rfl) hN), (Nat.le_of_ble_eq_true rfl)⟩, hs18, (Nat.le_of_ble_eq_true rfl), Nat.le_refl _, Nat.le_refl _, Nat.le_refl _, Nat.le_refl _⟩, trivial⟩⟩ rfl ?_
      have f19 := zwR ((((m 1 3) * 10) + r18) - 48)
      have f20 := zwI ((((m 1 3) * 10) + r18) - 48)
      obtain ⟨m21, hm21⟩ : ∃ q, q = zm_up m 1 3 (zw ((((m 1 3) * 10) + r18) - 48)) := ⟨_, rfl⟩
      have hIm21 : zI c mM m21 := by rw [hm21]; exact zI_up hIm (by unfold zOk; decide) (show (-2147483648 : Int) ≤ (zw ((((m 1 3) * 10) + r18) - 48)) ∧ (zw ((((m 1 3) * 10) + r18) - 48)) ≤ 2147483647 by omega)
      have em21 : m21 1 3 = (zw ((((m 1 3) * 10) + r18) - 48)) := by rw [hm21]; exact zm_eq
      have f22 : m21 1 1 = m 1 1 := by rw [hm21]; exact zm_ne (by omega)
      have f23 : m21 1 2 = m 1 2 := by rw [hm21]; exact zm_ne (by omega)
      have tk24 : zN m0 m21 := by rw [hm21]; exact zN_up tN (by unfold zRow; omega)
      have tk25 : zD9 (fun p i => p = 1 ∧ (i = 2 ∨ i = 3)) m0 m21 := by rw [hm21]; exact zD9_up tD (by first | rfl | omega | (dsimp only; omega))
      refine zW.step (st1 := (53, [(some (.ref 1)), (some (.int (Int32.ofInt 2))), (some (.int (Int32.ofInt x2)))], [], z_hup (zk c m) 1 (.inr (8, [.ref 2, .int (Int32.ofInt (m 1 1)), .int (Int32.ofInt (m 1 2)), .int (((Int32.ofInt ((m 1 3) * 10)) + (Int32.ofInt r18)) - ((Int8.ofInt 48).toInt32))])))) (st2 := (53, [(some (.ref 1)), (some (.int (Int32.ofInt 2))), (some (.int (Int32.ofInt x2)))], [], zk c m21)) ⟨[zo, zo, zo, zo], _, rfl, ⟨trivial, trivial, trivial, ⟨(Nat.lt_of_lt_of_le (Nat.le_of_ble_eq_true rfl) hN), rfl, rfl⟩, trivial⟩⟩ (z_steq rfl rfl ((zk_up c m 1 3 (zw ((((m 1 3) * 10) + r18) - 48)) _ ((congrArg (fun q => (.inr (8, [.ref 2, .int (Int32.ofInt (m 1 1)), .int (Int32.ofInt (m 1 2)), .int q]) : z_E)) (Eq.trans (zi_sub (zi_add rfl rfl) (by decide : (Int8.ofInt 48).toInt32 = Int32.ofInt 48)) (zw_eq _))).trans rfl)).trans (by rw [hm21]))) ?_
      have f26 : (0 : Int) ≤ m21 1 2 ∧ m21 1 2 ≤ 240 := hIm21.1 1 2
      obtain ⟨m27, hm27⟩ : ∃ q, q = zm_up m21 1 2 ((m21 1 2) + 1) := ⟨_, rfl⟩
      have hIm27 : zI c mM m27 := by rw [hm27]; exact zI_up hIm21 (by unfold zOk; decide) (show (0 : Int) ≤ ((m21 1 2) + 1) ∧ ((m21 1 2) + 1) ≤ 240 by omega)
      have em27 : m27 1 2 = ((m21 1 2) + 1) := by rw [hm27]; exact zm_eq
      have f28 : m27 1 1 = m21 1 1 := by rw [hm27]; exact zm_ne (by omega)
      have f29 : m27 1 3 = m21 1 3 := by rw [hm27]; exact zm_ne (by omega)
      have tk30 : zN m0 m27 := by rw [hm27]; exact zN_up tk24 (by unfold zRow; omega)
      have tk31 : zD9 (fun p i => p = 1 ∧ (i = 2 ∨ i = 3)) m0 m27 := by rw [hm27]; exact zD9_up tk25 (by first | rfl | omega | (dsimp only; omega))
      clear tk24 tk25
      refine zW.step (st1 := (63, [(some (.ref 1)), (some (.int (Int32.ofInt 2))), (some (.int (Int32.ofInt x2)))], [], z_hup (zk c m21) 1 (.inr (8, [.ref 2, .int (Int32.ofInt (m21 1 1)), .int ((Int32.ofInt (m21 1 2)) + (Int32.ofInt 1)), .int (Int32.ofInt (m21 1 3))])))) (st2 := (63, [(some (.ref 1)), (some (.int (Int32.ofInt 2))), (some (.int (Int32.ofInt x2)))], [], zk c m27)) ⟨[zo, zo, zo, zo, zo, zo], _, rfl, ⟨trivial, trivial, (Nat.lt_of_lt_of_le (Nat.le_of_ble_eq_true rfl) hN), trivial, trivial, ⟨(Nat.lt_of_lt_of_le (Nat.le_of_ble_eq_true rfl) hN), rfl, rfl⟩, trivial⟩⟩ (z_steq rfl rfl ((zk_up c m21 1 2 ((m21 1 2) + 1) _ ((congrArg (fun q => (.inr (8, [.ref 2, .int (Int32.ofInt (m21 1 1)), .int q, .int (Int32.ofInt (m21 1 3))]) : z_E)) (zi_add rfl rfl)).trans rfl)).trans (by rw [hm27]))) ?_
      refine zW.step (st1 := (19, [(some (.ref 1)), (some (.int (Int32.ofInt 2))), (some (.int ((Int32.ofInt x2) + Int32.ofInt 1)))], [], zk c m27)) (st2 := (19, [(some (.ref 1)), (some (.int (Int32.ofInt 2))), (some (.int (Int32.ofInt (x2 + 1))))], [], zk c m27)) ⟨[zo, zo], _, rfl, ⟨trivial, trivial, trivial⟩⟩ (z_steq (z_c1 rfl (z_c1 rfl (z_c1 (z_si (zi_add rfl rfl)) rfl))) rfl rfl) ?_
      exact ih _ (by omega) (x2 + 1) m27 hIm27 (by omega) (by omega) (by omega) (by omega) tk30 tk31 rfl

set_option maxRecDepth 100000 in
set_option maxHeartbeats 4000000 in
theorem S_X8_takesNumber_2F (zn : Bool) (d : Nat) {c : Nat × Nat} {mM : zM} (hN : 107 ≤ c.1) (hC : c.1 < z_RO) (a9 : Int) (m : zM) (hIm : zI c mM m) (ha9 : m 1 2 = a9) (hb9 : 0 ≤ a9 ∧ a9 ≤ mM 1 1) : zCi zn (d + 3) 112 [.ref 1, .int (Int32.ofInt 2)] c m (fun (r : Int) (m1 : zM) => zI c mM m1 ∧ (0 ≤ r ∧ r ≤ 1) ∧ (r = (zn2 (mM 2) (mM 1 1) a9).1 ∧ m1 1 2 = (zn2 (mM 2) (mM 1 1) a9).2.1) ∧ (r = 1 → m1 1 3 = (zn2 (mM 2) (mM 1 1) a9).2.2) ∧ (a9 ≤ m1 1 2 ∧ m1 1 2 ≤ mM 1 1 ∧ (r = 1 → a9 < m1 1 2)) ∧ zN m m1 ∧ zD9 (fun p i => p = 1 ∧ (i = 2 ∨ i = 3)) m m1) := by
  refine zCi.of zu_X8_takesNumber hC (Nat.le_of_ble_eq_true rfl) ?_
  show zW zn (d + 2) 112 c (0, [(some (.ref 1)), (some (.int (Int32.ofInt 2))), none], [], zk c m) (fun v h1 => ∃ (r : Int) (m1 : zM), v = some (.int (Int32.ofInt r)) ∧ h1 = zk c m1 ∧ zI c mM m1 ∧ (0 ≤ r ∧ r ≤ 1) ∧ (r = (zn2 (mM 2) (mM 1 1) a9).1 ∧ m1 1 2 = (zn2 (mM 2) (mM 1 1) a9).2.1) ∧ (r = 1 → m1 1 3 = (zn2 (mM 2) (mM 1 1) a9).2.2) ∧ (a9 ≤ m1 1 2 ∧ m1 1 2 ≤ mM 1 1 ∧ (r = 1 → a9 < m1 1 2)) ∧ zN m m1 ∧ zD9 (fun p i => p = 1 ∧ (i = 2 ∨ i = 3)) m m1)
  have f32 : (0 : Int) ≤ m 1 1 ∧ m 1 1 ≤ 240 := hIm.1 1 1
  have f33 : (0 : Int) ≤ m 1 2 ∧ m 1 2 ≤ 240 := hIm.1 1 2
  have f34 : (-2147483648 : Int) ≤ m 1 3 ∧ m 1 3 ≤ 2147483647 := hIm.1 1 3
  have q35 := zn_c hIm
  have q36 := znx_le (b := mM 2) (n := mM 1 1) hb9.2
  have q37 := zn2_f (mM 2) (mM 1 1) a9
  obtain ⟨m38, hm38⟩ : ∃ q, q = zm_up m 1 3 0 := ⟨_, rfl⟩
  have hIm38 : zI c mM m38 := by rw [hm38]; exact zI_up hIm (by unfold zOk; decide) (show (-2147483648 : Int) ≤ 0 ∧ 0 ≤ 2147483647 by omega)
  have em38 : m38 1 3 = 0 := by rw [hm38]; exact zm_eq
  have f39 : m38 1 1 = m 1 1 := by rw [hm38]; exact zm_ne (by omega)
  have f40 : m38 1 2 = m 1 2 := by rw [hm38]; exact zm_ne (by omega)
  have tk41 : zN m m38 := by rw [hm38]; exact zN_up zN_rf (by unfold zRow; omega)
  have tk42 : zD9 (fun p i => p = 1 ∧ (i = 2 ∨ i = 3)) m m38 := by rw [hm38]; exact zD9_up zD9_rf (by first | rfl | omega | (dsimp only; omega))
  refine zW.step (st1 := (5, [(some (.ref 1)), (some (.int (Int32.ofInt 2))), none], [], z_hup (zk c m) 1 (.inr (8, [.ref 2, .int (Int32.ofInt (m 1 1)), .int (Int32.ofInt (m 1 2)), .int (Int32.ofInt 0)])))) (st2 := (5, [(some (.ref 1)), (some (.int (Int32.ofInt 2))), none], [], zk c m38)) ⟨[zo, zo, zo], _, rfl, ⟨trivial, trivial, ⟨(Nat.lt_of_lt_of_le (Nat.le_of_ble_eq_true rfl) hN), rfl, rfl⟩, trivial⟩⟩ (z_steq rfl rfl ((zk_up c m 1 3 0 _ rfl).trans (by rw [hm38]))) ?_
  refine zW.step (st1 := (6, [(some (.ref 1)), (some (.int (Int32.ofInt 2))), none], [.ref 1], zk c m38)) (st2 := (6, [(some (.ref 1)), (some (.int (Int32.ofInt 2))), none], [.ref 1], zk c m38)) ⟨[zo], _, rfl, ⟨trivial, trivial⟩⟩ rfl ?_
  obtain ⟨r43, m43, hs43, hIm43, z_43, f_43, p_43, b_43, l_43, c3_43, kN_43, kD_43⟩ := S_X8_next_F zn (d + 0) hN hC a9 m38 hIm38 (by omega) (by omega)
  refine zW.step (st1 := (9, [(some (.ref 1)), (some (.int (Int32.ofInt 2))), none], [.int (Int32.ofInt r43)], zk c m43)) ⟨[zc (some (.int (Int32.ofInt r43))) (zk c m43)], _, rfl, ⟨⟨⟨(Nat.lt_of_lt_of_le (Nat.le_of_ble_eq_true rfl) hN), (Nat.le_of_ble_eq_true rfl)⟩, hs43, (Nat.le_of_ble_eq_true rfl), Nat.le_refl _, Nat.le_refl _, Nat.le_refl _, Nat.le_refl _⟩, trivial⟩⟩ rfl ?_
  have f44 : (0 : Int) ≤ m43 1 1 ∧ m43 1 1 ≤ 240 := hIm43.1 1 1
  have f45 : (0 : Int) ≤ m43 1 2 ∧ m43 1 2 ≤ 240 := hIm43.1 1 2
  have f46 : (-2147483648 : Int) ≤ m43 1 3 ∧ m43 1 3 ≤ 2147483647 := hIm43.1 1 3
  have tk47 : zN m m43 := zN_tr tk41 kN_43
  have tk48 : zD9 (fun p i => p = 1 ∧ (i = 2 ∨ i = 3)) m m43 := zD9_tr tk42 kD_43
  obtain ⟨r49, hs49, z_49, q_49⟩ := S_X8_isDigit zn (d + 1) hN hC r43 m43 hIm43 (by omega)
  refine zW.step (st1 := (12, [(some (.ref 1)), (some (.int (Int32.ofInt 2))), none], [.int (Int32.ofInt r49)], zk c m43)) ⟨[zc (some (.int (Int32.ofInt r49))) (zk c m43)], _, rfl, ⟨⟨(Nat.le_of_ble_eq_true rfl), hs49, (Nat.le_of_ble_eq_true rfl), Nat.le_refl _, Nat.le_refl _, Nat.le_refl _, Nat.le_refl _⟩, trivial⟩⟩ rfl ?_
  by_cases b50 : r49 = 0
  · refine zW.step (st1 := (15, [(some (.ref 1)), (some (.int (Int32.ofInt 2))), none], [], zk c m43)) (st2 := (15, [(some (.ref 1)), (some (.int (Int32.ofInt 2))), none], [], zk c m43)) ⟨[zo], _, rfl, ⟨zbf (fun q => q ((zi_eq rfl (rfl : (0 : Int32) = Int32.ofInt 0) (by unfold zR; omega) (⟨by decide, by decide⟩ : zR 0)).mpr b50)), trivial⟩⟩ rfl ?_
    refine zW.step (st1 := (16, [(some (.ref 1)), (some (.int (Int32.ofInt 2))), none], [.int (Int32.ofInt 0)], zk c m43)) (st2 := (16, [(some (.ref 1)), (some (.int (Int32.ofInt 2))), none], [.int (Int32.ofInt 0)], zk c m43)) ⟨[zo], _, rfl, ⟨trivial, trivial⟩⟩ rfl ?_
    exact zW.fin (zfin_i rfl rfl rfl) ⟨0, m43, rfl, rfl, hIm43, (by omega), (by omega), (by omega), (by omega), tk47, tk48⟩
  · refine zW.step (st1 := (17, [(some (.ref 1)), (some (.int (Int32.ofInt 2))), none], [], zk c m43)) (st2 := (17, [(some (.ref 1)), (some (.int (Int32.ofInt 2))), none], [], zk c m43)) ⟨[zt], _, rfl, ⟨zbt (fun q => b50 ((zi_eq rfl (rfl : (0 : Int32) = Int32.ofInt 0) (by unfold zR; omega) (⟨by decide, by decide⟩ : zR 0)).mp q)), trivial⟩⟩ rfl ?_
    refine zW.step (st1 := (19, [(some (.ref 1)), (some (.int (Int32.ofInt 2))), (some (.int (Int32.ofInt 0)))], [], zk c m43)) (st2 := (19, [(some (.ref 1)), (some (.int (Int32.ofInt 2))), (some (.int (Int32.ofInt 0)))], [], zk c m43)) ⟨[zo, zo], _, rfl, ⟨trivial, trivial, trivial⟩⟩ rfl ?_
    exact L_X8_takesNumber_2F_19 zn _ hN hC a9 hb9 m _ (fun v9 h9 hq9 => hq9) _ 0 m43 hIm43 (by omega) (by omega) (by omega) (by omega) tk47 tk48 rfl

