/-! texts, by program (wip/tools/gw5): X8_takesNumber_2F -/
set_option maxRecDepth 100000 in
set_option maxHeartbeats 4000000 in
theorem L_X8_takesNumber_2F_19 (zn : Bool) (d : Nat) {c : Nat × Nat} {mM : zM} (hN : 107 ≤ c.1) (hC : c.1 < z_RO) (a9 : Int) (hb9 : 0 ≤ a9 ∧ a9 ≤ mM 1 1) (m0 : zM) (Q : Option Value → z_H → Prop) (KR : ∀ v h1, (fun v h1 => ∃ (r : Int) (m1 : zM), v = some (.int (Int32.ofInt r)) ∧ h1 = zk c m1 ∧ zI c mM m1 ∧ (0 ≤ r ∧ r ≤ 1) ∧ (r = (zn2 (mM 2) (mM 1 1) a9).1 ∧ m1 1 2 = (zn2 (mM 2) (mM 1 1) a9).2.1) ∧ (r = 1 → m1 1 3 = (zn2 (mM 2) (mM 1 1) a9).2.2) ∧ (a9 ≤ m1 1 2 ∧ m1 1 2 ≤ mM 1 1 ∧ (r = 1 → a9 < m1 1 2)) ∧ zN m0 m1 ∧ zD9 (fun p i => p = 1 ∧ (i = 2 ∨ i = 3)) m0 m1) v h1 → Q v h1) :
    ∀ (w : Nat) (x2 : Int) (m : zM), zI c mM m → 0 ≤ x2 ∧ x2 ≤ 2 → a9 ≤ m 1 2 ∧ m 1 2 ≤ mM 1 1 ∧ (x2 = 0 ∨ a9 < m 1 2) → (x2 = 0 → 48 ≤ zpk (mM 2) (mM 1 1) (m 1 2) ∧ zpk (mM 2) (mM 1 1) (m 1 2) ≤ 57) → (0 ≤ m 1 3 ∧ m 1 3 ≤ 99 ∧ (x2 ≤ 1 → m 1 3 ≤ 9) ∧ (x2 ≤ 0 → m 1 3 = 0)) → zn2 (mM 2) (mM 1 1) a9 = zq2 (mM 2) (mM 1 1) (2 - x2).toNat (m 1 2) (m 1 3) → zN m0 m → zD9 (fun p i => p = 1 ∧ (i = 2 ∨ i = 3)) m0 m → w = (2 - x2).toNat → zW zn (d + 2) 112 c (19, [(some (.ref 1)), (some (.int (Int32.ofInt 2))), (some (.int (Int32.ofInt x2)))], [], zk c m) Q := by
  intro w
  induction w using Nat.strongRecOn with | _ w ih => ?_
  intro x2 m hIm i1 jb jd jv J tN tD hw
  have f1 : (0 : Int) ≤ m 1 1 ∧ m 1 1 ≤ 240 := hIm.1 1 1
  have f2 : (0 : Int) ≤ m 1 2 ∧ m 1 2 ≤ 240 := hIm.1 1 2
  have f3 : (-2147483648 : Int) ≤ m 1 3 ∧ m 1 3 ≤ 2147483647 := hIm.1 1 3
  have q4 := zn_c hIm
  by_cases b5 : 2 ≤ x2
  · refine zW.step (st1 := (69, [(some (.ref 1)), (some (.int (Int32.ofInt 2))), (some (.int (Int32.ofInt x2)))], [], zk c m)) (st2 := (69, [(some (.ref 1)), (some (.int (Int32.ofInt 2))), (some (.int (Int32.ofInt x2)))], [], zk c m)) ⟨[zo, zo, zt], _, rfl, ⟨trivial, trivial, zbt ((zi_le rfl rfl (⟨by decide, by decide⟩ : zR 2) (by unfold zR; omega)).mpr b5), trivial⟩⟩ rfl ?_
    refine zW.step (st1 := (70, [(some (.ref 1)), (some (.int (Int32.ofInt 2))), (some (.int (Int32.ofInt x2)))], [.ref 1], zk c m)) (st2 := (70, [(some (.ref 1)), (some (.int (Int32.ofInt 2))), (some (.int (Int32.ofInt x2)))], [.ref 1], zk c m)) ⟨[zo], _, rfl, ⟨trivial, trivial⟩⟩ rfl ?_
    obtain ⟨r6, hs6, z_6, f_6, l_6⟩ := S_X8_here_F zn (d + 1) hN hC (m 1 2) m hIm (by omega)
    refine zW.step (st1 := (73, [(some (.ref 1)), (some (.int (Int32.ofInt 2))), (some (.int (Int32.ofInt x2)))], [.int (Int32.ofInt r6)], zk c m)) ⟨[zc (some (.int (Int32.ofInt r6))) (zk c m)], _, rfl, ⟨⟨⟨(Nat.lt_of_lt_of_le (Nat.le_of_ble_eq_true rfl) hN), (Nat.le_of_ble_eq_true rfl)⟩, hs6, (Nat.le_of_ble_eq_true rfl), Nat.le_refl _, Nat.le_refl _, Nat.le_refl _, Nat.le_refl _⟩, trivial⟩⟩ rfl ?_
    obtain ⟨r7, hs7, z_7, q_7⟩ := S_X8_isDigit zn (d + 1) hN hC r6 m hIm (by omega)
    refine zW.step (st1 := (76, [(some (.ref 1)), (some (.int (Int32.ofInt 2))), (some (.int (Int32.ofInt x2)))], [.int (Int32.ofInt r7)], zk c m)) ⟨[zc (some (.int (Int32.ofInt r7))) (zk c m)], _, rfl, ⟨⟨(Nat.le_of_ble_eq_true rfl), hs7, (Nat.le_of_ble_eq_true rfl), Nat.le_refl _, Nat.le_refl _, Nat.le_refl _, Nat.le_refl _⟩, trivial⟩⟩ rfl ?_
    by_cases b8 : r7 = 0
    · refine zW.step (st1 := (79, [(some (.ref 1)), (some (.int (Int32.ofInt 2))), (some (.int (Int32.ofInt x2)))], [], zk c m)) (st2 := (79, [(some (.ref 1)), (some (.int (Int32.ofInt 2))), (some (.int (Int32.ofInt x2)))], [], zk c m)) ⟨[zo], _, rfl, ⟨zbf (fun q => q ((zi_eq rfl (rfl : (0 : Int32) = Int32.ofInt 0) (by unfold zR; omega) (⟨by decide, by decide⟩ : zR 0)).mpr b8)), trivial⟩⟩ rfl ?_
      have q9 := zq2_e J (by omega)
      refine zW.step (st1 := (84, [(some (.ref 1)), (some (.int (Int32.ofInt 2))), (some (.int (Int32.ofInt x2)))], [.int (Int32.ofInt 1)], zk c m)) (st2 := (84, [(some (.ref 1)), (some (.int (Int32.ofInt 2))), (some (.int (Int32.ofInt x2)))], [.int (Int32.ofInt 1)], zk c m)) ⟨[zo, zo], _, rfl, ⟨trivial, trivial, trivial⟩⟩ rfl ?_
      exact zW.fin (zfin_i rfl rfl rfl) (KR _ _ ⟨1, m, rfl, rfl, hIm, (by omega), (by omega), (by omega), (by omega), tN, tD⟩)
    · refine zW.step (st1 := (83, [(some (.ref 1)), (some (.int (Int32.ofInt 2))), (some (.int (Int32.ofInt x2)))], [], zk c m)) (st2 := (83, [(some (.ref 1)), (some (.int (Int32.ofInt 2))), (some (.int (Int32.ofInt x2)))], [], zk c m)) ⟨[zt], _, rfl, ⟨zbt (fun q => b8 ((zi_eq rfl (rfl : (0 : Int32) = Int32.ofInt 0) (by unfold zR; omega) (⟨by decide, by decide⟩ : zR 0)).mp q)), trivial⟩⟩ rfl ?_
      have q10 := zq2_o J (by omega) (by omega)
      refine zW.step (st1 := (84, [(some (.ref 1)), (some (.int (Int32.ofInt 2))), (some (.int (Int32.ofInt x2)))], [.int (Int32.ofInt 0)], zk c m)) (st2 := (84, [(some (.ref 1)), (some (.int (Int32.ofInt 2))), (some (.int (Int32.ofInt x2)))], [.int (Int32.ofInt 0)], zk c m)) ⟨[zo], _, rfl, ⟨trivial, trivial⟩⟩ rfl ?_
      exact zW.fin (zfin_i rfl rfl rfl) (KR _ _ ⟨0, m, rfl, rfl, hIm, (by omega), (by omega), (by omega), (by omega), tN, tD⟩)
  · refine zW.step (st1 := (24, [(some (.ref 1)), (some (.int (Int32.ofInt 2))), (some (.int (Int32.ofInt x2)))], [], zk c m)) (st2 := (24, [(some (.ref 1)), (some (.int (Int32.ofInt 2))), (some (.int (Int32.ofInt x2)))], [], zk c m)) ⟨[zo, zo, zo], _, rfl, ⟨trivial, trivial, zbf (fun q => b5 ((zi_le rfl rfl (⟨by decide, by decide⟩ : zR 2) (by unfold zR; omega)).mp q)), trivial⟩⟩ rfl ?_
    refine zW.step (st1 := (25, [(some (.ref 1)), (some (.int (Int32.ofInt 2))), (some (.int (Int32.ofInt x2)))], [.ref 1], zk c m)) (st2 := (25, [(some (.ref 1)), (some (.int (Int32.ofInt 2))), (some (.int (Int32.ofInt x2)))], [.ref 1], zk c m)) ⟨[zo], _, rfl, ⟨trivial, trivial⟩⟩ rfl ?_
    obtain ⟨r11, hs11, z_11, f_11, l_11⟩ := S_X8_here_F zn (d + 1) hN hC (m 1 2) m hIm (by omega)
    refine zW.step (st1 := (28, [(some (.ref 1)), (some (.int (Int32.ofInt 2))), (some (.int (Int32.ofInt x2)))], [.int (Int32.ofInt r11)], zk c m)) ⟨[zc (some (.int (Int32.ofInt r11))) (zk c m)], _, rfl, ⟨⟨⟨(Nat.lt_of_lt_of_le (Nat.le_of_ble_eq_true rfl) hN), (Nat.le_of_ble_eq_true rfl)⟩, hs11, (Nat.le_of_ble_eq_true rfl), Nat.le_refl _, Nat.le_refl _, Nat.le_refl _, Nat.le_refl _⟩, trivial⟩⟩ rfl ?_
    obtain ⟨r12, hs12, z_12, q_12⟩ := S_X8_isDigit zn (d + 1) hN hC r11 m hIm (by omega)
    refine zW.step (st1 := (31, [(some (.ref 1)), (some (.int (Int32.ofInt 2))), (some (.int (Int32.ofInt x2)))], [.int (Int32.ofInt r12)], zk c m)) ⟨[zc (some (.int (Int32.ofInt r12))) (zk c m)], _, rfl, ⟨⟨(Nat.le_of_ble_eq_true rfl), hs12, (Nat.le_of_ble_eq_true rfl), Nat.le_refl _, Nat.le_refl _, Nat.le_refl _, Nat.le_refl _⟩, trivial⟩⟩ rfl ?_
    by_cases b13 : r12 = 0
    · refine zW.step (st1 := (69, [(some (.ref 1)), (some (.int (Int32.ofInt 2))), (some (.int (Int32.ofInt x2)))], [], zk c m)) (st2 := (69, [(some (.ref 1)), (some (.int (Int32.ofInt 2))), (some (.int (Int32.ofInt x2)))], [], zk c m)) ⟨[zt], _, rfl, ⟨zbt ((zi_eq rfl (rfl : (0 : Int32) = Int32.ofInt 0) (by unfold zR; omega) (⟨by decide, by decide⟩ : zR 0)).mpr b13), trivial⟩⟩ rfl ?_
      refine zW.step (st1 := (70, [(some (.ref 1)), (some (.int (Int32.ofInt 2))), (some (.int (Int32.ofInt x2)))], [.ref 1], zk c m)) (st2 := (70, [(some (.ref 1)), (some (.int (Int32.ofInt 2))), (some (.int (Int32.ofInt x2)))], [.ref 1], zk c m)) ⟨[zo], _, rfl, ⟨trivial, trivial⟩⟩ rfl ?_
      obtain ⟨r14, hs14, z_14, f_14, l_14⟩ := S_X8_here_F zn (d + 1) hN hC (m 1 2) m hIm (by omega)
      refine zW.step (st1 := (73, [(some (.ref 1)), (some (.int (Int32.ofInt 2))), (some (.int (Int32.ofInt x2)))], [.int (Int32.ofInt r14)], zk c m)) ⟨[zc (some (.int (Int32.ofInt r14))) (zk c m)], _, rfl, ⟨⟨⟨(Nat.lt_of_lt_of_le (Nat.le_of_ble_eq_true rfl) hN), (Nat.le_of_ble_eq_true rfl)⟩, hs14, (Nat.le_of_ble_eq_true rfl), Nat.le_refl _, Nat.le_refl _, Nat.le_refl _, Nat.le_refl _⟩, trivial⟩⟩ rfl ?_
      obtain ⟨r15, hs15, z_15, q_15⟩ := S_X8_isDigit zn (d + 1) hN hC r14 m hIm (by omega)
      refine zW.step (st1 := (76, [(some (.ref 1)), (some (.int (Int32.ofInt 2))), (some (.int (Int32.ofInt x2)))], [.int (Int32.ofInt r15)], zk c m)) ⟨[zc (some (.int (Int32.ofInt r15))) (zk c m)], _, rfl, ⟨⟨(Nat.le_of_ble_eq_true rfl), hs15, (Nat.le_of_ble_eq_true rfl), Nat.le_refl _, Nat.le_refl _, Nat.le_refl _, Nat.le_refl _⟩, trivial⟩⟩ rfl ?_
      by_cases b16 : r15 = 0
      · refine zW.step (st1 := (79, [(some (.ref 1)), (some (.int (Int32.ofInt 2))), (some (.int (Int32.ofInt x2)))], [], zk c m)) (st2 := (79, [(some (.ref 1)), (some (.int (Int32.ofInt 2))), (some (.int (Int32.ofInt x2)))], [], zk c m)) ⟨[zo], _, rfl, ⟨zbf (fun q => q ((zi_eq rfl (rfl : (0 : Int32) = Int32.ofInt 0) (by unfold zR; omega) (⟨by decide, by decide⟩ : zR 0)).mpr b16)), trivial⟩⟩ rfl ?_
        have q17 := zq2_e J (by omega)
        refine zW.step (st1 := (84, [(some (.ref 1)), (some (.int (Int32.ofInt 2))), (some (.int (Int32.ofInt x2)))], [.int (Int32.ofInt 1)], zk c m)) (st2 := (84, [(some (.ref 1)), (some (.int (Int32.ofInt 2))), (some (.int (Int32.ofInt x2)))], [.int (Int32.ofInt 1)], zk c m)) ⟨[zo, zo], _, rfl, ⟨trivial, trivial, trivial⟩⟩ rfl ?_
        exact zW.fin (zfin_i rfl rfl rfl) (KR _ _ ⟨1, m, rfl, rfl, hIm, (by omega), (by omega), (by omega), (by omega), tN, tD⟩)
      · refine zW.step (st1 := (83, [(some (.ref 1)), (some (.int (Int32.ofInt 2))), (some (.int (Int32.ofInt x2)))], [], zk c m)) (st2 := (83, [(some (.ref 1)), (some (.int (Int32.ofInt 2))), (some (.int (Int32.ofInt x2)))], [], zk c m)) ⟨[zt], _, rfl, ⟨zbt (fun q => b16 ((zi_eq rfl (rfl : (0 : Int32) = Int32.ofInt 0) (by unfold zR; omega) (⟨by decide, by decide⟩ : zR 0)).mp q)), trivial⟩⟩ rfl ?_
        have q18 := zq2_o J (by omega) (by omega)
        refine zW.step (st1 := (84, [(some (.ref 1)), (some (.int (Int32.ofInt 2))), (some (.int (Int32.ofInt x2)))], [.int (Int32.ofInt 0)], zk c m)) (st2 := (84, [(some (.ref 1)), (some (.int (Int32.ofInt 2))), (some (.int (Int32.ofInt x2)))], [.int (Int32.ofInt 0)], zk c m)) ⟨[zo], _, rfl, ⟨trivial, trivial⟩⟩ rfl ?_
        exact zW.fin (zfin_i rfl rfl rfl) (KR _ _ ⟨0, m, rfl, rfl, hIm, (by omega), (by omega), (by omega), (by omega), tN, tD⟩)
    · refine zW.step (st1 := (34, [(some (.ref 1)), (some (.int (Int32.ofInt 2))), (some (.int (Int32.ofInt x2)))], [], zk c m)) (st2 := (34, [(some (.ref 1)), (some (.int (Int32.ofInt 2))), (some (.int (Int32.ofInt x2)))], [], zk c m)) ⟨[zo], _, rfl, ⟨zbf (fun q => b13 ((zi_eq rfl (rfl : (0 : Int32) = Int32.ofInt 0) (by unfold zR; omega) (⟨by decide, by decide⟩ : zR 0)).mp q)), trivial⟩⟩ rfl ?_
      refine zW.step (st1 := (43, [(some (.ref 1)), (some (.int (Int32.ofInt 2))), (some (.int (Int32.ofInt x2)))], [.ref 1, .int ((Int32.ofInt (m 1 3)) * ((Int8.ofInt 10).toInt32)), .ref 1], zk c m)) (st2 := (43, [(some (.ref 1)), (some (.int (Int32.ofInt 2))), (some (.int (Int32.ofInt x2)))], [.ref 1, .int (Int32.ofInt ((m 1 3) * 10)), .ref 1], zk c m)) ⟨[zo, zo, zo, zo, zo, zo], _, rfl, ⟨trivial, trivial, (Nat.lt_of_lt_of_le (Nat.le_of_ble_eq_true rfl) hN), trivial, trivial, trivial, trivial⟩⟩ (z_steq rfl (z_c1 rfl (z_c1 (z_vi (zi_mul rfl (by decide : (Int8.ofInt 10).toInt32 = Int32.ofInt 10))) rfl)) rfl) ?_
      obtain ⟨r19, hs19, z_19, f_19, l_19⟩ := S_X8_here_F zn (d + 1) hN hC (m 1 2) m hIm (by omega)
      refine zW.step (st1 := (46, [(some (.ref 1)), (some (.int (Int32.ofInt 2))), (some (.int (Int32.ofInt x2)))], [.int (Int32.ofInt r19), .int (Int32.ofInt ((m 1 3) * 10)), .ref 1], zk c m)) ⟨[zc (some (.int (Int32.ofInt r19))) (zk c m)], _, rfl, ⟨⟨⟨(Nat.lt_of_lt_of_le (Nat.le_of_ble_eq_true rfl) hN), (Nat.le_of_ble_eq_true rfl)⟩, hs19, (Nat.le_of_ble_eq_true rfl), Nat.le_refl _, Nat.le_refl _, Nat.le_refl _, Nat.le_refl _⟩, trivial⟩⟩ rfl ?_
      have f20 := zwR ((((m 1 3) * 10) + r19) - 48)
      have f21 := zwI ((((m 1 3) * 10) + r19) - 48)
      obtain ⟨m22, hm22⟩ : ∃ q, q = zm_up m 1 3 (zw ((((m 1 3) * 10) + r19) - 48)) := ⟨_, rfl⟩
      have hIm22 : zI c mM m22 := by rw [hm22]; exact zI_up hIm (by unfold zOk; decide) (show (-2147483648 : Int) ≤ (zw ((((m 1 3) * 10) + r19) - 48)) ∧ (zw ((((m 1 3) * 10) + r19) - 48)) ≤ 2147483647 by omega)
      have em22 : m22 1 3 = (zw ((((m 1 3) * 10) + r19) - 48)) := by rw [hm22]; exact zm_eq
      have f23 : m22 1 1 = m 1 1 := by rw [hm22]; exact zm_ne (by omega)
      have f24 : m22 1 2 = m 1 2 := by rw [hm22]; exact zm_ne (by omega)
      have tk25 : zN m0 m22 := by rw [hm22]; exact zN_up tN (by unfold zRow; omega)
      have tk26 : zD9 (fun p i => p = 1 ∧ (i = 2 ∨ i = 3)) m0 m22 := by rw [hm22]; exact zD9_up tD (by first | rfl | omega | (dsimp only; omega))
      refine zW.step (st1 := (53, [(some (.ref 1)), (some (.int (Int32.ofInt 2))), (some (.int (Int32.ofInt x2)))], [], z_hup (zk c m) 1 (.inr (8, [.ref 2, .int (Int32.ofInt (m 1 1)), .int (Int32.ofInt (m 1 2)), .int (((Int32.ofInt ((m 1 3) * 10)) + (Int32.ofInt r19)) - ((Int8.ofInt 48).toInt32))])))) (st2 := (53, [(some (.ref 1)), (some (.int (Int32.ofInt 2))), (some (.int (Int32.ofInt x2)))], [], zk c m22)) ⟨[zo, zo, zo, zo], _, rfl, ⟨trivial, trivial, trivial, ⟨(Nat.lt_of_lt_of_le (Nat.le_of_ble_eq_true rfl) hN), rfl, rfl⟩, trivial⟩⟩ (z_steq rfl rfl ((zk_up c m 1 3 (zw ((((m 1 3) * 10) + r19) - 48)) _ ((congrArg (fun q => (.inr (8, [.ref 2, .int (Int32.ofInt (m 1 1)), .int (Int32.ofInt (m 1 2)), .int q]) : z_E)) (Eq.trans (zi_sub (zi_add rfl rfl) (by decide : (Int8.ofInt 48).toInt32 = Int32.ofInt 48)) (zw_eq _))).trans rfl)).trans (by rw [hm22]))) ?_
      have f27 : (0 : Int) ≤ m22 1 2 ∧ m22 1 2 ≤ 240 := hIm22.1 1 2
      obtain ⟨m28, hm28⟩ : ∃ q, q = zm_up m22 1 2 ((m22 1 2) + 1) := ⟨_, rfl⟩
      have hIm28 : zI c mM m28 := by rw [hm28]; exact zI_up hIm22 (by unfold zOk; decide) (show (0 : Int) ≤ ((m22 1 2) + 1) ∧ ((m22 1 2) + 1) ≤ 240 by omega)
      have em28 : m28 1 2 = ((m22 1 2) + 1) := by rw [hm28]; exact zm_eq
      have f29 : m28 1 1 = m22 1 1 := by rw [hm28]; exact zm_ne (by omega)
      have f30 : m28 1 3 = m22 1 3 := by rw [hm28]; exact zm_ne (by omega)
      have tk31 : zN m0 m28 := by rw [hm28]; exact zN_up tk25 (by unfold zRow; omega)
      have tk32 : zD9 (fun p i => p = 1 ∧ (i = 2 ∨ i = 3)) m0 m28 := by rw [hm28]; exact zD9_up tk26 (by first | rfl | omega | (dsimp only; omega))
      clear tk25 tk26
      refine zW.step (st1 := (63, [(some (.ref 1)), (some (.int (Int32.ofInt 2))), (some (.int (Int32.ofInt x2)))], [], z_hup (zk c m22) 1 (.inr (8, [.ref 2, .int (Int32.ofInt (m22 1 1)), .int ((Int32.ofInt (m22 1 2)) + (Int32.ofInt 1)), .int (Int32.ofInt (m22 1 3))])))) (st2 := (63, [(some (.ref 1)), (some (.int (Int32.ofInt 2))), (some (.int (Int32.ofInt x2)))], [], zk c m28)) ⟨[zo, zo, zo, zo, zo, zo], _, rfl, ⟨trivial, trivial, (Nat.lt_of_lt_of_le (Nat.le_of_ble_eq_true rfl) hN), trivial, trivial, ⟨(Nat.lt_of_lt_of_le (Nat.le_of_ble_eq_true rfl) hN), rfl, rfl⟩, trivial⟩⟩ (z_steq rfl rfl ((zk_up c m22 1 2 ((m22 1 2) + 1) _ ((congrArg (fun q => (.inr (8, [.ref 2, .int (Int32.ofInt (m22 1 1)), .int q, .int (Int32.ofInt (m22 1 3))]) : z_E)) (zi_add rfl rfl)).trans rfl)).trans (by rw [hm28]))) ?_
      have qS := zq2_s J (by omega) (by omega) (show m28 1 2 = m 1 2 + 1 by omega) (show m28 1 3 = m 1 3 * 10 + zpk (mM 2) (mM 1 1) (m 1 2) - 48 by omega)
      refine zW.step (st1 := (19, [(some (.ref 1)), (some (.int (Int32.ofInt 2))), (some (.int ((Int32.ofInt x2) + Int32.ofInt 1)))], [], zk c m28)) (st2 := (19, [(some (.ref 1)), (some (.int (Int32.ofInt 2))), (some (.int (Int32.ofInt (x2 + 1))))], [], zk c m28)) ⟨[zo, zo], _, rfl, ⟨trivial, trivial, trivial⟩⟩ (z_steq (z_c1 rfl (z_c1 rfl (z_c1 (z_si (zi_add rfl rfl)) rfl))) rfl rfl) ?_
      exact ih _ (by omega) (x2 + 1) m28 hIm28 (by omega) (by omega) (by omega) (by omega) (by exact qS) tk31 tk32 rfl

set_option maxRecDepth 100000 in
set_option maxHeartbeats 4000000 in
theorem S_X8_takesNumber_2F (zn : Bool) (d : Nat) {c : Nat × Nat} {mM : zM} (hN : 107 ≤ c.1) (hC : c.1 < z_RO) (a9 : Int) (m : zM) (hIm : zI c mM m) (ha9 : m 1 2 = a9) (hb9 : 0 ≤ a9 ∧ a9 ≤ mM 1 1) : zCi zn (d + 3) 112 [.ref 1, .int (Int32.ofInt 2)] c m (fun (r : Int) (m1 : zM) => zI c mM m1 ∧ (0 ≤ r ∧ r ≤ 1) ∧ (r = (zn2 (mM 2) (mM 1 1) a9).1 ∧ m1 1 2 = (zn2 (mM 2) (mM 1 1) a9).2.1) ∧ (r = 1 → m1 1 3 = (zn2 (mM 2) (mM 1 1) a9).2.2) ∧ (a9 ≤ m1 1 2 ∧ m1 1 2 ≤ mM 1 1 ∧ (r = 1 → a9 < m1 1 2)) ∧ zN m m1 ∧ zD9 (fun p i => p = 1 ∧ (i = 2 ∨ i = 3)) m m1) := by
  refine zCi.of zu_X8_takesNumber hC (Nat.le_of_ble_eq_true rfl) ?_
  show zW zn (d + 2) 112 c (0, [(some (.ref 1)), (some (.int (Int32.ofInt 2))), none], [], zk c m) (fun v h1 => ∃ (r : Int) (m1 : zM), v = some (.int (Int32.ofInt r)) ∧ h1 = zk c m1 ∧ zI c mM m1 ∧ (0 ≤ r ∧ r ≤ 1) ∧ (r = (zn2 (mM 2) (mM 1 1) a9).1 ∧ m1 1 2 = (zn2 (mM 2) (mM 1 1) a9).2.1) ∧ (r = 1 → m1 1 3 = (zn2 (mM 2) (mM 1 1) a9).2.2) ∧ (a9 ≤ m1 1 2 ∧ m1 1 2 ≤ mM 1 1 ∧ (r = 1 → a9 < m1 1 2)) ∧ zN m m1 ∧ zD9 (fun p i => p = 1 ∧ (i = 2 ∨ i = 3)) m m1)
  have f34 : (0 : Int) ≤ m 1 1 ∧ m 1 1 ≤ 240 := hIm.1 1 1
  have f35 : (0 : Int) ≤ m 1 2 ∧ m 1 2 ≤ 240 := hIm.1 1 2
  have f36 : (-2147483648 : Int) ≤ m 1 3 ∧ m 1 3 ≤ 2147483647 := hIm.1 1 3
  have q37 := zn_c hIm
  have q38 := znx_le (b := mM 2) (n := mM 1 1) hb9.2
  obtain ⟨m39, hm39⟩ : ∃ q, q = zm_up m 1 3 0 := ⟨_, rfl⟩
  have hIm39 : zI c mM m39 := by rw [hm39]; exact zI_up hIm (by unfold zOk; decide) (show (-2147483648 : Int) ≤ 0 ∧ 0 ≤ 2147483647 by omega)
  have em39 : m39 1 3 = 0 := by rw [hm39]; exact zm_eq
  have f40 : m39 1 1 = m 1 1 := by rw [hm39]; exact zm_ne (by omega)
  have f41 : m39 1 2 = m 1 2 := by rw [hm39]; exact zm_ne (by omega)
  have tk42 : zN m m39 := by rw [hm39]; exact zN_up zN_rf (by unfold zRow; omega)
  have tk43 : zD9 (fun p i => p = 1 ∧ (i = 2 ∨ i = 3)) m m39 := by rw [hm39]; exact zD9_up zD9_rf (by first | rfl | omega | (dsimp only; omega))
  refine zW.step (st1 := (5, [(some (.ref 1)), (some (.int (Int32.ofInt 2))), none], [], z_hup (zk c m) 1 (.inr (8, [.ref 2, .int (Int32.ofInt (m 1 1)), .int (Int32.ofInt (m 1 2)), .int (Int32.ofInt 0)])))) (st2 := (5, [(some (.ref 1)), (some (.int (Int32.ofInt 2))), none], [], zk c m39)) ⟨[zo, zo, zo], _, rfl, ⟨trivial, trivial, ⟨(Nat.lt_of_lt_of_le (Nat.le_of_ble_eq_true rfl) hN), rfl, rfl⟩, trivial⟩⟩ (z_steq rfl rfl ((zk_up c m 1 3 0 _ rfl).trans (by rw [hm39]))) ?_
  refine zW.step (st1 := (6, [(some (.ref 1)), (some (.int (Int32.ofInt 2))), none], [.ref 1], zk c m39)) (st2 := (6, [(some (.ref 1)), (some (.int (Int32.ofInt 2))), none], [.ref 1], zk c m39)) ⟨[zo], _, rfl, ⟨trivial, trivial⟩⟩ rfl ?_
  obtain ⟨r44, m44, hs44, hIm44, z_44, f_44, p_44, b_44, l_44, c3_44, kN_44, kD_44⟩ := S_X8_next_F zn (d + 0) hN hC a9 m39 hIm39 (by omega) (by omega)
  refine zW.step (st1 := (9, [(some (.ref 1)), (some (.int (Int32.ofInt 2))), none], [.int (Int32.ofInt r44)], zk c m44)) ⟨[zc (some (.int (Int32.ofInt r44))) (zk c m44)], _, rfl, ⟨⟨⟨(Nat.lt_of_lt_of_le (Nat.le_of_ble_eq_true rfl) hN), (Nat.le_of_ble_eq_true rfl)⟩, hs44, (Nat.le_of_ble_eq_true rfl), Nat.le_refl _, Nat.le_refl _, Nat.le_refl _, Nat.le_refl _⟩, trivial⟩⟩ rfl ?_
  have f45 : (0 : Int) ≤ m44 1 1 ∧ m44 1 1 ≤ 240 := hIm44.1 1 1
  have f46 : m44 1 1 = m39 1 1 := kD_44 1 1 (by omega)
  have f47 : (0 : Int) ≤ m44 1 2 ∧ m44 1 2 ≤ 240 := hIm44.1 1 2
  have f48 : (-2147483648 : Int) ≤ m44 1 3 ∧ m44 1 3 ≤ 2147483647 := hIm44.1 1 3
  have tk49 : zN m m44 := zN_tr tk42 kN_44
  have tk50 : zD9 (fun p i => p = 1 ∧ (i = 2 ∨ i = 3)) m m44 := zD9_tr tk43 kD_44
  obtain ⟨r51, hs51, z_51, q_51⟩ := S_X8_isDigit zn (d + 1) hN hC r44 m44 hIm44 (by omega)
  refine zW.step (st1 := (12, [(some (.ref 1)), (some (.int (Int32.ofInt 2))), none], [.int (Int32.ofInt r51)], zk c m44)) ⟨[zc (some (.int (Int32.ofInt r51))) (zk c m44)], _, rfl, ⟨⟨(Nat.le_of_ble_eq_true rfl), hs51, (Nat.le_of_ble_eq_true rfl), Nat.le_refl _, Nat.le_refl _, Nat.le_refl _, Nat.le_refl _⟩, trivial⟩⟩ rfl ?_
  by_cases b52 : r51 = 0
  · refine zW.step (st1 := (15, [(some (.ref 1)), (some (.int (Int32.ofInt 2))), none], [], zk c m44)) (st2 := (15, [(some (.ref 1)), (some (.int (Int32.ofInt 2))), none], [], zk c m44)) ⟨[zo], _, rfl, ⟨zbf (fun q => q ((zi_eq rfl (rfl : (0 : Int32) = Int32.ofInt 0) (by unfold zR; omega) (⟨by decide, by decide⟩ : zR 0)).mpr b52)), trivial⟩⟩ rfl ?_
    have q53 := zn2_n (mM 2) (mM 1 1) a9 (by omega)
    refine zW.step (st1 := (16, [(some (.ref 1)), (some (.int (Int32.ofInt 2))), none], [.int (Int32.ofInt 0)], zk c m44)) (st2 := (16, [(some (.ref 1)), (some (.int (Int32.ofInt 2))), none], [.int (Int32.ofInt 0)], zk c m44)) ⟨[zo], _, rfl, ⟨trivial, trivial⟩⟩ rfl ?_
    exact zW.fin (zfin_i rfl rfl rfl) ⟨0, m44, rfl, rfl, hIm44, (by omega), (by omega), (by omega), (by omega), tk49, tk50⟩
  · refine zW.step (st1 := (17, [(some (.ref 1)), (some (.int (Int32.ofInt 2))), none], [], zk c m44)) (st2 := (17, [(some (.ref 1)), (some (.int (Int32.ofInt 2))), none], [], zk c m44)) ⟨[zt], _, rfl, ⟨zbt (fun q => b52 ((zi_eq rfl (rfl : (0 : Int32) = Int32.ofInt 0) (by unfold zR; omega) (⟨by decide, by decide⟩ : zR 0)).mp q)), trivial⟩⟩ rfl ?_
    refine zW.step (st1 := (19, [(some (.ref 1)), (some (.int (Int32.ofInt 2))), (some (.int (Int32.ofInt 0)))], [], zk c m44)) (st2 := (19, [(some (.ref 1)), (some (.int (Int32.ofInt 2))), (some (.int (Int32.ofInt 0)))], [], zk c m44)) ⟨[zo, zo], _, rfl, ⟨trivial, trivial, trivial⟩⟩ rfl ?_
    exact L_X8_takesNumber_2F_19 zn _ hN hC a9 hb9 m _ (fun v9 h9 hq9 => hq9) _ 0 m44 hIm44 (by omega) (by omega) (by have e9 : m44 1 2 = znx (mM 2) (mM 1 1) a9 := (by omega); rw [e9]; omega) (by omega) (by have e9 : m44 1 2 = znx (mM 2) (mM 1 1) a9 := (by omega); have e8 : m44 1 3 = 0 := (by omega); rw [e9, e8]; exact zq2_f (by omega)) tk49 tk50 rfl

