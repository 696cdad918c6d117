/-! texts, by program (wip/tools/gw5): X12_readWay_F -/
set_option maxRecDepth 100000 in
set_option maxHeartbeats 4000000 in
theorem L_X12_readWay_F_7 (zn : Bool) (d : Nat) {c : Nat × Nat} {mC : zM} {t9 : Int} {e9 : Nat} (hN : 107 ≤ c.1) (hC : c.1 < z_RO) (p : Int) (a9 : Int) (r_p : -2147483648 ≤ p ∧ p ≤ 2147483647) (hp : 0 ≤ p ∧ p ≤ 5) (hb9 : 0 ≤ a9 ∧ a9 ≤ mC 79 6) (m0 : zM) (Q : Option Value → z_H → Prop) (KR : ∀ v h1, (fun v h1 => ∃ (m1 : zM), v = none ∧ h1 = zk c m1 ∧ zJ mC t9 e9 m1 ∧ (m0 79 10 ≤ m1 79 10) ∧ (m1 79 9 = m0 79 9) ∧ (((zwz (zbT mC) (mC 79 6) a9).1 = 0 ∧ m1 79 11 = (zwz (zbT mC) (mC 79 6) a9).2.1) ∨ ((zwz (zbT mC) (mC 79 6) a9).1 ≠ 0 ∧ m1 79 11 = -1 ∧ m1 79 10 = (zwz (zbT mC) (mC 79 6) a9).2.1)) ∧ (m1 79 11 = -1 → m1 91 = zvu (m0 91) (p).toNat ((zwz (zbT mC) (mC 79 6) a9).2.2.1 : Int) ∧ (zwz (zbT mC) (mC 79 6) a9).2.2.1 ≤ 8 ∧ ∀ j : Nat, j < (zwz (zbT mC) (mC 79 6) a9).2.2.1 → m1 89 (8 * (p).toNat + j) = (zwz (zbT mC) (mC 79 6) a9).2.2.2 j) ∧ (∀ i : Nat, i < 8 * (p).toNat ∨ 8 * (p).toNat + 8 ≤ i → m1 89 i = m0 89 i) ∧ (a9 ≤ m1 79 10 ∧ m1 79 10 ≤ mC 79 6) ∧ (m1 79 5 = 80 ∧ m1 79 8 = 0 ∧ m1 79 9 = mC 79 6) ∧ zY m0 m1 ∧ zD9 (fun p i => (p = 79 ∧ (10 ≤ i ∧ i ≤ 12)) ∨ p = 89 ∨ p = 91) m0 m1) v h1 → Q v h1) :
    ∀ (w : Nat) (x2 : Int) (m : zM), zJ mC t9 e9 m → 0 ≤ x2 ∧ x2 ≤ 8 → m 79 9 = m0 79 9 → m0 79 10 ≤ m 79 10 → m 79 5 = 80 ∧ m 79 8 = 0 ∧ m 79 9 = mC 79 6 → m 79 11 = -1 → a9 ≤ m 79 10 ∧ m 79 10 ≤ mC 79 6 → zwz (zbT mC) (mC 79 6) a9 = zwy (zbT mC) (mC 79 6) (9 - x2).toNat x2.toNat (m 79 10) (zwr (m 89) p x2) → znx (zbT mC) (mC 79 6) (m 79 10) = m 79 10 → (∀ i : Nat, i < 8 * p.toNat ∨ 8 * p.toNat + 8 ≤ i → m 89 i = m0 89 i) → m 91 = m0 91 → zY m0 m → zD9 (fun p i => (p = 79 ∧ (10 ≤ i ∧ i ≤ 12)) ∨ p = 89 ∨ p = 91) m0 m → w = (8 - x2).toNat → zW zn (d + 1) 270 c (7, [(some (.ref 79)), (some (.int (Int32.ofInt p))), (some (.int (Int32.ofInt x2)))], [], zk c m) Q := by
  intro w
  induction w using Nat.strongRecOn with | _ w ih => ?_
  intro x2 m hIm i1 j4 j3 t5 jf jb J jz J6 J9 tY tD hw
  have f1 : (0 : Int) ≤ m 79 9 ∧ m 79 9 ≤ 240 := hIm.1 79 9
  have f2 : (0 : Int) ≤ m 79 10 ∧ m 79 10 ≤ 241 := hIm.1 79 10
  have f3 : (-2147483648 : Int) ≤ m 79 11 ∧ m 79 11 ≤ 2147483647 := hIm.1 79 11
  have f4 : (0 : Int) ≤ m 79 12 ∧ m 79 12 ≤ 6 := hIm.1 79 12
  have f5 : (80 : Int) ≤ m 79 5 ∧ m 79 5 ≤ 81 := hIm.1 79 5
  have f6 : (0 : Int) ≤ m 79 8 ∧ m 79 8 ≤ 720 := hIm.1 79 8
  have q7 := zn_m hIm
  by_cases b8 : x2 = 0
  · refine zW.step (st1 := (18, [(some (.ref 79)), (some (.int (Int32.ofInt p))), (some (.int (Int32.ofInt x2)))], [], zk c m)) (st2 := (18, [(some (.ref 79)), (some (.int (Int32.ofInt p))), (some (.int (Int32.ofInt x2)))], [], zk c m)) ⟨[zo, zt], _, rfl, ⟨trivial, zbt ((zi_eq rfl (rfl : (0 : Int32) = Int32.ofInt 0) (by unfold zR; omega) (⟨by decide, by decide⟩ : zR 0)).mpr b8), trivial⟩⟩ rfl ?_
    refine zW.step (st1 := (19, [(some (.ref 79)), (some (.int (Int32.ofInt p))), (some (.int (Int32.ofInt x2)))], [.ref 79], zk c m)) (st2 := (19, [(some (.ref 79)), (some (.int (Int32.ofInt p))), (some (.int (Int32.ofInt x2)))], [.ref 79], zk c m)) ⟨[zo], _, rfl, ⟨trivial, trivial⟩⟩ rfl ?_
    obtain ⟨r9, hs9, z_9, f_9⟩ := S_X12_isDigit_F zn (d + 0) hN hC (m 79 10) m hIm (by omega) (by omega)
    refine zW.step (st1 := (22, [(some (.ref 79)), (some (.int (Int32.ofInt p))), (some (.int (Int32.ofInt x2)))], [.int (Int32.ofInt r9)], zk c m)) ⟨[zc (some (.int (Int32.ofInt r9))) (zk c m)], _, rfl, ⟨⟨⟨(Nat.lt_of_lt_of_le (Nat.le_of_ble_eq_true rfl) hN), (Nat.le_of_ble_eq_true rfl)⟩, hs9, (Nat.le_of_ble_eq_true rfl), Nat.le_refl _, Nat.le_refl _, Nat.le_refl _, Nat.le_refl _⟩, trivial⟩⟩ rfl ?_
    by_cases b10 : r9 = 0
    · refine zW.step (st1 := (42, [(some (.ref 79)), (some (.int (Int32.ofInt p))), (some (.int (Int32.ofInt x2)))], [], zk c m)) (st2 := (42, [(some (.ref 79)), (some (.int (Int32.ofInt p))), (some (.int (Int32.ofInt x2)))], [], zk c m)) ⟨[zt], _, rfl, ⟨zbt ((zi_eq rfl (rfl : (0 : Int32) = Int32.ofInt 0) (by unfold zR; omega) (⟨by decide, by decide⟩ : zR 0)).mpr b10), trivial⟩⟩ rfl ?_
      have q42 : (zwz (zbT mC) (mC 79 6) a9).1 = 0 ∧ (zwz (zbT mC) (mC 79 6) a9).2.1 = m 79 10 := by first | (have e := zwy_m1 J (by omega) jz (by omega); exact ⟨e.1 (by omega), e.2.2.1⟩) | exact zwy_m2 J (by omega) jz (by omega) (by omega)
      refine zW.step (st1 := (43, [(some (.ref 79)), (some (.int (Int32.ofInt p))), (some (.int (Int32.ofInt x2)))], [.ref 79], zk c m)) (st2 := (43, [(some (.ref 79)), (some (.int (Int32.ofInt p))), (some (.int (Int32.ofInt x2)))], [.ref 79], zk c m)) ⟨[zo], _, rfl, ⟨trivial, trivial⟩⟩ rfl ?_
      obtain ⟨r12, m12, hs12, hIm12, q_12, f_12, p_12, t5_12, d9_12, kY_12, kD_12⟩ := S_X12_fails_H zn (d + 0) hN hC (m 79 10) m hIm (by omega) (by omega)
      subst q_12
      refine zW.step (st1 := (46, [(some (.ref 79)), (some (.int (Int32.ofInt p))), (some (.int (Int32.ofInt x2)))], [.int (Int32.ofInt 0)], zk c m12)) ⟨[zc (some (.int (Int32.ofInt 0))) (zk c m12)], _, rfl, ⟨⟨⟨(Nat.lt_of_lt_of_le (Nat.le_of_ble_eq_true rfl) hN), (Nat.le_of_ble_eq_true rfl)⟩, hs12, (Nat.le_of_ble_eq_true rfl), Nat.le_refl _, Nat.le_refl _, Nat.le_refl _, Nat.le_refl _⟩, trivial⟩⟩ rfl ?_
      have f13 : (0 : Int) ≤ m12 79 9 ∧ m12 79 9 ≤ 240 := hIm12.1 79 9
      have f14 : m12 79 9 = m 79 9 := kD_12 79 9 (by omega)
      have f15 : (0 : Int) ≤ m12 79 10 ∧ m12 79 10 ≤ 241 := hIm12.1 79 10
      have f16 : (-2147483648 : Int) ≤ m12 79 11 ∧ m12 79 11 ≤ 2147483647 := hIm12.1 79 11
      have f17 : (0 : Int) ≤ m12 79 12 ∧ m12 79 12 ≤ 6 := hIm12.1 79 12
      have f18 : (80 : Int) ≤ m12 79 5 ∧ m12 79 5 ≤ 81 := hIm12.1 79 5
      have f19 : m12 79 5 = m 79 5 := kD_12 79 5 (by omega)
      have f20 : (0 : Int) ≤ m12 79 8 ∧ m12 79 8 ≤ 720 := hIm12.1 79 8
      have f21 : m12 79 8 = m 79 8 := kD_12 79 8 (by omega)
      have tk22 : zY m0 m12 := zY_tr tY kY_12
      have tk23 : zD9 (fun p i => (p = 79 ∧ (10 ≤ i ∧ i ≤ 12)) ∨ p = 89 ∨ p = 91) m0 m12 := zD9_tr tD (zD9_mo kD_12 (fun p i w => by have w2 : p = 79 ∧ (10 ≤ i ∧ i ≤ 12) := w; show (p = 79 ∧ (10 ≤ i ∧ i ≤ 12)) ∨ p = 89 ∨ p = 91; omega))
      refine zW.step (st1 := (47, [(some (.ref 79)), (some (.int (Int32.ofInt p))), (some (.int (Int32.ofInt x2)))], [], zk c m12)) (st2 := (47, [(some (.ref 79)), (some (.int (Int32.ofInt p))), (some (.int (Int32.ofInt x2)))], [], zk c m12)) ⟨[zo], _, rfl, ⟨trivial, trivial⟩⟩ rfl ?_
      exact zW.fin (zfin_v rfl rfl) (KR _ _ ⟨m12, rfl, rfl, hIm12, (by omega), (by omega), (by omega), (by intro h; exfalso; omega), (by intro i hi; rw [kD_12 89 i (by omega)]; exact J6 i hi), (by omega), (by omega), tk22, tk23⟩)
    · refine zW.step (st1 := (25, [(some (.ref 79)), (some (.int (Int32.ofInt p))), (some (.int (Int32.ofInt x2)))], [], zk c m)) (st2 := (25, [(some (.ref 79)), (some (.int (Int32.ofInt p))), (some (.int (Int32.ofInt x2)))], [], zk c m)) ⟨[zo], _, rfl, ⟨zbf (fun q => b10 ((zi_eq rfl (rfl : (0 : Int32) = Int32.ofInt 0) (by unfold zR; omega) (⟨by decide, by decide⟩ : zR 0)).mp q)), trivial⟩⟩ rfl ?_
      by_cases b24 : x2 = 8
      · refine zW.step (st1 := (42, [(some (.ref 79)), (some (.int (Int32.ofInt p))), (some (.int (Int32.ofInt x2)))], [], zk c m)) (st2 := (42, [(some (.ref 79)), (some (.int (Int32.ofInt p))), (some (.int (Int32.ofInt x2)))], [], zk c m)) ⟨[zo, zo, zt], _, rfl, ⟨trivial, trivial, zbt ((zi_eq rfl (by decide : (Int8.ofInt 8).toInt32 = Int32.ofInt 8) (by unfold zR; omega) (⟨by decide, by decide⟩ : zR 8)).mpr b24), trivial⟩⟩ rfl ?_
        have q42 : (zwz (zbT mC) (mC 79 6) a9).1 = 0 ∧ (zwz (zbT mC) (mC 79 6) a9).2.1 = m 79 10 := by first | (have e := zwy_m1 J (by omega) jz (by omega); exact ⟨e.1 (by omega), e.2.2.1⟩) | exact zwy_m2 J (by omega) jz (by omega) (by omega)
        refine zW.step (st1 := (43, [(some (.ref 79)), (some (.int (Int32.ofInt p))), (some (.int (Int32.ofInt x2)))], [.ref 79], zk c m)) (st2 := (43, [(some (.ref 79)), (some (.int (Int32.ofInt p))), (some (.int (Int32.ofInt x2)))], [.ref 79], zk c m)) ⟨[zo], _, rfl, ⟨trivial, trivial⟩⟩ rfl ?_
        obtain ⟨r26, m26, hs26, hIm26, q_26, f_26, p_26, t5_26, d9_26, kY_26, kD_26⟩ := S_X12_fails_H zn (d + 0) hN hC (m 79 10) m hIm (by omega) (by omega)
        subst q_26
        refine zW.step (st1 := (46, [(some (.ref 79)), (some (.int (Int32.ofInt p))), (some (.int (Int32.ofInt x2)))], [.int (Int32.ofInt 0)], zk c m26)) ⟨[zc (some (.int (Int32.ofInt 0))) (zk c m26)], _, rfl, ⟨⟨⟨(Nat.lt_of_lt_of_le (Nat.le_of_ble_eq_true rfl) hN), (Nat.le_of_ble_eq_true rfl)⟩, hs26, (Nat.le_of_ble_eq_true rfl), Nat.le_refl _, Nat.le_refl _, Nat.le_refl _, Nat.le_refl _⟩, trivial⟩⟩ rfl ?_
        have f27 : (0 : Int) ≤ m26 79 9 ∧ m26 79 9 ≤ 240 := hIm26.1 79 9
        have f28 : m26 79 9 = m 79 9 := kD_26 79 9 (by omega)
        have f29 : (0 : Int) ≤ m26 79 10 ∧ m26 79 10 ≤ 241 := hIm26.1 79 10
        have f30 : (-2147483648 : Int) ≤ m26 79 11 ∧ m26 79 11 ≤ 2147483647 := hIm26.1 79 11
        have f31 : (0 : Int) ≤ m26 79 12 ∧ m26 79 12 ≤ 6 := hIm26.1 79 12
        have f32 : (80 : Int) ≤ m26 79 5 ∧ m26 79 5 ≤ 81 := hIm26.1 79 5
        have f33 : m26 79 5 = m 79 5 := kD_26 79 5 (by omega)
        have f34 : (0 : Int) ≤ m26 79 8 ∧ m26 79 8 ≤ 720 := hIm26.1 79 8
        have f35 : m26 79 8 = m 79 8 := kD_26 79 8 (by omega)
        have tk36 : zY m0 m26 := zY_tr tY kY_26
        have tk37 : zD9 (fun p i => (p = 79 ∧ (10 ≤ i ∧ i ≤ 12)) ∨ p = 89 ∨ p = 91) m0 m26 := zD9_tr tD (zD9_mo kD_26 (fun p i w => by have w2 : p = 79 ∧ (10 ≤ i ∧ i ≤ 12) := w; show (p = 79 ∧ (10 ≤ i ∧ i ≤ 12)) ∨ p = 89 ∨ p = 91; omega))
        refine zW.step (st1 := (47, [(some (.ref 79)), (some (.int (Int32.ofInt p))), (some (.int (Int32.ofInt x2)))], [], zk c m26)) (st2 := (47, [(some (.ref 79)), (some (.int (Int32.ofInt p))), (some (.int (Int32.ofInt x2)))], [], zk c m26)) ⟨[zo], _, rfl, ⟨trivial, trivial⟩⟩ rfl ?_
        exact zW.fin (zfin_v rfl rfl) (KR _ _ ⟨m26, rfl, rfl, hIm26, (by omega), (by omega), (by omega), (by intro h; exfalso; omega), (by intro i hi; rw [kD_26 89 i (by omega)]; exact J6 i hi), (by omega), (by omega), tk36, tk37⟩)
      · refine zW.step (st1 := (31, [(some (.ref 79)), (some (.int (Int32.ofInt p))), (some (.int (Int32.ofInt x2)))], [], zk c m)) (st2 := (31, [(some (.ref 79)), (some (.int (Int32.ofInt p))), (some (.int (Int32.ofInt x2)))], [], zk c m)) ⟨[zo, zo, zo], _, rfl, ⟨trivial, trivial, zbf (fun q => b24 ((zi_eq rfl (by decide : (Int8.ofInt 8).toInt32 = Int32.ofInt 8) (by unfold zR; omega) (⟨by decide, by decide⟩ : zR 8)).mp q)), trivial⟩⟩ rfl ?_
        refine zW.step (st1 := (32, [(some (.ref 79)), (some (.int (Int32.ofInt p))), (some (.int (Int32.ofInt x2)))], [.ref 79], zk c m)) (st2 := (32, [(some (.ref 79)), (some (.int (Int32.ofInt p))), (some (.int (Int32.ofInt x2)))], [.ref 79], zk c m)) ⟨[zo], _, rfl, ⟨trivial, trivial⟩⟩ rfl ?_
        obtain ⟨r38, hs38, z_38, f_38⟩ := S_X12_here_F zn (d + 0) hN hC (m 79 10) m hIm (by omega) (by omega)
        refine zW.step (st1 := (35, [(some (.ref 79)), (some (.int (Int32.ofInt p))), (some (.int (Int32.ofInt x2)))], [.int (Int32.ofInt r38)], zk c m)) ⟨[zc (some (.int (Int32.ofInt r38))) (zk c m)], _, rfl, ⟨⟨⟨(Nat.lt_of_lt_of_le (Nat.le_of_ble_eq_true rfl) hN), (Nat.le_of_ble_eq_true rfl)⟩, hs38, (Nat.le_of_ble_eq_true rfl), Nat.le_refl _, Nat.le_refl _, Nat.le_refl _, Nat.le_refl _⟩, trivial⟩⟩ rfl ?_
        have f39 := zwR (r38 - 48)
        have f40 := zwI (r38 - 48)
        by_cases b41 : (zw (r38 - 48)) < 5
        · refine zW.step (st1 := (48, [(some (.ref 79)), (some (.int (Int32.ofInt p))), (some (.int (Int32.ofInt x2)))], [], zk c m)) (st2 := (48, [(some (.ref 79)), (some (.int (Int32.ofInt p))), (some (.int (Int32.ofInt x2)))], [], zk c m)) ⟨[zo, zo, zo, zt], _, rfl, ⟨trivial, trivial, trivial, zbt ((zi_lt (Eq.trans (zi_sub rfl (by decide : (Int8.ofInt 48).toInt32 = Int32.ofInt 48)) (zw_eq _)) rfl (by unfold zR; omega) (⟨by decide, by decide⟩ : zR 5)).mpr b41), trivial⟩⟩ rfl ?_
          refine zW.step (st1 := (59, [(some (.ref 79)), (some (.int (Int32.ofInt p))), (some (.int (Int32.ofInt x2)))], [.ref 79, .int ((((Int8.ofInt 8).toInt32) * (Int32.ofInt p)) + (Int32.ofInt x2)), .ref 89], zk c m)) (st2 := (59, [(some (.ref 79)), (some (.int (Int32.ofInt p))), (some (.int (Int32.ofInt x2)))], [.ref 79, .int (Int32.ofInt ((8 * p) + x2)), .ref 89], zk c m)) ⟨[zo, zo, zo, zo, zo, zo, zo, zo], _, rfl, ⟨trivial, (Nat.lt_of_lt_of_le (Nat.le_of_ble_eq_true rfl) hN), trivial, trivial, trivial, trivial, trivial, trivial, trivial⟩⟩ (z_steq rfl (z_c1 rfl (z_c1 (z_vi (zi_add (zi_mul (by decide : (Int8.ofInt 8).toInt32 = Int32.ofInt 8) rfl) rfl)) rfl)) rfl) ?_
          obtain ⟨r42, hs42, z_42, f_42⟩ := S_X12_here_F zn (d + 0) hN hC (m 79 10) m hIm (by omega) (by omega)
          refine zW.step (st1 := (62, [(some (.ref 79)), (some (.int (Int32.ofInt p))), (some (.int (Int32.ofInt x2)))], [.int (Int32.ofInt r42), .int (Int32.ofInt ((8 * p) + x2)), .ref 89], zk c m)) ⟨[zc (some (.int (Int32.ofInt r42))) (zk c m)], _, rfl, ⟨⟨⟨(Nat.lt_of_lt_of_le (Nat.le_of_ble_eq_true rfl) hN), (Nat.le_of_ble_eq_true rfl)⟩, hs42, (Nat.le_of_ble_eq_true rfl), Nat.le_refl _, Nat.le_refl _, Nat.le_refl _, Nat.le_refl _⟩, trivial⟩⟩ rfl ?_
          obtain ⟨m43, hm43⟩ : ∃ q, q = zm_up m 89 (((8 * p) + x2).toNat) (r42 - 48) := ⟨_, rfl⟩
          have hIm43 := zJ_upE hIm hm43 (zOj_p (by decide)) (show (0 : Int) ≤ (r42 - 48) ∧ (r42 - 48) ≤ 4 by omega)
          have em43 : m43 89 (((8 * p) + x2).toNat) = (r42 - 48) := by rw [hm43]; exact zm_eq
          have f44 : m43 79 9 = m 79 9 := by rw [hm43]; exact zm_ne (Or.inl (by decide))
          have f45 : m43 79 10 = m 79 10 := by rw [hm43]; exact zm_ne (Or.inl (by decide))
          have f46 : m43 79 11 = m 79 11 := by rw [hm43]; exact zm_ne (Or.inl (by decide))
          have f47 : m43 79 12 = m 79 12 := by rw [hm43]; exact zm_ne (Or.inl (by decide))
          have f48 : m43 79 5 = m 79 5 := by rw [hm43]; exact zm_ne (Or.inl (by decide))
          have f49 : m43 79 8 = m 79 8 := by rw [hm43]; exact zm_ne (Or.inl (by decide))
          have tk50 : zY m0 m43 := by rw [hm43]; exact zY_up tY (zYs_p (by decide))
          have tk51 : zD9 (fun p i => (p = 79 ∧ (10 ≤ i ∧ i ≤ 12)) ∨ p = 89 ∨ p = 91) m0 m43 := by rw [hm43]; exact zD9_up tD (by first | rfl | omega | (dsimp only; omega))
          refine zW.step (st1 := (66, [(some (.ref 79)), (some (.int (Int32.ofInt p))), (some (.int (Int32.ofInt x2)))], [], z_hup (zk c m) 89 (.inl (0, 48, .inl (upd (fun j => Int32.ofInt (m 89 j)) (Int32.ofInt ((8 * p) + x2)).toNatClampNeg ((Int32.ofInt r42) - ((Int8.ofInt 48).toInt32))))))) (st2 := (66, [(some (.ref 79)), (some (.int (Int32.ofInt p))), (some (.int (Int32.ofInt x2)))], [], zk c m43)) ⟨[zo, zo, (false, 0, none, zh0, some (.inl (0, 48, .inl (fun j => Int32.ofInt (m 89 j)))))], _, rfl, ⟨trivial, trivial, ⟨zk_ra c m zA_89 (Nat.lt_of_lt_of_le (Nat.le_of_ble_eq_true rfl) hN), zi_in rfl (by omega) (by omega) (by omega)⟩, trivial⟩⟩ (z_steq rfl rfl ((zk_ias c m zA_89 rfl (by unfold zR; omega) (zi_sub rfl (by decide : (Int8.ofInt 48).toInt32 = Int32.ofInt 48))).trans (by rw [hm43]))) ?_
          have f52 : (0 : Int) ≤ m43 79 10 ∧ m43 79 10 ≤ 241 := hIm43.1 79 10
          obtain ⟨m53, hm53⟩ : ∃ q, q = zm_up m43 79 10 ((m43 79 10) + 1) := ⟨_, rfl⟩
          have hIm53 := zJ_upE hIm43 hm53 (zOj_79 (by decide)) (show (0 : Int) ≤ ((m43 79 10) + 1) ∧ ((m43 79 10) + 1) ≤ 241 by omega)
          have em53 : m53 79 10 = ((m43 79 10) + 1) := by rw [hm53]; exact zm_eq
          have f54 : m53 79 9 = m43 79 9 := by rw [hm53]; exact zm_ne (Or.inr (by decide))
          have f55 : m53 79 11 = m43 79 11 := by rw [hm53]; exact zm_ne (Or.inr (by decide))
          have f56 : m53 79 12 = m43 79 12 := by rw [hm53]; exact zm_ne (Or.inr (by decide))
          have f57 : m53 79 5 = m43 79 5 := by rw [hm53]; exact zm_ne (Or.inr (by decide))
          have f58 : m53 79 8 = m43 79 8 := by rw [hm53]; exact zm_ne (Or.inr (by decide))
          have tk59 : zY m0 m53 := by rw [hm53]; exact zY_up tk50 (zYs_79 (by decide))
          have tk60 : zD9 (fun p i => (p = 79 ∧ (10 ≤ i ∧ i ≤ 12)) ∨ p = 89 ∨ p = 91) m0 m53 := by rw [hm53]; exact zD9_up tk51 (by first | rfl | omega | (dsimp only; omega))
          clear tk50 tk51
          refine zW.step (st1 := (79, [(some (.ref 79)), (some (.int (Int32.ofInt p))), (some (.int ((Int32.ofInt x2) + Int32.ofInt 1)))], [], z_hup (zk c m43) 79 (.inr (12, (.int (Int32.ofInt (m43 79 0)) :: .ref 80 :: .ref 81 :: .ref 82 :: .ref 83 :: zm_rf (m43 79 5) :: .int (Int32.ofInt (m43 79 6)) :: .int (Int32.ofInt (m43 79 7)) :: .int (Int32.ofInt (m43 79 8)) :: .int (Int32.ofInt (m43 79 9)) :: .int ((Int32.ofInt (m43 79 10)) + (Int32.ofInt 1)) :: .int (Int32.ofInt (m43 79 11)) :: .int (Int32.ofInt (m43 79 12)) :: .int (Int32.ofInt (m43 79 13)) :: .int (Int32.ofInt (m43 79 14)) :: .ref (z_RO + 5) :: .ref (z_RO + 3) :: .int (Int32.ofInt (m43 79 17)) :: .ref 84 :: .ref 85 :: .ref 86 :: .ref 87 :: .ref 88 :: .ref 89 :: .ref 90 :: .ref 91 :: .int (Int32.ofInt (m43 79 26)) :: .int (Int32.ofInt (m43 79 27)) :: .int (Int32.ofInt (m43 79 28)) :: .int (Int32.ofInt (m43 79 29)) :: .int (Int32.ofInt (m43 79 30)) :: .ref 92 :: .ref 93 :: .int (Int32.ofInt (m43 79 33)) :: .int (Int32.ofInt (m43 79 34)) :: .ref 94 :: .ref 95 :: .int (Int32.ofInt (m43 79 37)) :: .int (Int32.ofInt (m43 79 38)) :: .int (Int32.ofInt (m43 79 39)) :: .int (Int32.ofInt (m43 79 40)) :: .int (Int32.ofInt (m43 79 41)) :: .int (Int32.ofInt (m43 79 42)) :: .ref 96 :: .ref 97 :: .ref 98 :: .ref 99 :: .ref 100 :: .int (Int32.ofInt (m43 79 48)) :: .int (Int32.ofInt (m43 79 49)) :: .long (Int64.ofInt (m43 79 50)) :: .ref 101 :: .ref 102 :: .int (Int32.ofInt (m43 79 53)) :: .ref 103 :: .ref 104 :: .ref 105 :: .int (Int32.ofInt (m43 79 57)) :: []))))) (st2 := (79, [(some (.ref 79)), (some (.int (Int32.ofInt p))), (some (.int (Int32.ofInt (x2 + 1))))], [], zk c m53)) ⟨[zo, zo, zo, zo, zo, zo, zo], _, rfl, ⟨trivial, trivial, trivial, (Nat.lt_of_lt_of_le (Nat.le_of_ble_eq_true rfl) hN), trivial, trivial, ⟨(Nat.lt_of_lt_of_le (Nat.le_of_ble_eq_true rfl) hN), rfl, rfl⟩, trivial⟩⟩ (z_steq (z_c1 rfl (z_c1 rfl (z_c1 (z_si (zi_add rfl rfl)) rfl))) rfl ((zk_up c m43 79 10 ((m43 79 10) + 1) _ ((congrArg (fun q => (.inr (12, (.int (Int32.ofInt (m43 79 0)) :: .ref 80 :: .ref 81 :: .ref 82 :: .ref 83 :: zm_rf (m43 79 5) :: .int (Int32.ofInt (m43 79 6)) :: .int (Int32.ofInt (m43 79 7)) :: .int (Int32.ofInt (m43 79 8)) :: .int (Int32.ofInt (m43 79 9)) :: .int q :: .int (Int32.ofInt (m43 79 11)) :: .int (Int32.ofInt (m43 79 12)) :: .int (Int32.ofInt (m43 79 13)) :: .int (Int32.ofInt (m43 79 14)) :: .ref (z_RO + 5) :: .ref (z_RO + 3) :: .int (Int32.ofInt (m43 79 17)) :: .ref 84 :: .ref 85 :: .ref 86 :: .ref 87 :: .ref 88 :: .ref 89 :: .ref 90 :: .ref 91 :: .int (Int32.ofInt (m43 79 26)) :: .int (Int32.ofInt (m43 79 27)) :: .int (Int32.ofInt (m43 79 28)) :: .int (Int32.ofInt (m43 79 29)) :: .int (Int32.ofInt (m43 79 30)) :: .ref 92 :: .ref 93 :: .int (Int32.ofInt (m43 79 33)) :: .int (Int32.ofInt (m43 79 34)) :: .ref 94 :: .ref 95 :: .int (Int32.ofInt (m43 79 37)) :: .int (Int32.ofInt (m43 79 38)) :: .int (Int32.ofInt (m43 79 39)) :: .int (Int32.ofInt (m43 79 40)) :: .int (Int32.ofInt (m43 79 41)) :: .int (Int32.ofInt (m43 79 42)) :: .ref 96 :: .ref 97 :: .ref 98 :: .ref 99 :: .ref 100 :: .int (Int32.ofInt (m43 79 48)) :: .int (Int32.ofInt (m43 79 49)) :: .long (Int64.ofInt (m43 79 50)) :: .ref 101 :: .ref 102 :: .int (Int32.ofInt (m43 79 53)) :: .ref 103 :: .ref 104 :: .ref 105 :: .int (Int32.ofInt (m43 79 57)) :: [])) : z_E)) (zi_add rfl rfl)).trans rfl)).trans (by rw [hm53]))) ?_
          clear em43
          refine zW.step (st1 := (80, [(some (.ref 79)), (some (.int (Int32.ofInt p))), (some (.int (Int32.ofInt (x2 + 1))))], [.ref 79], zk c m53)) (st2 := (80, [(some (.ref 79)), (some (.int (Int32.ofInt p))), (some (.int (Int32.ofInt (x2 + 1))))], [.ref 79], zk c m53)) ⟨[zo], _, rfl, ⟨trivial, trivial⟩⟩ rfl ?_
          obtain ⟨r61, m61, hs61, hIm61, z_61, f_61, p_61, b_61, l_61, t5_61, f9_61, d9_61, kY_61, kD_61⟩ := S_X12_look_H zn (d + 0) hN hC (((m 79 10)) + 1) m53 hIm53 (by omega) (by omega) (by omega)
          refine zW.step (st1 := (83, [(some (.ref 79)), (some (.int (Int32.ofInt p))), (some (.int (Int32.ofInt (x2 + 1))))], [.int (Int32.ofInt r61)], zk c m61)) ⟨[zc (some (.int (Int32.ofInt r61))) (zk c m61)], _, rfl, ⟨⟨⟨(Nat.lt_of_lt_of_le (Nat.le_of_ble_eq_true rfl) hN), (Nat.le_of_ble_eq_true rfl)⟩, hs61, (Nat.le_of_ble_eq_true rfl), Nat.le_refl _, Nat.le_refl _, Nat.le_refl _, Nat.le_refl _⟩, trivial⟩⟩ rfl ?_
          have f62 : (0 : Int) ≤ m61 79 9 ∧ m61 79 9 ≤ 240 := hIm61.1 79 9
          have f63 : m61 79 9 = m53 79 9 := kD_61 79 9 (by omega)
          have f64 : (0 : Int) ≤ m61 79 10 ∧ m61 79 10 ≤ 241 := hIm61.1 79 10
          have f65 : (-2147483648 : Int) ≤ m61 79 11 ∧ m61 79 11 ≤ 2147483647 := hIm61.1 79 11
          have f66 : (0 : Int) ≤ m61 79 12 ∧ m61 79 12 ≤ 6 := hIm61.1 79 12
          have f67 : (80 : Int) ≤ m61 79 5 ∧ m61 79 5 ≤ 81 := hIm61.1 79 5
          have f68 : m61 79 5 = m53 79 5 := kD_61 79 5 (by omega)
          have f69 : (0 : Int) ≤ m61 79 8 ∧ m61 79 8 ≤ 720 := hIm61.1 79 8
          have f70 : m61 79 8 = m53 79 8 := kD_61 79 8 (by omega)
          have tk71 : zY m0 m61 := zY_tr tk59 kY_61
          have tk72 : zD9 (fun p i => (p = 79 ∧ (10 ≤ i ∧ i ≤ 12)) ∨ p = 89 ∨ p = 91) m0 m61 := zD9_tr tk60 (zD9_mo kD_61 (fun p i w => by have w2 : p = 79 ∧ (10 ≤ i ∧ i ≤ 12) := w; show (p = 79 ∧ (10 ≤ i ∧ i ≤ 12)) ∨ p = 89 ∨ p = 91; omega))
          refine zW.step (st1 := (7, [(some (.ref 79)), (some (.int (Int32.ofInt p))), (some (.int (Int32.ofInt (x2 + 1))))], [], zk c m61)) (st2 := (7, [(some (.ref 79)), (some (.int (Int32.ofInt p))), (some (.int (Int32.ofInt (x2 + 1))))], [], zk c m61)) ⟨[zo, zo], _, rfl, ⟨trivial, trivial, trivial⟩⟩ rfl ?_
          exact ih _ (by omega) (x2 + 1) m61 hIm61 (by omega) (by omega) (by omega) (by omega) (by omega) (by omega) (by exact zwy_m3 J (by omega) jz (by omega) (by omega) (zwr_s (by rw [(show m61 89 = m53 89 from funext fun i => kD_61 89 i (by omega)), hm53, zup_o (by decide), hm43, zvu_up]; exact zvuc (by omega) (by omega)) (by omega)) (by omega) (by omega)) (by rw [show m61 79 10 = znx (zbT mC) (mC 79 6) (((m 79 10)) + 1) by omega]; exact znx_i (by omega) (by omega)) (by intro i hi; rw [(show m61 89 = m53 89 from funext fun i => kD_61 89 i (by omega)), hm53, zup_o (by decide), hm43, zm_ne (Or.inr (by omega))]; exact J6 i hi) (by rw [(show m61 91 = m53 91 from funext fun i => kD_61 91 i (by omega)), hm53, zup_o (by decide), hm43, zup_o (by decide)]; exact J9) tk71 tk72 rfl
        · refine zW.step (st1 := (42, [(some (.ref 79)), (some (.int (Int32.ofInt p))), (some (.int (Int32.ofInt x2)))], [], zk c m)) (st2 := (42, [(some (.ref 79)), (some (.int (Int32.ofInt p))), (some (.int (Int32.ofInt x2)))], [], zk c m)) ⟨[zo, zo, zo, zo], _, rfl, ⟨trivial, trivial, trivial, zbf (fun q => b41 ((zi_lt (Eq.trans (zi_sub rfl (by decide : (Int8.ofInt 48).toInt32 = Int32.ofInt 48)) (zw_eq _)) rfl (by unfold zR; omega) (⟨by decide, by decide⟩ : zR 5)).mp q)), trivial⟩⟩ rfl ?_
          have q42 : (zwz (zbT mC) (mC 79 6) a9).1 = 0 ∧ (zwz (zbT mC) (mC 79 6) a9).2.1 = m 79 10 := by first | (have e := zwy_m1 J (by omega) jz (by omega); exact ⟨e.1 (by omega), e.2.2.1⟩) | exact zwy_m2 J (by omega) jz (by omega) (by omega)
          refine zW.step (st1 := (43, [(some (.ref 79)), (some (.int (Int32.ofInt p))), (some (.int (Int32.ofInt x2)))], [.ref 79], zk c m)) (st2 := (43, [(some (.ref 79)), (some (.int (Int32.ofInt p))), (some (.int (Int32.ofInt x2)))], [.ref 79], zk c m)) ⟨[zo], _, rfl, ⟨trivial, trivial⟩⟩ rfl ?_
          obtain ⟨r74, m74, hs74, hIm74, q_74, f_74, p_74, t5_74, d9_74, kY_74, kD_74⟩ := S_X12_fails_H zn (d + 0) hN hC (m 79 10) m hIm (by omega) (by omega)
          subst q_74
          refine zW.step (st1 := (46, [(some (.ref 79)), (some (.int (Int32.ofInt p))), (some (.int (Int32.ofInt x2)))], [.int (Int32.ofInt 0)], zk c m74)) ⟨[zc (some (.int (Int32.ofInt 0))) (zk c m74)], _, rfl, ⟨⟨⟨(Nat.lt_of_lt_of_le (Nat.le_of_ble_eq_true rfl) hN), (Nat.le_of_ble_eq_true rfl)⟩, hs74, (Nat.le_of_ble_eq_true rfl), Nat.le_refl _, Nat.le_refl _, Nat.le_refl _, Nat.le_refl _⟩, trivial⟩⟩ rfl ?_
          have f75 : (0 : Int) ≤ m74 79 9 ∧ m74 79 9 ≤ 240 := hIm74.1 79 9
          have f76 : m74 79 9 = m 79 9 := kD_74 79 9 (by omega)
          have f77 : (0 : Int) ≤ m74 79 10 ∧ m74 79 10 ≤ 241 := hIm74.1 79 10
          have f78 : (-2147483648 : Int) ≤ m74 79 11 ∧ m74 79 11 ≤ 2147483647 := hIm74.1 79 11
          have f79 : (0 : Int) ≤ m74 79 12 ∧ m74 79 12 ≤ 6 := hIm74.1 79 12
          have f80 : (80 : Int) ≤ m74 79 5 ∧ m74 79 5 ≤ 81 := hIm74.1 79 5
          have f81 : m74 79 5 = m 79 5 := kD_74 79 5 (by omega)
          have f82 : (0 : Int) ≤ m74 79 8 ∧ m74 79 8 ≤ 720 := hIm74.1 79 8
          have f83 : m74 79 8 = m 79 8 := kD_74 79 8 (by omega)
          have tk84 : zY m0 m74 := zY_tr tY kY_74
          have tk85 : zD9 (fun p i => (p = 79 ∧ (10 ≤ i ∧ i ≤ 12)) ∨ p = 89 ∨ p = 91) m0 m74 := zD9_tr tD (zD9_mo kD_74 (fun p i w => by have w2 : p = 79 ∧ (10 ≤ i ∧ i ≤ 12) := w; show (p = 79 ∧ (10 ≤ i ∧ i ≤ 12)) ∨ p = 89 ∨ p = 91; omega))
          refine zW.step (st1 := (47, [(some (.ref 79)), (some (.int (Int32.ofInt p))), (some (.int (Int32.ofInt x2)))], [], zk c m74)) (st2 := (47, [(some (.ref 79)), (some (.int (Int32.ofInt p))), (some (.int (Int32.ofInt x2)))], [], zk c m74)) ⟨[zo], _, rfl, ⟨trivial, trivial⟩⟩ rfl ?_
          exact zW.fin (zfin_v rfl rfl) (KR _ _ ⟨m74, rfl, rfl, hIm74, (by omega), (by omega), (by omega), (by intro h; exfalso; omega), (by intro i hi; rw [kD_74 89 i (by omega)]; exact J6 i hi), (by omega), (by omega), tk84, tk85⟩)
  · refine zW.step (st1 := (11, [(some (.ref 79)), (some (.int (Int32.ofInt p))), (some (.int (Int32.ofInt x2)))], [], zk c m)) (st2 := (11, [(some (.ref 79)), (some (.int (Int32.ofInt p))), (some (.int (Int32.ofInt x2)))], [], zk c m)) ⟨[zo, zo], _, rfl, ⟨trivial, zbf (fun q => b8 ((zi_eq rfl (rfl : (0 : Int32) = Int32.ofInt 0) (by unfold zR; omega) (⟨by decide, by decide⟩ : zR 0)).mp q)), trivial⟩⟩ rfl ?_
    refine zW.step (st1 := (12, [(some (.ref 79)), (some (.int (Int32.ofInt p))), (some (.int (Int32.ofInt x2)))], [.ref 79], zk c m)) (st2 := (12, [(some (.ref 79)), (some (.int (Int32.ofInt p))), (some (.int (Int32.ofInt x2)))], [.ref 79], zk c m)) ⟨[zo], _, rfl, ⟨trivial, trivial⟩⟩ rfl ?_
    obtain ⟨r86, hs86, z_86, f_86⟩ := S_X12_isDigit_F zn (d + 0) hN hC (m 79 10) m hIm (by omega) (by omega)
    refine zW.step (st1 := (15, [(some (.ref 79)), (some (.int (Int32.ofInt p))), (some (.int (Int32.ofInt x2)))], [.int (Int32.ofInt r86)], zk c m)) ⟨[zc (some (.int (Int32.ofInt r86))) (zk c m)], _, rfl, ⟨⟨⟨(Nat.lt_of_lt_of_le (Nat.le_of_ble_eq_true rfl) hN), (Nat.le_of_ble_eq_true rfl)⟩, hs86, (Nat.le_of_ble_eq_true rfl), Nat.le_refl _, Nat.le_refl _, Nat.le_refl _, Nat.le_refl _⟩, trivial⟩⟩ rfl ?_
    by_cases b87 : r86 = 0
    · refine zW.step (st1 := (87, [(some (.ref 79)), (some (.int (Int32.ofInt p))), (some (.int (Int32.ofInt x2)))], [], zk c m)) (st2 := (87, [(some (.ref 79)), (some (.int (Int32.ofInt p))), (some (.int (Int32.ofInt x2)))], [], zk c m)) ⟨[zt], _, rfl, ⟨zbt ((zi_eq rfl (rfl : (0 : Int32) = Int32.ofInt 0) (by unfold zR; omega) (⟨by decide, by decide⟩ : zR 0)).mpr b87), trivial⟩⟩ rfl ?_
      have qE := zwy_m1 J (by omega) jz (by omega)
      have qE2 := qE.2.1 (by omega)
      have qE3 := qE.2.2.1
      obtain ⟨m89, hm89⟩ : ∃ q, q = zm_up m 91 p.toNat x2 := ⟨_, rfl⟩
      have hIm89 := zJ_upE hIm hm89 (zOj_p (by decide)) (show (0 : Int) ≤ x2 ∧ x2 ≤ 8 by omega)
      have em89 : m89 91 p.toNat = x2 := by rw [hm89]; exact zm_eq
      have f90 : m89 79 9 = m 79 9 := by rw [hm89]; exact zm_ne (Or.inl (by decide))
      have f91 : m89 79 10 = m 79 10 := by rw [hm89]; exact zm_ne (Or.inl (by decide))
      have f92 : m89 79 11 = m 79 11 := by rw [hm89]; exact zm_ne (Or.inl (by decide))
      have f93 : m89 79 12 = m 79 12 := by rw [hm89]; exact zm_ne (Or.inl (by decide))
      have f94 : m89 79 5 = m 79 5 := by rw [hm89]; exact zm_ne (Or.inl (by decide))
      have f95 : m89 79 8 = m 79 8 := by rw [hm89]; exact zm_ne (Or.inl (by decide))
      have tk96 : zY m0 m89 := by rw [hm89]; exact zY_up tY (zYs_p (by decide))
      have tk97 : zD9 (fun p i => (p = 79 ∧ (10 ≤ i ∧ i ≤ 12)) ∨ p = 89 ∨ p = 91) m0 m89 := by rw [hm89]; exact zD9_up tD (by first | rfl | omega | (dsimp only; omega))
      refine zW.step (st1 := (94, [(some (.ref 79)), (some (.int (Int32.ofInt p))), (some (.int (Int32.ofInt x2)))], [], z_hup (zk c m) 91 (.inl (0, 6, .inl (upd (fun j => Int32.ofInt (m 91 j)) (Int32.ofInt p).toNatClampNeg (Int32.ofInt x2)))))) (st2 := (94, [(some (.ref 79)), (some (.int (Int32.ofInt p))), (some (.int (Int32.ofInt x2)))], [], zk c m89)) ⟨[zo, zo, zo, zo, (false, 0, none, zh0, some (.inl (0, 6, .inl (fun j => Int32.ofInt (m 91 j)))))], _, rfl, ⟨trivial, (Nat.lt_of_lt_of_le (Nat.le_of_ble_eq_true rfl) hN), trivial, trivial, ⟨zk_ra c m zA_91 (Nat.lt_of_lt_of_le (Nat.le_of_ble_eq_true rfl) hN), zi_in rfl (by omega) (by omega) (by omega)⟩, trivial⟩⟩ (z_steq rfl rfl ((zk_ias c m zA_91 rfl (by unfold zR; omega) rfl).trans (by rw [hm89]))) ?_
      exact zW.fin (zfin_v rfl rfl) (KR _ _ ⟨m89, rfl, rfl, hIm89, (by omega), (by omega), (by omega), (by intro _; exact zwm_e J9 qE.2.2.2.1 qE.2.2.2.2 (by omega) hm89 (by omega)), (by intro i hi; rw [hm89, zm_ne (Or.inl (by decide))]; exact J6 i hi), (by omega), (by omega), tk96, tk97⟩)
    · refine zW.step (st1 := (18, [(some (.ref 79)), (some (.int (Int32.ofInt p))), (some (.int (Int32.ofInt x2)))], [], zk c m)) (st2 := (18, [(some (.ref 79)), (some (.int (Int32.ofInt p))), (some (.int (Int32.ofInt x2)))], [], zk c m)) ⟨[zo], _, rfl, ⟨zbf (fun q => b87 ((zi_eq rfl (rfl : (0 : Int32) = Int32.ofInt 0) (by unfold zR; omega) (⟨by decide, by decide⟩ : zR 0)).mp q)), trivial⟩⟩ rfl ?_
      refine zW.step (st1 := (19, [(some (.ref 79)), (some (.int (Int32.ofInt p))), (some (.int (Int32.ofInt x2)))], [.ref 79], zk c m)) (st2 := (19, [(some (.ref 79)), (some (.int (Int32.ofInt p))), (some (.int (Int32.ofInt x2)))], [.ref 79], zk c m)) ⟨[zo], _, rfl, ⟨trivial, trivial⟩⟩ rfl ?_
      obtain ⟨r98, hs98, z_98, f_98⟩ := S_X12_isDigit_F zn (d + 0) hN hC (m 79 10) m hIm (by omega) (by omega)
      refine zW.step (st1 := (22, [(some (.ref 79)), (some (.int (Int32.ofInt p))), (some (.int (Int32.ofInt x2)))], [.int (Int32.ofInt r98)], zk c m)) ⟨[zc (some (.int (Int32.ofInt r98))) (zk c m)], _, rfl, ⟨⟨⟨(Nat.lt_of_lt_of_le (Nat.le_of_ble_eq_true rfl) hN), (Nat.le_of_ble_eq_true rfl)⟩, hs98, (Nat.le_of_ble_eq_true rfl), Nat.le_refl _, Nat.le_refl _, Nat.le_refl _, Nat.le_refl _⟩, trivial⟩⟩ rfl ?_
      by_cases b99 : r98 = 0
      · refine zW.step (st1 := (42, [(some (.ref 79)), (some (.int (Int32.ofInt p))), (some (.int (Int32.ofInt x2)))], [], zk c m)) (st2 := (42, [(some (.ref 79)), (some (.int (Int32.ofInt p))), (some (.int (Int32.ofInt x2)))], [], zk c m)) ⟨[zt], _, rfl, ⟨zbt ((zi_eq rfl (rfl : (0 : Int32) = Int32.ofInt 0) (by unfold zR; omega) (⟨by decide, by decide⟩ : zR 0)).mpr b99), trivial⟩⟩ rfl ?_
        have q42 : (zwz (zbT mC) (mC 79 6) a9).1 = 0 ∧ (zwz (zbT mC) (mC 79 6) a9).2.1 = m 79 10 := by first | (have e := zwy_m1 J (by omega) jz (by omega); exact ⟨e.1 (by omega), e.2.2.1⟩) | exact zwy_m2 J (by omega) jz (by omega) (by omega)
        refine zW.step (st1 := (43, [(some (.ref 79)), (some (.int (Int32.ofInt p))), (some (.int (Int32.ofInt x2)))], [.ref 79], zk c m)) (st2 := (43, [(some (.ref 79)), (some (.int (Int32.ofInt p))), (some (.int (Int32.ofInt x2)))], [.ref 79], zk c m)) ⟨[zo], _, rfl, ⟨trivial, trivial⟩⟩ rfl ?_
        obtain ⟨r101, m101, hs101, hIm101, q_101, f_101, p_101, t5_101, d9_101, kY_101, kD_101⟩ := S_X12_fails_H zn (d + 0) hN hC (m 79 10) m hIm (by omega) (by omega)
        subst q_101
        refine zW.step (st1 := (46, [(some (.ref 79)), (some (.int (Int32.ofInt p))), (some (.int (Int32.ofInt x2)))], [.int (Int32.ofInt 0)], zk c m101)) ⟨[zc (some (.int (Int32.ofInt 0))) (zk c m101)], _, rfl, ⟨⟨⟨(Nat.lt_of_lt_of_le (Nat.le_of_ble_eq_true rfl) hN), (Nat.le_of_ble_eq_true rfl)⟩, hs101, (Nat.le_of_ble_eq_true rfl), Nat.le_refl _, Nat.le_refl _, Nat.le_refl _, Nat.le_refl _⟩, trivial⟩⟩ rfl ?_
        have f102 : (0 : Int) ≤ m101 79 9 ∧ m101 79 9 ≤ 240 := hIm101.1 79 9
        have f103 : m101 79 9 = m 79 9 := kD_101 79 9 (by omega)
        have f104 : (0 : Int) ≤ m101 79 10 ∧ m101 79 10 ≤ 241 := hIm101.1 79 10
        have f105 : (-2147483648 : Int) ≤ m101 79 11 ∧ m101 79 11 ≤ 2147483647 := hIm101.1 79 11
        have f106 : (0 : Int) ≤ m101 79 12 ∧ m101 79 12 ≤ 6 := hIm101.1 79 12
        have f107 : (80 : Int) ≤ m101 79 5 ∧ m101 79 5 ≤ 81 := hIm101.1 79 5
        have f108 : m101 79 5 = m 79 5 := kD_101 79 5 (by omega)
        have f109 : (0 : Int) ≤ m101 79 8 ∧ m101 79 8 ≤ 720 := hIm101.1 79 8
        have f110 : m101 79 8 = m 79 8 := kD_101 79 8 (by omega)
        have tk111 : zY m0 m101 := zY_tr tY kY_101
        have tk112 : zD9 (fun p i => (p = 79 ∧ (10 ≤ i ∧ i ≤ 12)) ∨ p = 89 ∨ p = 91) m0 m101 := zD9_tr tD (zD9_mo kD_101 (fun p i w => by have w2 : p = 79 ∧ (10 ≤ i ∧ i ≤ 12) := w; show (p = 79 ∧ (10 ≤ i ∧ i ≤ 12)) ∨ p = 89 ∨ p = 91; omega))
        refine zW.step (st1 := (47, [(some (.ref 79)), (some (.int (Int32.ofInt p))), (some (.int (Int32.ofInt x2)))], [], zk c m101)) (st2 := (47, [(some (.ref 79)), (some (.int (Int32.ofInt p))), (some (.int (Int32.ofInt x2)))], [], zk c m101)) ⟨[zo], _, rfl, ⟨trivial, trivial⟩⟩ rfl ?_
        exact zW.fin (zfin_v rfl rfl) (KR _ _ ⟨m101, rfl, rfl, hIm101, (by omega), (by omega), (by omega), (by intro h; exfalso; omega), (by intro i hi; rw [kD_101 89 i (by omega)]; exact J6 i hi), (by omega), (by omega), tk111, tk112⟩)
      · refine zW.step (st1 := (25, [(some (.ref 79)), (some (.int (Int32.ofInt p))), (some (.int (Int32.ofInt x2)))], [], zk c m)) (st2 := (25, [(some (.ref 79)), (some (.int (Int32.ofInt p))), (some (.int (Int32.ofInt x2)))], [], zk c m)) ⟨[zo], _, rfl, ⟨zbf (fun q => b99 ((zi_eq rfl (rfl : (0 : Int32) = Int32.ofInt 0) (by unfold zR; omega) (⟨by decide, by decide⟩ : zR 0)).mp q)), trivial⟩⟩ rfl ?_
        by_cases b113 : x2 = 8
        · refine zW.step (st1 := (42, [(some (.ref 79)), (some (.int (Int32.ofInt p))), (some (.int (Int32.ofInt x2)))], [], zk c m)) (st2 := (42, [(some (.ref 79)), (some (.int (Int32.ofInt p))), (some (.int (Int32.ofInt x2)))], [], zk c m)) ⟨[zo, zo, zt], _, rfl, ⟨trivial, trivial, zbt ((zi_eq rfl (by decide : (Int8.ofInt 8).toInt32 = Int32.ofInt 8) (by unfold zR; omega) (⟨by decide, by decide⟩ : zR 8)).mpr b113), trivial⟩⟩ rfl ?_
          have q42 : (zwz (zbT mC) (mC 79 6) a9).1 = 0 ∧ (zwz (zbT mC) (mC 79 6) a9).2.1 = m 79 10 := by first | (have e := zwy_m1 J (by omega) jz (by omega); exact ⟨e.1 (by omega), e.2.2.1⟩) | exact zwy_m2 J (by omega) jz (by omega) (by omega)
          refine zW.step (st1 := (43, [(some (.ref 79)), (some (.int (Int32.ofInt p))), (some (.int (Int32.ofInt x2)))], [.ref 79], zk c m)) (st2 := (43, [(some (.ref 79)), (some (.int (Int32.ofInt p))), (some (.int (Int32.ofInt x2)))], [.ref 79], zk c m)) ⟨[zo], _, rfl, ⟨trivial, trivial⟩⟩ rfl ?_
          obtain ⟨r115, m115, hs115, hIm115, q_115, f_115, p_115, t5_115, d9_115, kY_115, kD_115⟩ := S_X12_fails_H zn (d + 0) hN hC (m 79 10) m hIm (by omega) (by omega)
          subst q_115
          refine zW.step (st1 := (46, [(some (.ref 79)), (some (.int (Int32.ofInt p))), (some (.int (Int32.ofInt x2)))], [.int (Int32.ofInt 0)], zk c m115)) ⟨[zc (some (.int (Int32.ofInt 0))) (zk c m115)], _, rfl, ⟨⟨⟨(Nat.lt_of_lt_of_le (Nat.le_of_ble_eq_true rfl) hN), (Nat.le_of_ble_eq_true rfl)⟩, hs115, (Nat.le_of_ble_eq_true rfl), Nat.le_refl _, Nat.le_refl _, Nat.le_refl _, Nat.le_refl _⟩, trivial⟩⟩ rfl ?_
          have f116 : (0 : Int) ≤ m115 79 9 ∧ m115 79 9 ≤ 240 := hIm115.1 79 9
          have f117 : m115 79 9 = m 79 9 := kD_115 79 9 (by omega)
          have f118 : (0 : Int) ≤ m115 79 10 ∧ m115 79 10 ≤ 241 := hIm115.1 79 10
          have f119 : (-2147483648 : Int) ≤ m115 79 11 ∧ m115 79 11 ≤ 2147483647 := hIm115.1 79 11
          have f120 : (0 : Int) ≤ m115 79 12 ∧ m115 79 12 ≤ 6 := hIm115.1 79 12
          have f121 : (80 : Int) ≤ m115 79 5 ∧ m115 79 5 ≤ 81 := hIm115.1 79 5
          have f122 : m115 79 5 = m 79 5 := kD_115 79 5 (by omega)
          have f123 : (0 : Int) ≤ m115 79 8 ∧ m115 79 8 ≤ 720 := hIm115.1 79 8
          have f124 : m115 79 8 = m 79 8 := kD_115 79 8 (by omega)
          have tk125 : zY m0 m115 := zY_tr tY kY_115
          have tk126 : zD9 (fun p i => (p = 79 ∧ (10 ≤ i ∧ i ≤ 12)) ∨ p = 89 ∨ p = 91) m0 m115 := zD9_tr tD (zD9_mo kD_115 (fun p i w => by have w2 : p = 79 ∧ (10 ≤ i ∧ i ≤ 12) := w; show (p = 79 ∧ (10 ≤ i ∧ i ≤ 12)) ∨ p = 89 ∨ p = 91; omega))
          refine zW.step (st1 := (47, [(some (.ref 79)), (some (.int (Int32.ofInt p))), (some (.int (Int32.ofInt x2)))], [], zk c m115)) (st2 := (47, [(some (.ref 79)), (some (.int (Int32.ofInt p))), (some (.int (Int32.ofInt x2)))], [], zk c m115)) ⟨[zo], _, rfl, ⟨trivial, trivial⟩⟩ rfl ?_
          exact zW.fin (zfin_v rfl rfl) (KR _ _ ⟨m115, rfl, rfl, hIm115, (by omega), (by omega), (by omega), (by intro h; exfalso; omega), (by intro i hi; rw [kD_115 89 i (by omega)]; exact J6 i hi), (by omega), (by omega), tk125, tk126⟩)
        · refine zW.step (st1 := (31, [(some (.ref 79)), (some (.int (Int32.ofInt p))), (some (.int (Int32.ofInt x2)))], [], zk c m)) (st2 := (31, [(some (.ref 79)), (some (.int (Int32.ofInt p))), (some (.int (Int32.ofInt x2)))], [], zk c m)) ⟨[zo, zo, zo], _, rfl, ⟨trivial, trivial, zbf (fun q => b113 ((zi_eq rfl (by decide : (Int8.ofInt 8).toInt32 = Int32.ofInt 8) (by unfold zR; omega) (⟨by decide, by decide⟩ : zR 8)).mp q)), trivial⟩⟩ rfl ?_
          refine zW.step (st1 := (32, [(some (.ref 79)), (some (.int (Int32.ofInt p))), (some (.int (Int32.ofInt x2)))], [.ref 79], zk c m)) (st2 := (32, [(some (.ref 79)), (some (.int (Int32.ofInt p))), (some (.int (Int32.ofInt x2)))], [.ref 79], zk c m)) ⟨[zo], _, rfl, ⟨trivial, trivial⟩⟩ rfl ?_
          obtain ⟨r127, hs127, z_127, f_127⟩ := S_X12_here_F zn (d + 0) hN hC (m 79 10) m hIm (by omega) (by omega)
          refine zW.step (st1 := (35, [(some (.ref 79)), (some (.int (Int32.ofInt p))), (some (.int (Int32.ofInt x2)))], [.int (Int32.ofInt r127)], zk c m)) ⟨[zc (some (.int (Int32.ofInt r127))) (zk c m)], _, rfl, ⟨⟨⟨(Nat.lt_of_lt_of_le (Nat.le_of_ble_eq_true rfl) hN), (Nat.le_of_ble_eq_true rfl)⟩, hs127, (Nat.le_of_ble_eq_true rfl), Nat.le_refl _, Nat.le_refl _, Nat.le_refl _, Nat.le_refl _⟩, trivial⟩⟩ rfl ?_
          have f128 := zwR (r127 - 48)
          have f129 := zwI (r127 - 48)
          by_cases b130 : (zw (r127 - 48)) < 5
          · refine zW.step (st1 := (48, [(some (.ref 79)), (some (.int (Int32.ofInt p))), (some (.int (Int32.ofInt x2)))], [], zk c m)) (st2 := (48, [(some (.ref 79)), (some (.int (Int32.ofInt p))), (some (.int (Int32.ofInt x2)))], [], zk c m)) ⟨[zo, zo, zo, zt], _, rfl, ⟨trivial, trivial, trivial, zbt ((zi_lt (Eq.trans (zi_sub rfl (by decide : (Int8.ofInt 48).toInt32 = Int32.ofInt 48)) (zw_eq _)) rfl (by unfold zR; omega) (⟨by decide, by decide⟩ : zR 5)).mpr b130), trivial⟩⟩ rfl ?_
            refine zW.step (st1 := (59, [(some (.ref 79)), (some (.int (Int32.ofInt p))), (some (.int (Int32.ofInt x2)))], [.ref 79, .int ((((Int8.ofInt 8).toInt32) * (Int32.ofInt p)) + (Int32.ofInt x2)), .ref 89], zk c m)) (st2 := (59, [(some (.ref 79)), (some (.int (Int32.ofInt p))), (some (.int (Int32.ofInt x2)))], [.ref 79, .int (Int32.ofInt ((8 * p) + x2)), .ref 89], zk c m)) ⟨[zo, zo, zo, zo, zo, zo, zo, zo], _, rfl, ⟨trivial, (Nat.lt_of_lt_of_le (Nat.le_of_ble_eq_true rfl) hN), trivial, trivial, trivial, trivial, trivial, trivial, trivial⟩⟩ (z_steq rfl (z_c1 rfl (z_c1 (z_vi (zi_add (zi_mul (by decide : (Int8.ofInt 8).toInt32 = Int32.ofInt 8) rfl) rfl)) rfl)) rfl) ?_
            obtain ⟨r131, hs131, z_131, f_131⟩ := S_X12_here_F zn (d + 0) hN hC (m 79 10) m hIm (by omega) (by omega)
            refine zW.step (st1 := (62, [(some (.ref 79)), (some (.int (Int32.ofInt p))), (some (.int (Int32.ofInt x2)))], [.int (Int32.ofInt r131), .int (Int32.ofInt ((8 * p) + x2)), .ref 89], zk c m)) ⟨[zc (some (.int (Int32.ofInt r131))) (zk c m)], _, rfl, ⟨⟨⟨(Nat.lt_of_lt_of_le (Nat.le_of_ble_eq_true rfl) hN), (Nat.le_of_ble_eq_true rfl)⟩, hs131, (Nat.le_of_ble_eq_true rfl), Nat.le_refl _, Nat.le_refl _, Nat.le_refl _, Nat.le_refl _⟩, trivial⟩⟩ rfl ?_
            obtain ⟨m132, hm132⟩ : ∃ q, q = zm_up m 89 (((8 * p) + x2).toNat) (r131 - 48) := ⟨_, rfl⟩
            have hIm132 := zJ_upE hIm hm132 (zOj_p (by decide)) (show (0 : Int) ≤ (r131 - 48) ∧ (r131 - 48) ≤ 4 by omega)
            have em132 : m132 89 (((8 * p) + x2).toNat) = (r131 - 48) := by rw [hm132]; exact zm_eq
            have f133 : m132 79 9 = m 79 9 := by rw [hm132]; exact zm_ne (Or.inl (by decide))
            have f134 : m132 79 10 = m 79 10 := by rw [hm132]; exact zm_ne (Or.inl (by decide))
            have f135 : m132 79 11 = m 79 11 := by rw [hm132]; exact zm_ne (Or.inl (by decide))
            have f136 : m132 79 12 = m 79 12 := by rw [hm132]; exact zm_ne (Or.inl (by decide))
            have f137 : m132 79 5 = m 79 5 := by rw [hm132]; exact zm_ne (Or.inl (by decide))
            have f138 : m132 79 8 = m 79 8 := by rw [hm132]; exact zm_ne (Or.inl (by decide))
            have tk139 : zY m0 m132 := by rw [hm132]; exact zY_up tY (zYs_p (by decide))
            have tk140 : zD9 (fun p i => (p = 79 ∧ (10 ≤ i ∧ i ≤ 12)) ∨ p = 89 ∨ p = 91) m0 m132 := by rw [hm132]; exact zD9_up tD (by first | rfl | omega | (dsimp only; omega))
            refine zW.step (st1 := (66, [(some (.ref 79)), (some (.int (Int32.ofInt p))), (some (.int (Int32.ofInt x2)))], [], z_hup (zk c m) 89 (.inl (0, 48, .inl (upd (fun j => Int32.ofInt (m 89 j)) (Int32.ofInt ((8 * p) + x2)).toNatClampNeg ((Int32.ofInt r131) - ((Int8.ofInt 48).toInt32))))))) (st2 := (66, [(some (.ref 79)), (some (.int (Int32.ofInt p))), (some (.int (Int32.ofInt x2)))], [], zk c m132)) ⟨[zo, zo, (false, 0, none, zh0, some (.inl (0, 48, .inl (fun j => Int32.ofInt (m 89 j)))))], _, rfl, ⟨trivial, trivial, ⟨zk_ra c m zA_89 (Nat.lt_of_lt_of_le (Nat.le_of_ble_eq_true rfl) hN), zi_in rfl (by omega) (by omega) (by omega)⟩, trivial⟩⟩ (z_steq rfl rfl ((zk_ias c m zA_89 rfl (by unfold zR; omega) (zi_sub rfl (by decide : (Int8.ofInt 48).toInt32 = Int32.ofInt 48))).trans (by rw [hm132]))) ?_
            have f141 : (0 : Int) ≤ m132 79 10 ∧ m132 79 10 ≤ 241 := hIm132.1 79 10
            obtain ⟨m142, hm142⟩ : ∃ q, q = zm_up m132 79 10 ((m132 79 10) + 1) := ⟨_, rfl⟩
            have hIm142 := zJ_upE hIm132 hm142 (zOj_79 (by decide)) (show (0 : Int) ≤ ((m132 79 10) + 1) ∧ ((m132 79 10) + 1) ≤ 241 by omega)
            have em142 : m142 79 10 = ((m132 79 10) + 1) := by rw [hm142]; exact zm_eq
            have f143 : m142 79 9 = m132 79 9 := by rw [hm142]; exact zm_ne (Or.inr (by decide))
            have f144 : m142 79 11 = m132 79 11 := by rw [hm142]; exact zm_ne (Or.inr (by decide))
            have f145 : m142 79 12 = m132 79 12 := by rw [hm142]; exact zm_ne (Or.inr (by decide))
            have f146 : m142 79 5 = m132 79 5 := by rw [hm142]; exact zm_ne (Or.inr (by decide))
            have f147 : m142 79 8 = m132 79 8 := by rw [hm142]; exact zm_ne (Or.inr (by decide))
            have tk148 : zY m0 m142 := by rw [hm142]; exact zY_up tk139 (zYs_79 (by decide))
            have tk149 : zD9 (fun p i => (p = 79 ∧ (10 ≤ i ∧ i ≤ 12)) ∨ p = 89 ∨ p = 91) m0 m142 := by rw [hm142]; exact zD9_up tk140 (by first | rfl | omega | (dsimp only; omega))
            clear tk139 tk140
            refine zW.step (st1 := (79, [(some (.ref 79)), (some (.int (Int32.ofInt p))), (some (.int ((Int32.ofInt x2) + Int32.ofInt 1)))], [], z_hup (zk c m132) 79 (.inr (12, (.int (Int32.ofInt (m132 79 0)) :: .ref 80 :: .ref 81 :: .ref 82 :: .ref 83 :: zm_rf (m132 79 5) :: .int (Int32.ofInt (m132 79 6)) :: .int (Int32.ofInt (m132 79 7)) :: .int (Int32.ofInt (m132 79 8)) :: .int (Int32.ofInt (m132 79 9)) :: .int ((Int32.ofInt (m132 79 10)) + (Int32.ofInt 1)) :: .int (Int32.ofInt (m132 79 11)) :: .int (Int32.ofInt (m132 79 12)) :: .int (Int32.ofInt (m132 79 13)) :: .int (Int32.ofInt (m132 79 14)) :: .ref (z_RO + 5) :: .ref (z_RO + 3) :: .int (Int32.ofInt (m132 79 17)) :: .ref 84 :: .ref 85 :: .ref 86 :: .ref 87 :: .ref 88 :: .ref 89 :: .ref 90 :: .ref 91 :: .int (Int32.ofInt (m132 79 26)) :: .int (Int32.ofInt (m132 79 27)) :: .int (Int32.ofInt (m132 79 28)) :: .int (Int32.ofInt (m132 79 29)) :: .int (Int32.ofInt (m132 79 30)) :: .ref 92 :: .ref 93 :: .int (Int32.ofInt (m132 79 33)) :: .int (Int32.ofInt (m132 79 34)) :: .ref 94 :: .ref 95 :: .int (Int32.ofInt (m132 79 37)) :: .int (Int32.ofInt (m132 79 38)) :: .int (Int32.ofInt (m132 79 39)) :: .int (Int32.ofInt (m132 79 40)) :: .int (Int32.ofInt (m132 79 41)) :: .int (Int32.ofInt (m132 79 42)) :: .ref 96 :: .ref 97 :: .ref 98 :: .ref 99 :: .ref 100 :: .int (Int32.ofInt (m132 79 48)) :: .int (Int32.ofInt (m132 79 49)) :: .long (Int64.ofInt (m132 79 50)) :: .ref 101 :: .ref 102 :: .int (Int32.ofInt (m132 79 53)) :: .ref 103 :: .ref 104 :: .ref 105 :: .int (Int32.ofInt (m132 79 57)) :: []))))) (st2 := (79, [(some (.ref 79)), (some (.int (Int32.ofInt p))), (some (.int (Int32.ofInt (x2 + 1))))], [], zk c m142)) ⟨[zo, zo, zo, zo, zo, zo, zo], _, rfl, ⟨trivial, trivial, trivial, (Nat.lt_of_lt_of_le (Nat.le_of_ble_eq_true rfl) hN), trivial, trivial, ⟨(Nat.lt_of_lt_of_le (Nat.le_of_ble_eq_true rfl) hN), rfl, rfl⟩, trivial⟩⟩ (z_steq (z_c1 rfl (z_c1 rfl (z_c1 (z_si (zi_add rfl rfl)) rfl))) rfl ((zk_up c m132 79 10 ((m132 79 10) + 1) _ ((congrArg (fun q => (.inr (12, (.int (Int32.ofInt (m132 79 0)) :: .ref 80 :: .ref 81 :: .ref 82 :: .ref 83 :: zm_rf (m132 79 5) :: .int (Int32.ofInt (m132 79 6)) :: .int (Int32.ofInt (m132 79 7)) :: .int (Int32.ofInt (m132 79 8)) :: .int (Int32.ofInt (m132 79 9)) :: .int q :: .int (Int32.ofInt (m132 79 11)) :: .int (Int32.ofInt (m132 79 12)) :: .int (Int32.ofInt (m132 79 13)) :: .int (Int32.ofInt (m132 79 14)) :: .ref (z_RO + 5) :: .ref (z_RO + 3) :: .int (Int32.ofInt (m132 79 17)) :: .ref 84 :: .ref 85 :: .ref 86 :: .ref 87 :: .ref 88 :: .ref 89 :: .ref 90 :: .ref 91 :: .int (Int32.ofInt (m132 79 26)) :: .int (Int32.ofInt (m132 79 27)) :: .int (Int32.ofInt (m132 79 28)) :: .int (Int32.ofInt (m132 79 29)) :: .int (Int32.ofInt (m132 79 30)) :: .ref 92 :: .ref 93 :: .int (Int32.ofInt (m132 79 33)) :: .int (Int32.ofInt (m132 79 34)) :: .ref 94 :: .ref 95 :: .int (Int32.ofInt (m132 79 37)) :: .int (Int32.ofInt (m132 79 38)) :: .int (Int32.ofInt (m132 79 39)) :: .int (Int32.ofInt (m132 79 40)) :: .int (Int32.ofInt (m132 79 41)) :: .int (Int32.ofInt (m132 79 42)) :: .ref 96 :: .ref 97 :: .ref 98 :: .ref 99 :: .ref 100 :: .int (Int32.ofInt (m132 79 48)) :: .int (Int32.ofInt (m132 79 49)) :: .long (Int64.ofInt (m132 79 50)) :: .ref 101 :: .ref 102 :: .int (Int32.ofInt (m132 79 53)) :: .ref 103 :: .ref 104 :: .ref 105 :: .int (Int32.ofInt (m132 79 57)) :: [])) : z_E)) (zi_add rfl rfl)).trans rfl)).trans (by rw [hm142]))) ?_
            clear em132
            refine zW.step (st1 := (80, [(some (.ref 79)), (some (.int (Int32.ofInt p))), (some (.int (Int32.ofInt (x2 + 1))))], [.ref 79], zk c m142)) (st2 := (80, [(some (.ref 79)), (some (.int (Int32.ofInt p))), (some (.int (Int32.ofInt (x2 + 1))))], [.ref 79], zk c m142)) ⟨[zo], _, rfl, ⟨trivial, trivial⟩⟩ rfl ?_
            obtain ⟨r150, m150, hs150, hIm150, z_150, f_150, p_150, b_150, l_150, t5_150, f9_150, d9_150, kY_150, kD_150⟩ := S_X12_look_H zn (d + 0) hN hC (((m 79 10)) + 1) m142 hIm142 (by omega) (by omega) (by omega)
            refine zW.step (st1 := (83, [(some (.ref 79)), (some (.int (Int32.ofInt p))), (some (.int (Int32.ofInt (x2 + 1))))], [.int (Int32.ofInt r150)], zk c m150)) ⟨[zc (some (.int (Int32.ofInt r150))) (zk c m150)], _, rfl, ⟨⟨⟨(Nat.lt_of_lt_of_le (Nat.le_of_ble_eq_true rfl) hN), (Nat.le_of_ble_eq_true rfl)⟩, hs150, (Nat.le_of_ble_eq_true rfl), Nat.le_refl _, Nat.le_refl _, Nat.le_refl _, Nat.le_refl _⟩, trivial⟩⟩ rfl ?_
            have f151 : (0 : Int) ≤ m150 79 9 ∧ m150 79 9 ≤ 240 := hIm150.1 79 9
            have f152 : m150 79 9 = m142 79 9 := kD_150 79 9 (by omega)
            have f153 : (0 : Int) ≤ m150 79 10 ∧ m150 79 10 ≤ 241 := hIm150.1 79 10
            have f154 : (-2147483648 : Int) ≤ m150 79 11 ∧ m150 79 11 ≤ 2147483647 := hIm150.1 79 11
            have f155 : (0 : Int) ≤ m150 79 12 ∧ m150 79 12 ≤ 6 := hIm150.1 79 12
            have f156 : (80 : Int) ≤ m150 79 5 ∧ m150 79 5 ≤ 81 := hIm150.1 79 5
            have f157 : m150 79 5 = m142 79 5 := kD_150 79 5 (by omega)
            have f158 : (0 : Int) ≤ m150 79 8 ∧ m150 79 8 ≤ 720 := hIm150.1 79 8
            have f159 : m150 79 8 = m142 79 8 := kD_150 79 8 (by omega)
            have tk160 : zY m0 m150 := zY_tr tk148 kY_150
            have tk161 : zD9 (fun p i => (p = 79 ∧ (10 ≤ i ∧ i ≤ 12)) ∨ p = 89 ∨ p = 91) m0 m150 := zD9_tr tk149 (zD9_mo kD_150 (fun p i w => by have w2 : p = 79 ∧ (10 ≤ i ∧ i ≤ 12) := w; show (p = 79 ∧ (10 ≤ i ∧ i ≤ 12)) ∨ p = 89 ∨ p = 91; omega))
            refine zW.step (st1 := (7, [(some (.ref 79)), (some (.int (Int32.ofInt p))), (some (.int (Int32.ofInt (x2 + 1))))], [], zk c m150)) (st2 := (7, [(some (.ref 79)), (some (.int (Int32.ofInt p))), (some (.int (Int32.ofInt (x2 + 1))))], [], zk c m150)) ⟨[zo, zo], _, rfl, ⟨trivial, trivial, trivial⟩⟩ rfl ?_
            exact ih _ (by omega) (x2 + 1) m150 hIm150 (by omega) (by omega) (by omega) (by omega) (by omega) (by omega) (by exact zwy_m3 J (by omega) jz (by omega) (by omega) (zwr_s (by rw [(show m150 89 = m142 89 from funext fun i => kD_150 89 i (by omega)), hm142, zup_o (by decide), hm132, zvu_up]; exact zvuc (by omega) (by omega)) (by omega)) (by omega) (by omega)) (by rw [show m150 79 10 = znx (zbT mC) (mC 79 6) (((m 79 10)) + 1) by omega]; exact znx_i (by omega) (by omega)) (by intro i hi; rw [(show m150 89 = m142 89 from funext fun i => kD_150 89 i (by omega)), hm142, zup_o (by decide), hm132, zm_ne (Or.inr (by omega))]; exact J6 i hi) (by rw [(show m150 91 = m142 91 from funext fun i => kD_150 91 i (by omega)), hm142, zup_o (by decide), hm132, zup_o (by decide)]; exact J9) tk160 tk161 rfl
          · refine zW.step (st1 := (42, [(some (.ref 79)), (some (.int (Int32.ofInt p))), (some (.int (Int32.ofInt x2)))], [], zk c m)) (st2 := (42, [(some (.ref 79)), (some (.int (Int32.ofInt p))), (some (.int (Int32.ofInt x2)))], [], zk c m)) ⟨[zo, zo, zo, zo], _, rfl, ⟨trivial, trivial, trivial, zbf (fun q => b130 ((zi_lt (Eq.trans (zi_sub rfl (by decide : (Int8.ofInt 48).toInt32 = Int32.ofInt 48)) (zw_eq _)) rfl (by unfold zR; omega) (⟨by decide, by decide⟩ : zR 5)).mp q)), trivial⟩⟩ rfl ?_
            have q42 : (zwz (zbT mC) (mC 79 6) a9).1 = 0 ∧ (zwz (zbT mC) (mC 79 6) a9).2.1 = m 79 10 := by first | (have e := zwy_m1 J (by omega) jz (by omega); exact ⟨e.1 (by omega), e.2.2.1⟩) | exact zwy_m2 J (by omega) jz (by omega) (by omega)
            refine zW.step (st1 := (43, [(some (.ref 79)), (some (.int (Int32.ofInt p))), (some (.int (Int32.ofInt x2)))], [.ref 79], zk c m)) (st2 := (43, [(some (.ref 79)), (some (.int (Int32.ofInt p))), (some (.int (Int32.ofInt x2)))], [.ref 79], zk c m)) ⟨[zo], _, rfl, ⟨trivial, trivial⟩⟩ rfl ?_
            obtain ⟨r163, m163, hs163, hIm163, q_163, f_163, p_163, t5_163, d9_163, kY_163, kD_163⟩ := S_X12_fails_H zn (d + 0) hN hC (m 79 10) m hIm (by omega) (by omega)
            subst q_163
            refine zW.step (st1 := (46, [(some (.ref 79)), (some (.int (Int32.ofInt p))), (some (.int (Int32.ofInt x2)))], [.int (Int32.ofInt 0)], zk c m163)) ⟨[zc (some (.int (Int32.ofInt 0))) (zk c m163)], _, rfl, ⟨⟨⟨(Nat.lt_of_lt_of_le (Nat.le_of_ble_eq_true rfl) hN), (Nat.le_of_ble_eq_true rfl)⟩, hs163, (Nat.le_of_ble_eq_true rfl), Nat.le_refl _, Nat.le_refl _, Nat.le_refl _, Nat.le_refl _⟩, trivial⟩⟩ rfl ?_
            have f164 : (0 : Int) ≤ m163 79 9 ∧ m163 79 9 ≤ 240 := hIm163.1 79 9
            have f165 : m163 79 9 = m 79 9 := kD_163 79 9 (by omega)
            have f166 : (0 : Int) ≤ m163 79 10 ∧ m163 79 10 ≤ 241 := hIm163.1 79 10
            have f167 : (-2147483648 : Int) ≤ m163 79 11 ∧ m163 79 11 ≤ 2147483647 := hIm163.1 79 11
            have f168 : (0 : Int) ≤ m163 79 12 ∧ m163 79 12 ≤ 6 := hIm163.1 79 12
            have f169 : (80 : Int) ≤ m163 79 5 ∧ m163 79 5 ≤ 81 := hIm163.1 79 5
            have f170 : m163 79 5 = m 79 5 := kD_163 79 5 (by omega)
            have f171 : (0 : Int) ≤ m163 79 8 ∧ m163 79 8 ≤ 720 := hIm163.1 79 8
            have f172 : m163 79 8 = m 79 8 := kD_163 79 8 (by omega)
            have tk173 : zY m0 m163 := zY_tr tY kY_163
            have tk174 : zD9 (fun p i => (p = 79 ∧ (10 ≤ i ∧ i ≤ 12)) ∨ p = 89 ∨ p = 91) m0 m163 := zD9_tr tD (zD9_mo kD_163 (fun p i w => by have w2 : p = 79 ∧ (10 ≤ i ∧ i ≤ 12) := w; show (p = 79 ∧ (10 ≤ i ∧ i ≤ 12)) ∨ p = 89 ∨ p = 91; omega))
            refine zW.step (st1 := (47, [(some (.ref 79)), (some (.int (Int32.ofInt p))), (some (.int (Int32.ofInt x2)))], [], zk c m163)) (st2 := (47, [(some (.ref 79)), (some (.int (Int32.ofInt p))), (some (.int (Int32.ofInt x2)))], [], zk c m163)) ⟨[zo], _, rfl, ⟨trivial, trivial⟩⟩ rfl ?_
            exact zW.fin (zfin_v rfl rfl) (KR _ _ ⟨m163, rfl, rfl, hIm163, (by omega), (by omega), (by omega), (by intro h; exfalso; omega), (by intro i hi; rw [kD_163 89 i (by omega)]; exact J6 i hi), (by omega), (by omega), tk173, tk174⟩)

set_option maxRecDepth 100000 in
set_option maxHeartbeats 4000000 in
theorem S_X12_readWay_F (zn : Bool) (d : Nat) {c : Nat × Nat} {mC : zM} {t9 : Int} {e9 : Nat} (hN : 107 ≤ c.1) (hC : c.1 < z_RO) (p : Int) (a9 : Int) (m : zM) (hIm : zJ mC t9 e9 m) (r_p : -2147483648 ≤ p ∧ p ≤ 2147483647) (hp : 0 ≤ p ∧ p ≤ 5) (ha9 : m 79 10 = a9) (hb9 : 0 ≤ a9 ∧ a9 ≤ mC 79 6) (ht5 : m 79 5 = 80 ∧ m 79 8 = 0 ∧ m 79 9 = mC 79 6) (hf9 : m 79 11 = -1) : zCv zn (d + 2) 270 [.ref 79, .int (Int32.ofInt p)] c m (fun (m1 : zM) => zJ mC t9 e9 m1 ∧ (m 79 10 ≤ m1 79 10) ∧ (m1 79 9 = m 79 9) ∧ (((zwz (zbT mC) (mC 79 6) a9).1 = 0 ∧ m1 79 11 = (zwz (zbT mC) (mC 79 6) a9).2.1) ∨ ((zwz (zbT mC) (mC 79 6) a9).1 ≠ 0 ∧ m1 79 11 = -1 ∧ m1 79 10 = (zwz (zbT mC) (mC 79 6) a9).2.1)) ∧ (m1 79 11 = -1 → m1 91 = zvu (m 91) (p).toNat ((zwz (zbT mC) (mC 79 6) a9).2.2.1 : Int) ∧ (zwz (zbT mC) (mC 79 6) a9).2.2.1 ≤ 8 ∧ ∀ j : Nat, j < (zwz (zbT mC) (mC 79 6) a9).2.2.1 → m1 89 (8 * (p).toNat + j) = (zwz (zbT mC) (mC 79 6) a9).2.2.2 j) ∧ (∀ i : Nat, i < 8 * (p).toNat ∨ 8 * (p).toNat + 8 ≤ i → m1 89 i = m 89 i) ∧ (a9 ≤ m1 79 10 ∧ m1 79 10 ≤ mC 79 6) ∧ (m1 79 5 = 80 ∧ m1 79 8 = 0 ∧ m1 79 9 = mC 79 6) ∧ zY m m1 ∧ zD9 (fun p i => (p = 79 ∧ (10 ≤ i ∧ i ≤ 12)) ∨ p = 89 ∨ p = 91) m m1) := by
  refine zCv.of zu_X12_readWay hC (Nat.le_of_ble_eq_true rfl) ?_
  show zW zn (d + 1) 270 c (0, [(some (.ref 79)), (some (.int (Int32.ofInt p))), none], [], zk c m) (fun v h1 => ∃ (m1 : zM), v = none ∧ h1 = zk c m1 ∧ zJ mC t9 e9 m1 ∧ (m 79 10 ≤ m1 79 10) ∧ (m1 79 9 = m 79 9) ∧ (((zwz (zbT mC) (mC 79 6) a9).1 = 0 ∧ m1 79 11 = (zwz (zbT mC) (mC 79 6) a9).2.1) ∨ ((zwz (zbT mC) (mC 79 6) a9).1 ≠ 0 ∧ m1 79 11 = -1 ∧ m1 79 10 = (zwz (zbT mC) (mC 79 6) a9).2.1)) ∧ (m1 79 11 = -1 → m1 91 = zvu (m 91) (p).toNat ((zwz (zbT mC) (mC 79 6) a9).2.2.1 : Int) ∧ (zwz (zbT mC) (mC 79 6) a9).2.2.1 ≤ 8 ∧ ∀ j : Nat, j < (zwz (zbT mC) (mC 79 6) a9).2.2.1 → m1 89 (8 * (p).toNat + j) = (zwz (zbT mC) (mC 79 6) a9).2.2.2 j) ∧ (∀ i : Nat, i < 8 * (p).toNat ∨ 8 * (p).toNat + 8 ≤ i → m1 89 i = m 89 i) ∧ (a9 ≤ m1 79 10 ∧ m1 79 10 ≤ mC 79 6) ∧ (m1 79 5 = 80 ∧ m1 79 8 = 0 ∧ m1 79 9 = mC 79 6) ∧ zY m m1 ∧ zD9 (fun p i => (p = 79 ∧ (10 ≤ i ∧ i ≤ 12)) ∨ p = 89 ∨ p = 91) m m1)
  have f175 : (0 : Int) ≤ m 79 9 ∧ m 79 9 ≤ 240 := hIm.1 79 9
  have f176 : (0 : Int) ≤ m 79 10 ∧ m 79 10 ≤ 241 := hIm.1 79 10
  have f177 : (-2147483648 : Int) ≤ m 79 11 ∧ m 79 11 ≤ 2147483647 := hIm.1 79 11
  have f178 : (0 : Int) ≤ m 79 12 ∧ m 79 12 ≤ 6 := hIm.1 79 12
  have f179 : (80 : Int) ≤ m 79 5 ∧ m 79 5 ≤ 81 := hIm.1 79 5
  have f180 : (0 : Int) ≤ m 79 8 ∧ m 79 8 ≤ 720 := hIm.1 79 8
  have q181 := zn_m hIm
  refine zW.step (st1 := (3, [(some (.ref 79)), (some (.int (Int32.ofInt p))), (some (.int (Int32.ofInt 0)))], [.ref 79], zk c m)) (st2 := (3, [(some (.ref 79)), (some (.int (Int32.ofInt p))), (some (.int (Int32.ofInt 0)))], [.ref 79], zk c m)) ⟨[zo, zo, zo], _, rfl, ⟨trivial, trivial, trivial, trivial⟩⟩ rfl ?_
  obtain ⟨r182, m182, hs182, hIm182, z_182, f_182, p_182, b_182, l_182, t5_182, f9_182, d9_182, kY_182, kD_182⟩ := S_X12_look_H zn (d + 0) hN hC a9 m hIm (by omega) (by omega) (by omega)
  refine zW.step (st1 := (6, [(some (.ref 79)), (some (.int (Int32.ofInt p))), (some (.int (Int32.ofInt 0)))], [.int (Int32.ofInt r182)], zk c m182)) ⟨[zc (some (.int (Int32.ofInt r182))) (zk c m182)], _, rfl, ⟨⟨⟨(Nat.lt_of_lt_of_le (Nat.le_of_ble_eq_true rfl) hN), (Nat.le_of_ble_eq_true rfl)⟩, hs182, (Nat.le_of_ble_eq_true rfl), Nat.le_refl _, Nat.le_refl _, Nat.le_refl _, Nat.le_refl _⟩, trivial⟩⟩ rfl ?_
  have f183 : (0 : Int) ≤ m182 79 9 ∧ m182 79 9 ≤ 240 := hIm182.1 79 9
  have f184 : m182 79 9 = m 79 9 := kD_182 79 9 (by omega)
  have f185 : (0 : Int) ≤ m182 79 10 ∧ m182 79 10 ≤ 241 := hIm182.1 79 10
  have f186 : (-2147483648 : Int) ≤ m182 79 11 ∧ m182 79 11 ≤ 2147483647 := hIm182.1 79 11
  have f187 : (0 : Int) ≤ m182 79 12 ∧ m182 79 12 ≤ 6 := hIm182.1 79 12
  have f188 : (80 : Int) ≤ m182 79 5 ∧ m182 79 5 ≤ 81 := hIm182.1 79 5
  have f189 : m182 79 5 = m 79 5 := kD_182 79 5 (by omega)
  have f190 : (0 : Int) ≤ m182 79 8 ∧ m182 79 8 ≤ 720 := hIm182.1 79 8
  have f191 : m182 79 8 = m 79 8 := kD_182 79 8 (by omega)
  have tk192 : zY m m182 := zY_tr zY_rf kY_182
  have tk193 : zD9 (fun p i => (p = 79 ∧ (10 ≤ i ∧ i ≤ 12)) ∨ p = 89 ∨ p = 91) m m182 := zD9_tr zD9_rf (zD9_mo kD_182 (fun p i w => by have w2 : p = 79 ∧ (10 ≤ i ∧ i ≤ 12) := w; show (p = 79 ∧ (10 ≤ i ∧ i ≤ 12)) ∨ p = 89 ∨ p = 91; omega))
  refine zW.step (st1 := (7, [(some (.ref 79)), (some (.int (Int32.ofInt p))), (some (.int (Int32.ofInt 0)))], [], zk c m182)) (st2 := (7, [(some (.ref 79)), (some (.int (Int32.ofInt p))), (some (.int (Int32.ofInt 0)))], [], zk c m182)) ⟨[zo], _, rfl, ⟨trivial, trivial⟩⟩ rfl ?_
  exact L_X12_readWay_F_7 zn _ hN hC p a9 r_p hp hb9 m _ (fun v9 h9 hq9 => hq9) _ 0 m182 hIm182 (by omega) (by omega) (by omega) (by omega) (by omega) (by omega) (by rw [zwr_0, show m182 79 10 = znx (zbT mC) (mC 79 6) a9 by omega]; exact (zwy_nx 8 0 a9 _ (by omega) (by omega)).symm) (by rw [show m182 79 10 = znx (zbT mC) (mC 79 6) a9 by omega]; exact znx_i (by omega) (by omega)) (by intro i _; rw [(show m182 89 = m 89 from funext fun i => kD_182 89 i (by omega))]) (by rw [(show m182 91 = m 91 from funext fun i => kD_182 91 i (by omega))]) tk192 tk193 rfl

