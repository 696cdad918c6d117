/-! texts, by program (wip/tools/gw5): X12_readWay_F -/
set_option maxRecDepth 100000 in
set_option maxHeartbeats 4000000 in
theorem L_X12_readWay_F_7 (zn : Bool) (d : Nat) {c : Nat × Nat} {mC : zM} {t9 : Int} {e9 : Nat} (hN : 107 ≤ c.1) (hC : c.1 < z_RO) (p : Int) (a9 : Int) (r_p : -2147483648 ≤ p ∧ p ≤ 2147483647) (hp : 0 ≤ p ∧ p ≤ 5) (hb9 : 0 ≤ a9 ∧ a9 ≤ mC 79 6) (m0 : zM) (Q : Option Value → z_H → Prop) (KR : ∀ v h1, (fun v h1 => ∃ (m1 : zM), v = none ∧ h1 = zk c m1 ∧ zJ mC t9 e9 m1 ∧ (m0 79 10 ≤ m1 79 10) ∧ (m1 79 9 = m0 79 9) ∧ (((zwz (zbT mC) (mC 79 6) a9).1 = 0 ∧ m1 79 11 = (zwz (zbT mC) (mC 79 6) a9).2.1) ∨ ((zwz (zbT mC) (mC 79 6) a9).1 ≠ 0 ∧ m1 79 11 = -1 ∧ m1 79 10 = (zwz (zbT mC) (mC 79 6) a9).2.1)) ∧ (m1 79 11 = -1 → m1 91 = zvu (m0 91) (p).toNat ((zwz (zbT mC) (mC 79 6) a9).2.2.1 : Int) ∧ (zwz (zbT mC) (mC 79 6) a9).2.2.1 ≤ 8 ∧ ∀ j : Nat, j < (zwz (zbT mC) (mC 79 6) a9).2.2.1 → m1 89 (8 * (p).toNat + j) = (zwz (zbT mC) (mC 79 6) a9).2.2.2 j) ∧ (∀ i : Nat, i < 8 * (p).toNat ∨ 8 * (p).toNat + 8 ≤ i → m1 89 i = m0 89 i) ∧ (a9 ≤ m1 79 10 ∧ m1 79 10 ≤ mC 79 6) ∧ (m1 79 5 = 80 ∧ m1 79 8 = 0 ∧ m1 79 9 = mC 79 6) ∧ zY m0 m1 ∧ zD9 (fun p i => (p = 79 ∧ (10 ≤ i ∧ i ≤ 12)) ∨ p = 89 ∨ p = 91) m0 m1) v h1 → Q v h1) :
    ∀ (w : Nat) (x2 : Int) (m : zM), zJ mC t9 e9 m → 0 ≤ x2 ∧ x2 ≤ 8 → m 79 9 = m0 79 9 → m0 79 10 ≤ m 79 10 → m 79 5 = 80 ∧ m 79 8 = 0 ∧ m 79 9 = mC 79 6 → m 79 11 = -1 → a9 ≤ m 79 10 ∧ m 79 10 ≤ mC 79 6 → zwz (zbT mC) (mC 79 6) a9 = zwy (zbT mC) (mC 79 6) (9 - x2).toNat x2.toNat (m 79 10) (zwr (m 89) p x2) → znx (zbT mC) (mC 79 6) (m 79 10) = m 79 10 → (∀ i : Nat, i < 8 * p.toNat ∨ 8 * p.toNat + 8 ≤ i → m 89 i = m0 89 i) → m 91 = m0 91 → zY m0 m → zD9 (fun p i => (p = 79 ∧ (10 ≤ i ∧ i ≤ 12)) ∨ p = 89 ∨ p = 91) m0 m → w = (8 - x2).toNat → zW zn (d + 1) 270 c (7, [(some (.ref 79)), (some (.int (Int32.ofInt p))), (some (.int (Int32.ofInt x2)))], [], zk c m) Q := by
  intro w
  induction w using Nat.strongRecOn with | _ w ih => ?_
  intro x2 m hIm i1 j4 j3 t5 jf jb J jz J6 J9 tY tD hw
  have f1 : (0 : Int) ≤ m 79 9 ∧ m 79 9 ≤ 240 := hIm.1 79 9
  have f2 : (0 : Int) ≤ m 79 10 ∧ m 79 10 ≤ 241 := hIm.1 79 10
  have f3 : (-2147483648 : Int) ≤ m 79 11 ∧ m 79 11 ≤ 2147483647 := hIm.1 79 11
  have f4 : (0 : Int) ≤ m 79 12 ∧ m 79 12 ≤ 6 := hIm.1 79 12
  have f5 : (80 : Int) ≤ m 79 5 ∧ m 79 5 ≤ 81 := hIm.1 79 5
  have f6 : (0 : Int) ≤ m 79 8 ∧ m 79 8 ≤ 720 := hIm.1 79 8
  have q7 := zn_m hIm
  by_cases b8 : x2 = 0
  · refine zW.step (st1 := (18, [(some (.ref 79)), (some (.int (Int32.ofInt p))), (some (.int (Int32.ofInt x2)))], [], zk c m)) (st2 := (18, [(some (.ref 79)), (some (.int (Int32.ofInt p))), (some (.int (Int32.ofInt x2)))], [], zk c m)) ⟨[zo, zt], _, rfl, ⟨trivial, zbt ((zi_eq rfl (rfl : (0 : Int32) = Int32.ofInt 0) (by unfold zR; omega) (⟨by decide, by decide⟩ : zR 0)).mpr b8), trivial⟩⟩ rfl ?_
    refine zW.step (st1 := (19, [(some (.ref 79)), (some (.int (Int32.ofInt p))), (some (.int (Int32.ofInt x2)))], [.ref 79], zk c m)) (st2 := (19, [(some (.ref 79)), (some (.int (Int32.ofInt p))), (some (.int (Int32.ofInt x2)))], [.ref 79], zk c m)) ⟨[zo], _, rfl, ⟨trivial, trivial⟩⟩ rfl ?_
    obtain ⟨r9, hs9, z_9, f_9⟩ := S_X12_isDigit_F zn (d + 0) hN hC (m 79 10) m hIm (by omega) (by omega)
    refine zW.step (st1 := (22, [(some (.ref 79)), (some (.int (Int32.ofInt p))), (some (.int (Int32.ofInt x2)))], [.int (Int32.ofInt r9)], zk c m)) ⟨[zc (some (.int (Int32.ofInt r9))) (zk c m)], _, rfl, ⟨⟨⟨(Nat.lt_of_lt_of_le (Nat.le_of_ble_eq_true rfl) hN), (Nat.le_of_ble_eq_true rfl)⟩, hs9, (Nat.le_of_ble_eq_true rfl), Nat.le_refl _, Nat.le_refl _, Nat.le_refl _, Nat.le_refl _⟩, trivial⟩⟩ rfl ?_
    by_cases b10 : r9 = 0
    · refine zW.step (st1 := (42, [(some (.ref 79)), (some (.int (Int32.ofInt p))), (some (.int (Int32.ofInt x2)))], [], zk c m)) (st2 := (42, [(some (.ref 79)), (some (.int (Int32.ofInt p))), (some (.int (Int32.ofInt x2)))], [], zk c m)) ⟨[zt], _, rfl, ⟨zbt ((zi_eq rfl (rfl : (0 : Int32) = Int32.ofInt 0) (by unfold zR; omega) (⟨by decide, by decide⟩ : zR 0)).mpr b10), trivial⟩⟩ rfl ?_
      have q42 : (zwz (zbT mC) (mC 79 6) a9).1 = 0 ∧ (zwz (zbT mC) (mC 79 6) a9).2.1 = m 79 10 := by first | (have e := zwy_m1 J (by omega) jz (by omega); exact ⟨e.1 (by omega), e.2.2.1⟩) | exact zwy_m2 J (by omega) jz (by omega) (by omega)
      refine zW.step (st1 := (43, [(some (.ref 79)), (some (.int (Int32.ofInt p))), (some (.int (Int32.ofInt x2)))], [.ref 79], zk c m)) (st2 := (43, [(some (.ref 79)), (some (.int (Int32.ofInt p))), (some (.int (Int32.ofInt x2)))], [.ref 79], zk c m)) ⟨[zo], _, rfl, ⟨trivial, trivial⟩⟩ rfl ?_
      obtain ⟨r12, m12, hs12, hIm12, q_12, f_12, p_12, t5_12, d9_12, kY_12, kD_12⟩ := S_X12_fails_H zn (d + 0) hN hC (m 79 10) m hIm (by omega) (by omega)
      subst q_12
      refine zW.step (st1 := (46, [(some (.ref 79)), (some (.int (Int32.ofInt p))), (some (.int (Int32.ofInt x2)))], [.int (Int32.ofInt 0)], zk c m12)) ⟨[zc (some (.int (Int32.ofInt 0))) (zk c m12)], _, rfl, ⟨⟨⟨(Nat.lt_of_lt_of_le (Nat.le_of_ble_eq_true rfl) hN), (Nat.le_of_ble_eq_true rfl)⟩, hs12, (Nat.le_of_ble_eq_true rfl), Nat.le_refl _, Nat.le_refl _, Nat.le_refl _, Nat.le_refl _⟩, trivial⟩⟩ rfl ?_
      have f13 : (0 : Int) ≤ m12 79 9 ∧ m12 79 9 ≤ 240 := hIm12.1 79 9
      have f14 : m12 79 9 = m 79 9 := kD_12 79 9 (by omega)
      have f15 : (0 : Int) ≤ m12 79 10 ∧ m12 79 10 ≤ 241 := hIm12.1 79 10
      have f16 : (-2147483648 : Int) ≤ m12 79 11 ∧ m12 79 11 ≤ 2147483647 := hIm12.1 79 11
      have f17 : (0 : Int) ≤ m12 79 12 ∧ m12 79 12 ≤ 6 := hIm12.1 79 12
      have f18 : (80 : Int) ≤ m12 79 5 ∧ m12 79 5 ≤ 81 := hIm12.1 79 5
      have f19 : m12 79 5 = m 79 5 := kD_12 79 5 (by omega)
      have f20 : (0 : Int) ≤ m12 79 8 ∧ m12 79 8 ≤ 720 := hIm12.1 79 8
      have f21 : m12 79 8 = m 79 8 := kD_12 79 8 (by omega)
      have tk22 : zY m0 m12 := zY_tr tY kY_12
      have tk23 : zD9 (fun p i => (p = 79 ∧ (10 ≤ i ∧ i ≤ 12)) ∨ p = 89 ∨ p = 91) m0 m12 := zD9_tr tD (zD9_mo kD_12 (fun p i w => by have w2 : p = 79 ∧ (10 ≤ i ∧ i ≤ 12) := w; show (p = 79 ∧ (10 ≤ i ∧ i ≤ 12)) ∨ p = 89 ∨ p = 91; omega))
      refine zW.step (st1 := (47, [(some (.ref 79)), (some (.int (Int32.ofInt p))), (some (.int (Int32.ofInt x2)))], [], zk c m12)) (st2 := (47, [(some (.ref 79)), (some (.int (Int32.ofInt p))), (some (.int (Int32.ofInt x2)))], [], zk c m12)) ⟨[zo], _, rfl, ⟨trivial, trivial⟩⟩ rfl ?_
      exact zW.fin (zfin_v rfl rfl) (KR _ _ ⟨m12, rfl, rfl, hIm12, (by omega), (by omega), (by omega), (by intro h; exfalso; omega), (by intro i hi; rw [kD_12 89 i (by omega)]; exact J6 i hi), (by omega), (by omega), tk22, tk23⟩)
    · refine zW.step (st1 := (25, [(some (.ref 79)), (some (.int (Int32.ofInt p))), (some (.int (Int32.ofInt x2)))], [], zk c m)) (st2 := (25, [(some (.ref 79)), (some (.int (Int32.ofInt p))), (some (.int (Int32.ofInt x2)))], [], zk c m)) ⟨[zo], _, rfl, ⟨zbf (fun q => b10 ((zi_eq rfl (rfl : (0 : Int32) = Int32.ofInt 0) (by unfold zR; omega) (⟨by decide, by decide⟩ : zR 0)).mp q)), trivial⟩⟩ rfl ?_
      by_cases b24 : x2 = 8
      · refine zW.step (st1 := (42, [(some (.ref 79)), (some (.int (Int32.ofInt p))), (some (.int (Int32.ofInt x2)))], [], zk c m)) (st2 := (42, [(some (.ref 79)), (some (.int (Int32.ofInt p))), (some (.int (Int32.ofInt x2)))], [], zk c m)) ⟨[zo, zo, zt], _, rfl, ⟨trivial, trivial, zbt ((zi_eq rfl (by decide : (Int8.ofInt 8).toInt32 = Int32.ofInt 8) (by unfold zR; omega) (⟨by decide, by decide⟩ : zR 8)).mpr b24), trivial⟩⟩ rfl ?_
        have q42 : (zwz (zbT mC) (mC 79 6) a9).1 = 0 ∧ (zwz (zbT mC) (mC 79 6) a9).2.1 = m 79 10 := by first | (have e := zwy_m1 J (by omega) jz (by omega); exact ⟨e.1 (by omega), e.2.2.1⟩) | exact zwy_m2 J (by omega) jz (by omega) (by omega)
        refine zW.step (st1 := (43, [(some (.ref 79)), (some (.int (Int32.ofInt p))), (some (.int (Int32.ofInt x2)))], [.ref 79], zk c m)) (st2 := (43, [(some (.ref 79)), (some (.int (Int32.ofInt p))), (some (.int (Int32.ofInt x2)))], [.ref 79], zk c m)) ⟨[zo], _, rfl, ⟨trivial, trivial⟩⟩ rfl ?_
        obtain ⟨r26, m26, hs26, hIm26, q_26, f_26, p_26, t5_26, d9_26, kY_26, kD_26⟩ := S_X12_fails_H zn (d + 0) hN hC (m 79 10) m hIm (by omega) (by omega)
        subst q_26
        refine zW.step (st1 := (46, [(some (.ref 79)), (some (.int (Int32.ofInt p))), (some (.int (Int32.ofInt x2)))], [.int (Int32.ofInt 0)], zk c m26)) ⟨[zc (some (.int (Int32.ofInt 0))) (zk c m26)], _, rfl, ⟨⟨⟨(Nat.lt_of_lt_of_le (Nat.le_of_ble_eq_true rfl) hN), (Nat.le_of_ble_eq_true rfl)⟩, hs26, (Nat.le_of_ble_eq_true rfl), Nat.le_refl _, Nat.le_refl _, Nat.le_refl _, Nat.le_refl _⟩, trivial⟩⟩ rfl ?_
        have f27 : (0 : Int) ≤ m26 79 9 ∧ m26 79 9 ≤ 240 := hIm26.1 79 9
        have f28 : m26 79 9 = m 79 9 := kD_26 79 9 (by omega)
        have f29 : (0 : Int) ≤ m26 79 10 ∧ m26 79 10 ≤ 241 := hIm26.1 79 10
        have f30 : (-2147483648 : Int) ≤ m26 79 11 ∧ m26 79 11 ≤ 2147483647 := hIm26.1 79 11
        have f31 : (0 : Int) ≤ m26 79 12 ∧ m26 79 12 ≤ 6 := hIm26.1 79 12
        have f32 : (80 : Int) ≤ m26 79 5 ∧ m26 79 5 ≤ 81 := hIm26.1 79 5
        have f33 : m26 79 5 = m 79 5 := kD_26 79 5 (by omega)
        have f34 : (0 : Int) ≤ m26 79 8 ∧ m26 79 8 ≤ 720 := hIm26.1 79 8
        have f35 : m26 79 8 = m 79 8 := kD_26 79 8 (by omega)
        have tk36 : zY m0 m26 := zY_tr tY kY_26
        have tk37 : zD9 (fun p i => (p = 79 ∧ (10 ≤ i ∧ i ≤ 12)) ∨ p = 89 ∨ p = 91) m0 m26 := zD9_tr tD (zD9_mo kD_26 (fun p i w => by have w2 : p = 79 ∧ (10 ≤ i ∧ i ≤ 12) := w; show (p = 79 ∧ (10 ≤ i ∧ i ≤ 12)) ∨ p = 89 ∨ p = 91; omega))
        refine zW.step (st1 := (47, [(some (.ref 79)), (some (.int (Int32.ofInt p))), (some (.int (Int32.ofInt x2)))], [], zk c m26)) (st2 := (47, [(some (.ref 79)), (some (.int (Int32.ofInt p))), (some (.int (Int32.ofInt x2)))], [], zk c m26)) ⟨[zo], _, rfl, ⟨trivial, trivial⟩⟩ rfl ?_
        exact zW.fin (zfin_v rfl rfl) (KR _ _ ⟨m26, rfl, rfl, hIm26, (by omega), (by omega), (by omega), (by intro h; exfalso; omega), (by intro i hi; rw [kD_26 89 i (by omega)]; exact J6 i hi), (by omega), (by omega), tk36, tk37⟩)
      · refine zW.step (st1 := (31, [(some (.ref 79)), (some (.int (Int32.ofInt p))), (some (.int (Int32.ofInt x2)))], [], zk c m)) (st2 := (31, [(some (.ref 79)), (some (.int (Int32.ofInt p))), (some (.int (Int32.ofInt x2)))], [], zk c m)) ⟨[zo, zo, zo], _, rfl, ⟨trivial, trivial, zbf (fun q => b24 ((zi_eq rfl (by decide : (Int8.ofInt 8).toInt32 = Int32.ofInt 8) (by unfold zR; omega) (⟨by decide, by decide⟩ : zR 8)).mp q)), trivial⟩⟩ rfl ?_
        refine zW.step (st1 := (32, [(some (.ref 79)), (some (.int (Int32.ofInt p))), (some (.int (Int32.ofInt x2)))], [.ref 79], zk c m)) (st2 := (32, [(some (.ref 79)), (some (.int (Int32.ofInt p))), (some (.int (Int32.ofInt x2)))], [.ref 79], zk c m)) ⟨[zo], _, rfl, ⟨trivial, trivial⟩⟩ rfl ?_
        obtain ⟨r38, hs38, z_38, f_38⟩ := S_X12_here_F zn (d + 0) hN hC (m 79 10) m hIm (by omega) (by omega)
        refine zW.step (st1 := (35, [(some (.ref 79)), (some (.int (Int32.ofInt p))), (some (.int (Int32.ofInt x2)))], [.int (Int32.ofInt r38)], zk c m)) ⟨[zc (some (.int (Int32.ofInt r38))) (zk c m)], _, rfl, ⟨⟨⟨(Nat.lt_of_lt_of_le (Nat.le_of_ble_eq_true rfl) hN), (Nat.le_of_ble_eq_true rfl)⟩, hs38, (Nat.le_of_ble_eq_true rfl), Nat.le_refl _, Nat.le_refl _, Nat.le_refl _, Nat.le_refl _⟩, trivial⟩⟩ rfl ?_
        have f39 := zwR (r38 - 48)
        have f40 := zwI (r38 - 48)
        by_cases b41 : (zw (r38 - 48)) < 5
        · refine zW.step (st1 := (48, [(some (.ref 79)), (some (.int (Int32.ofInt p))), (some (.int (Int32.ofInt x2)))], [], zk c m)) (st2 := (48, [(some (.ref 79)), (some (.int (Int32.ofInt p))), (some (.int (Int32.ofInt x2)))], [], zk c m)) ⟨[zo, zo, zo, zt], _, rfl, ⟨trivial, trivial, trivial, zbt ((zi_lt (Eq.trans (zi_sub rfl (by decide : (Int8.ofInt 48).toInt32 = Int32.ofInt 48)) (zw_eq _)) rfl (by unfold zR; omega) (⟨by decide, by decide⟩ : zR 5)).mpr b41), trivial⟩⟩ rfl ?_
          have hlt : m 79 10 < mC 79 6 := zpk_l2 (b := zbT mC) (by omega)
          refine zW.step (st1 := (59, [(some (.ref 79)), (some (.int (Int32.ofInt p))), (some (.int (Int32.ofInt x2)))], [.ref 79, .int ((((Int8.ofInt 8).toInt32) * (Int32.ofInt p)) + (Int32.ofInt x2)), .ref 89], zk c m)) (st2 := (59, [(some (.ref 79)), (some (.int (Int32.ofInt p))), (some (.int (Int32.ofInt x2)))], [.ref 79, .int (Int32.ofInt ((8 * p) + x2)), .ref 89], zk c m)) ⟨[zo, zo, zo, zo, zo, zo, zo, zo], _, rfl, ⟨trivial, (Nat.lt_of_lt_of_le (Nat.le_of_ble_eq_true rfl) hN), trivial, trivial, trivial, trivial, trivial, trivial, trivial⟩⟩ (z_steq rfl (z_c1 rfl (z_c1 (z_vi (zi_add (zi_mul (by decide : (Int8.ofInt 8).toInt32 = Int32.ofInt 8) rfl) rfl)) rfl)) rfl) ?_
          obtain ⟨r43, hs43, z_43, f_43⟩ := S_X12_here_F zn (d + 0) hN hC (m 79 10) m hIm (by omega) (by omega)
          refine zW.step (st1 := (62, [(some (.ref 79)), (some (.int (Int32.ofInt p))), (some (.int (Int32.ofInt x2)))], [.int (Int32.ofInt r43), .int (Int32.ofInt ((8 * p) + x2)), .ref 89], zk c m)) ⟨[zc (some (.int (Int32.ofInt r43))) (zk c m)], _, rfl, ⟨⟨⟨(Nat.lt_of_lt_of_le (Nat.le_of_ble_eq_true rfl) hN), (Nat.le_of_ble_eq_true rfl)⟩, hs43, (Nat.le_of_ble_eq_true rfl), Nat.le_refl _, Nat.le_refl _, Nat.le_refl _, Nat.le_refl _⟩, trivial⟩⟩ rfl ?_
          obtain ⟨m44, hm44⟩ : ∃ q, q = zm_up m 89 (((8 * p) + x2).toNat) (r43 - 48) := ⟨_, rfl⟩
          have hIm44 := zJ_upE hIm hm44 (zOj_p (by decide)) (show (0 : Int) ≤ (r43 - 48) ∧ (r43 - 48) ≤ 4 by omega)
          have em44 : m44 89 (((8 * p) + x2).toNat) = (r43 - 48) := by rw [hm44]; exact zm_eq
          have f45 : m44 79 9 = m 79 9 := by rw [hm44]; exact zm_ne (Or.inl (by decide))
          have f46 : m44 79 10 = m 79 10 := by rw [hm44]; exact zm_ne (Or.inl (by decide))
          have f47 : m44 79 11 = m 79 11 := by rw [hm44]; exact zm_ne (Or.inl (by decide))
          have f48 : m44 79 12 = m 79 12 := by rw [hm44]; exact zm_ne (Or.inl (by decide))
          have f49 : m44 79 5 = m 79 5 := by rw [hm44]; exact zm_ne (Or.inl (by decide))
          have f50 : m44 79 8 = m 79 8 := by rw [hm44]; exact zm_ne (Or.inl (by decide))
          have tk51 : zY m0 m44 := by rw [hm44]; exact zY_up tY (zYs_p (by decide))
          have tk52 : zD9 (fun p i => (p = 79 ∧ (10 ≤ i ∧ i ≤ 12)) ∨ p = 89 ∨ p = 91) m0 m44 := by rw [hm44]; exact zD9_up tD (by first | rfl | omega | (dsimp only; omega))
          refine zW.step (st1 := (66, [(some (.ref 79)), (some (.int (Int32.ofInt p))), (some (.int (Int32.ofInt x2)))], [], z_hup (zk c m) 89 (.inl (0, 48, .inl (upd (fun j => Int32.ofInt (m 89 j)) (Int32.ofInt ((8 * p) + x2)).toNatClampNeg ((Int32.ofInt r43) - ((Int8.ofInt 48).toInt32))))))) (st2 := (66, [(some (.ref 79)), (some (.int (Int32.ofInt p))), (some (.int (Int32.ofInt x2)))], [], zk c m44)) ⟨[zo, zo, (false, 0, none, zh0, some (.inl (0, 48, .inl (fun j => Int32.ofInt (m 89 j)))))], _, rfl, ⟨trivial, trivial, ⟨zk_ra c m zA_89 (Nat.lt_of_lt_of_le (Nat.le_of_ble_eq_true rfl) hN), zi_in rfl (by omega) (by omega) (by omega)⟩, trivial⟩⟩ (z_steq rfl rfl ((zk_ias c m zA_89 rfl (by unfold zR; omega) (zi_sub rfl (by decide : (Int8.ofInt 48).toInt32 = Int32.ofInt 48))).trans (by rw [hm44]))) ?_
          have f53 : (0 : Int) ≤ m44 79 10 ∧ m44 79 10 ≤ 241 := hIm44.1 79 10
          obtain ⟨m54, hm54⟩ : ∃ q, q = zm_up m44 79 10 ((m44 79 10) + 1) := ⟨_, rfl⟩
          have hIm54 := zJ_upE hIm44 hm54 (zOj_79 (by decide)) (show (0 : Int) ≤ ((m44 79 10) + 1) ∧ ((m44 79 10) + 1) ≤ 241 by omega)
          have em54 : m54 79 10 = ((m44 79 10) + 1) := by rw [hm54]; exact zm_eq
          have f55 : m54 79 9 = m44 79 9 := by rw [hm54]; exact zm_ne (Or.inr (by decide))
          have f56 : m54 79 11 = m44 79 11 := by rw [hm54]; exact zm_ne (Or.inr (by decide))
          have f57 : m54 79 12 = m44 79 12 := by rw [hm54]; exact zm_ne (Or.inr (by decide))
          have f58 : m54 79 5 = m44 79 5 := by rw [hm54]; exact zm_ne (Or.inr (by decide))
          have f59 : m54 79 8 = m44 79 8 := by rw [hm54]; exact zm_ne (Or.inr (by decide))
          have tk60 : zY m0 m54 := by rw [hm54]; exact zY_up tk51 (zYs_79 (by decide))
          have tk61 : zD9 (fun p i => (p = 79 ∧ (10 ≤ i ∧ i ≤ 12)) ∨ p = 89 ∨ p = 91) m0 m54 := by rw [hm54]; exact zD9_up tk52 (by first | rfl | omega | (dsimp only; omega))
          clear tk51 tk52
          refine zW.step (st1 := (79, [(some (.ref 79)), (some (.int (Int32.ofInt p))), (some (.int ((Int32.ofInt x2) + Int32.ofInt 1)))], [], z_hup (zk c m44) 79 (.inr (12, (.int (Int32.ofInt (m44 79 0)) :: .ref 80 :: .ref 81 :: .ref 82 :: .ref 83 :: zm_rf (m44 79 5) :: .int (Int32.ofInt (m44 79 6)) :: .int (Int32.ofInt (m44 79 7)) :: .int (Int32.ofInt (m44 79 8)) :: .int (Int32.ofInt (m44 79 9)) :: .int ((Int32.ofInt (m44 79 10)) + (Int32.ofInt 1)) :: .int (Int32.ofInt (m44 79 11)) :: .int (Int32.ofInt (m44 79 12)) :: .int (Int32.ofInt (m44 79 13)) :: .int (Int32.ofInt (m44 79 14)) :: .ref (z_RO + 5) :: .ref (z_RO + 3) :: .int (Int32.ofInt (m44 79 17)) :: .ref 84 :: .ref 85 :: .ref 86 :: .ref 87 :: .ref 88 :: .ref 89 :: .ref 90 :: .ref 91 :: .int (Int32.ofInt (m44 79 26)) :: .int (Int32.ofInt (m44 79 27)) :: .int (Int32.ofInt (m44 79 28)) :: .int (Int32.ofInt (m44 79 29)) :: .int (Int32.ofInt (m44 79 30)) :: .ref 92 :: .ref 93 :: .int (Int32.ofInt (m44 79 33)) :: .int (Int32.ofInt (m44 79 34)) :: .ref 94 :: .ref 95 :: .int (Int32.ofInt (m44 79 37)) :: .int (Int32.ofInt (m44 79 38)) :: .int (Int32.ofInt (m44 79 39)) :: .int (Int32.ofInt (m44 79 40)) :: .int (Int32.ofInt (m44 79 41)) :: .int (Int32.ofInt (m44 79 42)) :: .ref 96 :: .ref 97 :: .ref 98 :: .ref 99 :: .ref 100 :: .int (Int32.ofInt (m44 79 48)) :: .int (Int32.ofInt (m44 79 49)) :: .long (Int64.ofInt (m44 79 50)) :: .ref 101 :: .ref 102 :: .int (Int32.ofInt (m44 79 53)) :: .ref 103 :: .ref 104 :: .ref 105 :: .int (Int32.ofInt (m44 79 57)) :: []))))) (st2 := (79, [(some (.ref 79)), (some (.int (Int32.ofInt p))), (some (.int (Int32.ofInt (x2 + 1))))], [], zk c m54)) ⟨[zo, zo, zo, zo, zo, zo, zo], _, rfl, ⟨trivial, trivial, trivial, (Nat.lt_of_lt_of_le (Nat.le_of_ble_eq_true rfl) hN), trivial, trivial, ⟨(Nat.lt_of_lt_of_le (Nat.le_of_ble_eq_true rfl) hN), rfl, rfl⟩, trivial⟩⟩ (z_steq (z_c1 rfl (z_c1 rfl (z_c1 (z_si (zi_add rfl rfl)) rfl))) rfl ((zk_up c m44 79 10 ((m44 79 10) + 1) _ ((congrArg (fun q => (.inr (12, (.int (Int32.ofInt (m44 79 0)) :: .ref 80 :: .ref 81 :: .ref 82 :: .ref 83 :: zm_rf (m44 79 5) :: .int (Int32.ofInt (m44 79 6)) :: .int (Int32.ofInt (m44 79 7)) :: .int (Int32.ofInt (m44 79 8)) :: .int (Int32.ofInt (m44 79 9)) :: .int q :: .int (Int32.ofInt (m44 79 11)) :: .int (Int32.ofInt (m44 79 12)) :: .int (Int32.ofInt (m44 79 13)) :: .int (Int32.ofInt (m44 79 14)) :: .ref (z_RO + 5) :: .ref (z_RO + 3) :: .int (Int32.ofInt (m44 79 17)) :: .ref 84 :: .ref 85 :: .ref 86 :: .ref 87 :: .ref 88 :: .ref 89 :: .ref 90 :: .ref 91 :: .int (Int32.ofInt (m44 79 26)) :: .int (Int32.ofInt (m44 79 27)) :: .int (Int32.ofInt (m44 79 28)) :: .int (Int32.ofInt (m44 79 29)) :: .int (Int32.ofInt (m44 79 30)) :: .ref 92 :: .ref 93 :: .int (Int32.ofInt (m44 79 33)) :: .int (Int32.ofInt (m44 79 34)) :: .ref 94 :: .ref 95 :: .int (Int32.ofInt (m44 79 37)) :: .int (Int32.ofInt (m44 79 38)) :: .int (Int32.ofInt (m44 79 39)) :: .int (Int32.ofInt (m44 79 40)) :: .int (Int32.ofInt (m44 79 41)) :: .int (Int32.ofInt (m44 79 42)) :: .ref 96 :: .ref 97 :: .ref 98 :: .ref 99 :: .ref 100 :: .int (Int32.ofInt (m44 79 48)) :: .int (Int32.ofInt (m44 79 49)) :: .long (Int64.ofInt (m44 79 50)) :: .ref 101 :: .ref 102 :: .int (Int32.ofInt (m44 79 53)) :: .ref 103 :: .ref 104 :: .ref 105 :: .int (Int32.ofInt (m44 79 57)) :: [])) : z_E)) (zi_add rfl rfl)).trans rfl)).trans (by rw [hm54]))) ?_
          clear em44
          refine zW.step (st1 := (80, [(some (.ref 79)), (some (.int (Int32.ofInt p))), (some (.int (Int32.ofInt (x2 + 1))))], [.ref 79], zk c m54)) (st2 := (80, [(some (.ref 79)), (some (.int (Int32.ofInt p))), (some (.int (Int32.ofInt (x2 + 1))))], [.ref 79], zk c m54)) ⟨[zo], _, rfl, ⟨trivial, trivial⟩⟩ rfl ?_
          obtain ⟨r62, m62, hs62, hIm62, z_62, f_62, p_62, b_62, l_62, t5_62, f9_62, d9_62, kY_62, kD_62⟩ := S_X12_look_H zn (d + 0) hN hC (((m 79 10)) + 1) m54 hIm54 (by omega) (by omega) (by omega)
          refine zW.step (st1 := (83, [(some (.ref 79)), (some (.int (Int32.ofInt p))), (some (.int (Int32.ofInt (x2 + 1))))], [.int (Int32.ofInt r62)], zk c m62)) ⟨[zc (some (.int (Int32.ofInt r62))) (zk c m62)], _, rfl, ⟨⟨⟨(Nat.lt_of_lt_of_le (Nat.le_of_ble_eq_true rfl) hN), (Nat.le_of_ble_eq_true rfl)⟩, hs62, (Nat.le_of_ble_eq_true rfl), Nat.le_refl _, Nat.le_refl _, Nat.le_refl _, Nat.le_refl _⟩, trivial⟩⟩ rfl ?_
          have f63 : (0 : Int) ≤ m62 79 9 ∧ m62 79 9 ≤ 240 := hIm62.1 79 9
          have f64 : m62 79 9 = m54 79 9 := kD_62 79 9 (by omega)
          have f65 : (0 : Int) ≤ m62 79 10 ∧ m62 79 10 ≤ 241 := hIm62.1 79 10
          have f66 : (-2147483648 : Int) ≤ m62 79 11 ∧ m62 79 11 ≤ 2147483647 := hIm62.1 79 11
          have f67 : (0 : Int) ≤ m62 79 12 ∧ m62 79 12 ≤ 6 := hIm62.1 79 12
          have f68 : (80 : Int) ≤ m62 79 5 ∧ m62 79 5 ≤ 81 := hIm62.1 79 5
          have f69 : m62 79 5 = m54 79 5 := kD_62 79 5 (by omega)
          have f70 : (0 : Int) ≤ m62 79 8 ∧ m62 79 8 ≤ 720 := hIm62.1 79 8
          have f71 : m62 79 8 = m54 79 8 := kD_62 79 8 (by omega)
          have tk72 : zY m0 m62 := zY_tr tk60 kY_62
          have tk73 : zD9 (fun p i => (p = 79 ∧ (10 ≤ i ∧ i ≤ 12)) ∨ p = 89 ∨ p = 91) m0 m62 := zD9_tr tk61 (zD9_mo kD_62 (fun p i w => by have w2 : p = 79 ∧ (10 ≤ i ∧ i ≤ 12) := w; show (p = 79 ∧ (10 ≤ i ∧ i ≤ 12)) ∨ p = 89 ∨ p = 91; omega))
          refine zW.step (st1 := (7, [(some (.ref 79)), (some (.int (Int32.ofInt p))), (some (.int (Int32.ofInt (x2 + 1))))], [], zk c m62)) (st2 := (7, [(some (.ref 79)), (some (.int (Int32.ofInt p))), (some (.int (Int32.ofInt (x2 + 1))))], [], zk c m62)) ⟨[zo, zo], _, rfl, ⟨trivial, trivial, trivial⟩⟩ rfl ?_
          exact ih _ (by omega) (x2 + 1) m62 hIm62 (by omega) (by omega) (by omega) (by omega) (by omega) (by omega) (by exact zwy_m3 J (by omega) jz (by omega) (by omega) (zwr_s (by rw [(show m62 89 = m54 89 from funext fun i => kD_62 89 i (by omega)), hm54, zup_o (by decide), hm44, zvu_up]; exact zvuc (by omega) (by omega)) (by omega)) (by omega) (by omega)) (by rw [show m62 79 10 = znx (zbT mC) (mC 79 6) (((m 79 10)) + 1) by omega]; exact znx_i (by omega) (by omega)) (by intro i hi; rw [(show m62 89 = m54 89 from funext fun i => kD_62 89 i (by omega)), hm54, zup_o (by decide), hm44, zm_ne (Or.inr (by omega))]; exact J6 i hi) (by rw [(show m62 91 = m54 91 from funext fun i => kD_62 91 i (by omega)), hm54, zup_o (by decide), hm44, zup_o (by decide)]; exact J9) tk72 tk73 rfl
        · refine zW.step (st1 := (42, [(some (.ref 79)), (some (.int (Int32.ofInt p))), (some (.int (Int32.ofInt x2)))], [], zk c m)) (st2 := (42, [(some (.ref 79)), (some (.int (Int32.ofInt p))), (some (.int (Int32.ofInt x2)))], [], zk c m)) ⟨[zo, zo, zo, zo], _, rfl, ⟨trivial, trivial, trivial, zbf (fun q => b41 ((zi_lt (Eq.trans (zi_sub rfl (by decide : (Int8.ofInt 48).toInt32 = Int32.ofInt 48)) (zw_eq _)) rfl (by unfold zR; omega) (⟨by decide, by decide⟩ : zR 5)).mp q)), trivial⟩⟩ rfl ?_
          have q42 : (zwz (zbT mC) (mC 79 6) a9).1 = 0 ∧ (zwz (zbT mC) (mC 79 6) a9).2.1 = m 79 10 := by first | (have e := zwy_m1 J (by omega) jz (by omega); exact ⟨e.1 (by omega), e.2.2.1⟩) | exact zwy_m2 J (by omega) jz (by omega) (by omega)
          refine zW.step (st1 := (43, [(some (.ref 79)), (some (.int (Int32.ofInt p))), (some (.int (Int32.ofInt x2)))], [.ref 79], zk c m)) (st2 := (43, [(some (.ref 79)), (some (.int (Int32.ofInt p))), (some (.int (Int32.ofInt x2)))], [.ref 79], zk c m)) ⟨[zo], _, rfl, ⟨trivial, trivial⟩⟩ rfl ?_
          obtain ⟨r75, m75, hs75, hIm75, q_75, f_75, p_75, t5_75, d9_75, kY_75, kD_75⟩ := S_X12_fails_H zn (d + 0) hN hC (m 79 10) m hIm (by omega) (by omega)
          subst q_75
          refine zW.step (st1 := (46, [(some (.ref 79)), (some (.int (Int32.ofInt p))), (some (.int (Int32.ofInt x2)))], [.int (Int32.ofInt 0)], zk c m75)) ⟨[zc (some (.int (Int32.ofInt 0))) (zk c m75)], _, rfl, ⟨⟨⟨(Nat.lt_of_lt_of_le (Nat.le_of_ble_eq_true rfl) hN), (Nat.le_of_ble_eq_true rfl)⟩, hs75, (Nat.le_of_ble_eq_true rfl), Nat.le_refl _, Nat.le_refl _, Nat.le_refl _, Nat.le_refl _⟩, trivial⟩⟩ rfl ?_
          have f76 : (0 : Int) ≤ m75 79 9 ∧ m75 79 9 ≤ 240 := hIm75.1 79 9
          have f77 : m75 79 9 = m 79 9 := kD_75 79 9 (by omega)
          have f78 : (0 : Int) ≤ m75 79 10 ∧ m75 79 10 ≤ 241 := hIm75.1 79 10
          have f79 : (-2147483648 : Int) ≤ m75 79 11 ∧ m75 79 11 ≤ 2147483647 := hIm75.1 79 11
          have f80 : (0 : Int) ≤ m75 79 12 ∧ m75 79 12 ≤ 6 := hIm75.1 79 12
          have f81 : (80 : Int) ≤ m75 79 5 ∧ m75 79 5 ≤ 81 := hIm75.1 79 5
          have f82 : m75 79 5 = m 79 5 := kD_75 79 5 (by omega)
          have f83 : (0 : Int) ≤ m75 79 8 ∧ m75 79 8 ≤ 720 := hIm75.1 79 8
          have f84 : m75 79 8 = m 79 8 := kD_75 79 8 (by omega)
          have tk85 : zY m0 m75 := zY_tr tY kY_75
          have tk86 : zD9 (fun p i => (p = 79 ∧ (10 ≤ i ∧ i ≤ 12)) ∨ p = 89 ∨ p = 91) m0 m75 := zD9_tr tD (zD9_mo kD_75 (fun p i w => by have w2 : p = 79 ∧ (10 ≤ i ∧ i ≤ 12) := w; show (p = 79 ∧ (10 ≤ i ∧ i ≤ 12)) ∨ p = 89 ∨ p = 91; omega))
          refine zW.step (st1 := (47, [(some (.ref 79)), (some (.int (Int32.ofInt p))), (some (.int (Int32.ofInt x2)))], [], zk c m75)) (st2 := (47, [(some (.ref 79)), (some (.int (Int32.ofInt p))), (some (.int (Int32.ofInt x2)))], [], zk c m75)) ⟨[zo], _, rfl, ⟨trivial, trivial⟩⟩ rfl ?_
          exact zW.fin (zfin_v rfl rfl) (KR _ _ ⟨m75, rfl, rfl, hIm75, (by omega), (by omega), (by omega), (by intro h; exfalso; omega), (by intro i hi; rw [kD_75 89 i (by omega)]; exact J6 i hi), (by omega), (by omega), tk85, tk86⟩)
  · refine zW.step (st1 := (11, [(some (.ref 79)), (some (.int (Int32.ofInt p))), (some (.int (Int32.ofInt x2)))], [], zk c m)) (st2 := (11, [(some (.ref 79)), (some (.int (Int32.ofInt p))), (some (.int (Int32.ofInt x2)))], [], zk c m)) ⟨[zo, zo], _, rfl, ⟨trivial, zbf (fun q => b8 ((zi_eq rfl (rfl : (0 : Int32) = Int32.ofInt 0) (by unfold zR; omega) (⟨by decide, by decide⟩ : zR 0)).mp q)), trivial⟩⟩ rfl ?_
    refine zW.step (st1 := (12, [(some (.ref 79)), (some (.int (Int32.ofInt p))), (some (.int (Int32.ofInt x2)))], [.ref 79], zk c m)) (st2 := (12, [(some (.ref 79)), (some (.int (Int32.ofInt p))), (some (.int (Int32.ofInt x2)))], [.ref 79], zk c m)) ⟨[zo], _, rfl, ⟨trivial, trivial⟩⟩ rfl ?_
    obtain ⟨r87, hs87, z_87, f_87⟩ := S_X12_isDigit_F zn (d + 0) hN hC (m 79 10) m hIm (by omega) (by omega)
    refine zW.step (st1 := (15, [(some (.ref 79)), (some (.int (Int32.ofInt p))), (some (.int (Int32.ofInt x2)))], [.int (Int32.ofInt r87)], zk c m)) ⟨[zc (some (.int (Int32.ofInt r87))) (zk c m)], _, rfl, ⟨⟨⟨(Nat.lt_of_lt_of_le (Nat.le_of_ble_eq_true rfl) hN), (Nat.le_of_ble_eq_true rfl)⟩, hs87, (Nat.le_of_ble_eq_true rfl), Nat.le_refl _, Nat.le_refl _, Nat.le_refl _, Nat.le_refl _⟩, trivial⟩⟩ rfl ?_
    by_cases b88 : r87 = 0
    · refine zW.step (st1 := (87, [(some (.ref 79)), (some (.int (Int32.ofInt p))), (some (.int (Int32.ofInt x2)))], [], zk c m)) (st2 := (87, [(some (.ref 79)), (some (.int (Int32.ofInt p))), (some (.int (Int32.ofInt x2)))], [], zk c m)) ⟨[zt], _, rfl, ⟨zbt ((zi_eq rfl (rfl : (0 : Int32) = Int32.ofInt 0) (by unfold zR; omega) (⟨by decide, by decide⟩ : zR 0)).mpr b88), trivial⟩⟩ rfl ?_
      have qE := zwy_m1 J (by omega) jz (by omega)
      have qE2 := qE.2.1 (by omega)
      have qE3 := qE.2.2.1
      obtain ⟨m90, hm90⟩ : ∃ q, q = zm_up m 91 p.toNat x2 := ⟨_, rfl⟩
      have hIm90 := zJ_upE hIm hm90 (zOj_p (by decide)) (show (0 : Int) ≤ x2 ∧ x2 ≤ 8 by omega)
      have em90 : m90 91 p.toNat = x2 := by rw [hm90]; exact zm_eq
      have f91 : m90 79 9 = m 79 9 := by rw [hm90]; exact zm_ne (Or.inl (by decide))
      have f92 : m90 79 10 = m 79 10 := by rw [hm90]; exact zm_ne (Or.inl (by decide))
      have f93 : m90 79 11 = m 79 11 := by rw [hm90]; exact zm_ne (Or.inl (by decide))
      have f94 : m90 79 12 = m 79 12 := by rw [hm90]; exact zm_ne (Or.inl (by decide))
      have f95 : m90 79 5 = m 79 5 := by rw [hm90]; exact zm_ne (Or.inl (by decide))
      have f96 : m90 79 8 = m 79 8 := by rw [hm90]; exact zm_ne (Or.inl (by decide))
      have tk97 : zY m0 m90 := by rw [hm90]; exact zY_up tY (zYs_p (by decide))
      have tk98 : zD9 (fun p i => (p = 79 ∧ (10 ≤ i ∧ i ≤ 12)) ∨ p = 89 ∨ p = 91) m0 m90 := by rw [hm90]; exact zD9_up tD (by first | rfl | omega | (dsimp only; omega))
      refine zW.step (st1 := (94, [(some (.ref 79)), (some (.int (Int32.ofInt p))), (some (.int (Int32.ofInt x2)))], [], z_hup (zk c m) 91 (.inl (0, 6, .inl (upd (fun j => Int32.ofInt (m 91 j)) (Int32.ofInt p).toNatClampNeg (Int32.ofInt x2)))))) (st2 := (94, [(some (.ref 79)), (some (.int (Int32.ofInt p))), (some (.int (Int32.ofInt x2)))], [], zk c m90)) ⟨[zo, zo, zo, zo, (false, 0, none, zh0, some (.inl (0, 6, .inl (fun j => Int32.ofInt (m 91 j)))))], _, rfl, ⟨trivial, (Nat.lt_of_lt_of_le (Nat.le_of_ble_eq_true rfl) hN), trivial, trivial, ⟨zk_ra c m zA_91 (Nat.lt_of_lt_of_le (Nat.le_of_ble_eq_true rfl) hN), zi_in rfl (by omega) (by omega) (by omega)⟩, trivial⟩⟩ (z_steq rfl rfl ((zk_ias c m zA_91 rfl (by unfold zR; omega) rfl).trans (by rw [hm90]))) ?_
      exact zW.fin (zfin_v rfl rfl) (KR _ _ ⟨m90, rfl, rfl, hIm90, (by omega), (by omega), (by omega), (by intro _; exact zwm_e J9 qE.2.2.2.1 qE.2.2.2.2 (by omega) hm90 (by omega)), (by intro i hi; rw [hm90, zm_ne (Or.inl (by decide))]; exact J6 i hi), (by omega), (by omega), tk97, tk98⟩)
    · refine zW.step (st1 := (18, [(some (.ref 79)), (some (.int (Int32.ofInt p))), (some (.int (Int32.ofInt x2)))], [], zk c m)) (st2 := (18, [(some (.ref 79)), (some (.int (Int32.ofInt p))), (some (.int (Int32.ofInt x2)))], [], zk c m)) ⟨[zo], _, rfl, ⟨zbf (fun q => b88 ((zi_eq rfl (rfl : (0 : Int32) = Int32.ofInt 0) (by unfold zR; omega) (⟨by decide, by decide⟩ : zR 0)).mp q)), trivial⟩⟩ rfl ?_
      refine zW.step (st1 := (19, [(some (.ref 79)), (some (.int (Int32.ofInt p))), (some (.int (Int32.ofInt x2)))], [.ref 79], zk c m)) (st2 := (19, [(some (.ref 79)), (some (.int (Int32.ofInt p))), (some (.int (Int32.ofInt x2)))], [.ref 79], zk c m)) ⟨[zo], _, rfl, ⟨trivial, trivial⟩⟩ rfl ?_
      obtain ⟨r99, hs99, z_99, f_99⟩ := S_X12_isDigit_F zn (d + 0) hN hC (m 79 10) m hIm (by omega) (by omega)
      refine zW.step (st1 := (22, [(some (.ref 79)), (some (.int (Int32.ofInt p))), (some (.int (Int32.ofInt x2)))], [.int (Int32.ofInt r99)], zk c m)) ⟨[zc (some (.int (Int32.ofInt r99))) (zk c m)], _, rfl, ⟨⟨⟨(Nat.lt_of_lt_of_le (Nat.le_of_ble_eq_true rfl) hN), (Nat.le_of_ble_eq_true rfl)⟩, hs99, (Nat.le_of_ble_eq_true rfl), Nat.le_refl _, Nat.le_refl _, Nat.le_refl _, Nat.le_refl _⟩, trivial⟩⟩ rfl ?_
      by_cases b100 : r99 = 0
      · refine zW.step (st1 := (42, [(some (.ref 79)), (some (.int (Int32.ofInt p))), (some (.int (Int32.ofInt x2)))], [], zk c m)) (st2 := (42, [(some (.ref 79)), (some (.int (Int32.ofInt p))), (some (.int (Int32.ofInt x2)))], [], zk c m)) ⟨[zt], _, rfl, ⟨zbt ((zi_eq rfl (rfl : (0 : Int32) = Int32.ofInt 0) (by unfold zR; omega) (⟨by decide, by decide⟩ : zR 0)).mpr b100), trivial⟩⟩ rfl ?_
        have q42 : (zwz (zbT mC) (mC 79 6) a9).1 = 0 ∧ (zwz (zbT mC) (mC 79 6) a9).2.1 = m 79 10 := by first | (have e := zwy_m1 J (by omega) jz (by omega); exact ⟨e.1 (by omega), e.2.2.1⟩) | exact zwy_m2 J (by omega) jz (by omega) (by omega)
        refine zW.step (st1 := (43, [(some (.ref 79)), (some (.int (Int32.ofInt p))), (some (.int (Int32.ofInt x2)))], [.ref 79], zk c m)) (st2 := (43, [(some (.ref 79)), (some (.int (Int32.ofInt p))), (some (.int (Int32.ofInt x2)))], [.ref 79], zk c m)) ⟨[zo], _, rfl, ⟨trivial, trivial⟩⟩ rfl ?_
        obtain ⟨r102, m102, hs102, hIm102, q_102, f_102, p_102, t5_102, d9_102, kY_102, kD_102⟩ := S_X12_fails_H zn (d + 0) hN hC (m 79 10) m hIm (by omega) (by omega)
        subst q_102
        refine zW.step (st1 := (46, [(some (.ref 79)), (some (.int (Int32.ofInt p))), (some (.int (Int32.ofInt x2)))], [.int (Int32.ofInt 0)], zk c m102)) ⟨[zc (some (.int (Int32.ofInt 0))) (zk c m102)], _, rfl, ⟨⟨⟨(Nat.lt_of_lt_of_le (Nat.le_of_ble_eq_true rfl) hN), (Nat.le_of_ble_eq_true rfl)⟩, hs102, (Nat.le_of_ble_eq_true rfl), Nat.le_refl _, Nat.le_refl _, Nat.le_refl _, Nat.le_refl _⟩, trivial⟩⟩ rfl ?_
        have f103 : (0 : Int) ≤ m102 79 9 ∧ m102 79 9 ≤ 240 := hIm102.1 79 9
        have f104 : m102 79 9 = m 79 9 := kD_102 79 9 (by omega)
        have f105 : (0 : Int) ≤ m102 79 10 ∧ m102 79 10 ≤ 241 := hIm102.1 79 10
        have f106 : (-2147483648 : Int) ≤ m102 79 11 ∧ m102 79 11 ≤ 2147483647 := hIm102.1 79 11
        have f107 : (0 : Int) ≤ m102 79 12 ∧ m102 79 12 ≤ 6 := hIm102.1 79 12
        have f108 : (80 : Int) ≤ m102 79 5 ∧ m102 79 5 ≤ 81 := hIm102.1 79 5
        have f109 : m102 79 5 = m 79 5 := kD_102 79 5 (by omega)
        have f110 : (0 : Int) ≤ m102 79 8 ∧ m102 79 8 ≤ 720 := hIm102.1 79 8
        have f111 : m102 79 8 = m 79 8 := kD_102 79 8 (by omega)
        have tk112 : zY m0 m102 := zY_tr tY kY_102
        have tk113 : zD9 (fun p i => (p = 79 ∧ (10 ≤ i ∧ i ≤ 12)) ∨ p = 89 ∨ p = 91) m0 m102 := zD9_tr tD (zD9_mo kD_102 (fun p i w => by have w2 : p = 79 ∧ (10 ≤ i ∧ i ≤ 12) := w; show (p = 79 ∧ (10 ≤ i ∧ i ≤ 12)) ∨ p = 89 ∨ p = 91; omega))
        refine zW.step (st1 := (47, [(some (.ref 79)), (some (.int (Int32.ofInt p))), (some (.int (Int32.ofInt x2)))], [], zk c m102)) (st2 := (47, [(some (.ref 79)), (some (.int (Int32.ofInt p))), (some (.int (Int32.ofInt x2)))], [], zk c m102)) ⟨[zo], _, rfl, ⟨trivial, trivial⟩⟩ rfl ?_
        exact zW.fin (zfin_v rfl rfl) (KR _ _ ⟨m102, rfl, rfl, hIm102, (by omega), (by omega), (by omega), (by intro h; exfalso; omega), (by intro i hi; rw [kD_102 89 i (by omega)]; exact J6 i hi), (by omega), (by omega), tk112, tk113⟩)
      · refine zW.step (st1 := (25, [(some (.ref 79)), (some (.int (Int32.ofInt p))), (some (.int (Int32.ofInt x2)))], [], zk c m)) (st2 := (25, [(some (.ref 79)), (some (.int (Int32.ofInt p))), (some (.int (Int32.ofInt x2)))], [], zk c m)) ⟨[zo], _, rfl, ⟨zbf (fun q => b100 ((zi_eq rfl (rfl : (0 : Int32) = Int32.ofInt 0) (by unfold zR; omega) (⟨by decide, by decide⟩ : zR 0)).mp q)), trivial⟩⟩ rfl ?_
        by_cases b114 : x2 = 8
        · refine zW.step (st1 := (42, [(some (.ref 79)), (some (.int (Int32.ofInt p))), (some (.int (Int32.ofInt x2)))], [], zk c m)) (st2 := (42, [(some (.ref 79)), (some (.int (Int32.ofInt p))), (some (.int (Int32.ofInt x2)))], [], zk c m)) ⟨[zo, zo, zt], _, rfl, ⟨trivial, trivial, zbt ((zi_eq rfl (by decide : (Int8.ofInt 8).toInt32 = Int32.ofInt 8) (by unfold zR; omega) (⟨by decide, by decide⟩ : zR 8)).mpr b114), trivial⟩⟩ rfl ?_
          have q42 : (zwz (zbT mC) (mC 79 6) a9).1 = 0 ∧ (zwz (zbT mC) (mC 79 6) a9).2.1 = m 79 10 := by first | (have e := zwy_m1 J (by omega) jz (by omega); exact ⟨e.1 (by omega), e.2.2.1⟩) | exact zwy_m2 J (by omega) jz (by omega) (by omega)
          refine zW.step (st1 := (43, [(some (.ref 79)), (some (.int (Int32.ofInt p))), (some (.int (Int32.ofInt x2)))], [.ref 79], zk c m)) (st2 := (43, [(some (.ref 79)), (some (.int (Int32.ofInt p))), (some (.int (Int32.ofInt x2)))], [.ref 79], zk c m)) ⟨[zo], _, rfl, ⟨trivial, trivial⟩⟩ rfl ?_
          obtain ⟨r116, m116, hs116, hIm116, q_116, f_116, p_116, t5_116, d9_116, kY_116, kD_116⟩ := S_X12_fails_H zn (d + 0) hN hC (m 79 10) m hIm (by omega) (by omega)
          subst q_116
          refine zW.step (st1 := (46, [(some (.ref 79)), (some (.int (Int32.ofInt p))), (some (.int (Int32.ofInt x2)))], [.int (Int32.ofInt 0)], zk c m116)) ⟨[zc (some (.int (Int32.ofInt 0))) (zk c m116)], _, rfl, ⟨⟨⟨(Nat.lt_of_lt_of_le (Nat.le_of_ble_eq_true rfl) hN), (Nat.le_of_ble_eq_true rfl)⟩, hs116, (Nat.le_of_ble_eq_true rfl), Nat.le_refl _, Nat.le_refl _, Nat.le_refl _, Nat.le_refl _⟩, trivial⟩⟩ rfl ?_
          have f117 : (0 : Int) ≤ m116 79 9 ∧ m116 79 9 ≤ 240 := hIm116.1 79 9
          have f118 : m116 79 9 = m 79 9 := kD_116 79 9 (by omega)
          have f119 : (0 : Int) ≤ m116 79 10 ∧ m116 79 10 ≤ 241 := hIm116.1 79 10
          have f120 : (-2147483648 : Int) ≤ m116 79 11 ∧ m116 79 11 ≤ 2147483647 := hIm116.1 79 11
          have f121 : (0 : Int) ≤ m116 79 12 ∧ m116 79 12 ≤ 6 := hIm116.1 79 12
          have f122 : (80 : Int) ≤ m116 79 5 ∧ m116 79 5 ≤ 81 := hIm116.1 79 5
          have f123 : m116 79 5 = m 79 5 := kD_116 79 5 (by omega)
          have f124 : (0 : Int) ≤ m116 79 8 ∧ m116 79 8 ≤ 720 := hIm116.1 79 8
          have f125 : m116 79 8 = m 79 8 := kD_116 79 8 (by omega)
          have tk126 : zY m0 m116 := zY_tr tY kY_116
          have tk127 : zD9 (fun p i => (p = 79 ∧ (10 ≤ i ∧ i ≤ 12)) ∨ p = 89 ∨ p = 91) m0 m116 := zD9_tr tD (zD9_mo kD_116 (fun p i w => by have w2 : p = 79 ∧ (10 ≤ i ∧ i ≤ 12) := w; show (p = 79 ∧ (10 ≤ i ∧ i ≤ 12)) ∨ p = 89 ∨ p = 91; omega))
          refine zW.step (st1 := (47, [(some (.ref 79)), (some (.int (Int32.ofInt p))), (some (.int (Int32.ofInt x2)))], [], zk c m116)) (st2 := (47, [(some (.ref 79)), (some (.int (Int32.ofInt p))), (some (.int (Int32.ofInt x2)))], [], zk c m116)) ⟨[zo], _, rfl, ⟨trivial, trivial⟩⟩ rfl ?_
          exact zW.fin (zfin_v rfl rfl) (KR _ _ ⟨m116, rfl, rfl, hIm116, (by omega), (by omega), (by omega), (by intro h; exfalso; omega), (by intro i hi; rw [kD_116 89 i (by omega)]; exact J6 i hi), (by omega), (by omega), tk126, tk127⟩)
        · refine zW.step (st1 := (31, [(some (.ref 79)), (some (.int (Int32.ofInt p))), (some (.int (Int32.ofInt x2)))], [], zk c m)) (st2 := (31, [(some (.ref 79)), (some (.int (Int32.ofInt p))), (some (.int (Int32.ofInt x2)))], [], zk c m)) ⟨[zo, zo, zo], _, rfl, ⟨trivial, trivial, zbf (fun q => b114 ((zi_eq rfl (by decide : (Int8.ofInt 8).toInt32 = Int32.ofInt 8) (by unfold zR; omega) (⟨by decide, by decide⟩ : zR 8)).mp q)), trivial⟩⟩ rfl ?_
          refine zW.step (st1 := (32, [(some (.ref 79)), (some (.int (Int32.ofInt p))), (some (.int (Int32.ofInt x2)))], [.ref 79], zk c m)) (st2 := (32, [(some (.ref 79)), (some (.int (Int32.ofInt p))), (some (.int (Int32.ofInt x2)))], [.ref 79], zk c m)) ⟨[zo], _, rfl, ⟨trivial, trivial⟩⟩ rfl ?_
          obtain ⟨r128, hs128, z_128, f_128⟩ := S_X12_here_F zn (d + 0) hN hC (m 79 10) m hIm (by omega) (by omega)
          refine zW.step (st1 := (35, [(some (.ref 79)), (some (.int (Int32.ofInt p))), (some (.int (Int32.ofInt x2)))], [.int (Int32.ofInt r128)], zk c m)) ⟨[zc (some (.int (Int32.ofInt r128))) (zk c m)], _, rfl, ⟨⟨⟨(Nat.lt_of_lt_of_le (Nat.le_of_ble_eq_true rfl) hN), (Nat.le_of_ble_eq_true rfl)⟩, hs128, (Nat.le_of_ble_eq_true rfl), Nat.le_refl _, Nat.le_refl _, Nat.le_refl _, Nat.le_refl _⟩, trivial⟩⟩ rfl ?_
          have f129 := zwR (r128 - 48)
          have f130 := zwI (r128 - 48)
          by_cases b131 : (zw (r128 - 48)) < 5
          · refine zW.step (st1 := (48, [(some (.ref 79)), (some (.int (Int32.ofInt p))), (some (.int (Int32.ofInt x2)))], [], zk c m)) (st2 := (48, [(some (.ref 79)), (some (.int (Int32.ofInt p))), (some (.int (Int32.ofInt x2)))], [], zk c m)) ⟨[zo, zo, zo, zt], _, rfl, ⟨trivial, trivial, trivial, zbt ((zi_lt (Eq.trans (zi_sub rfl (by decide : (Int8.ofInt 48).toInt32 = Int32.ofInt 48)) (zw_eq _)) rfl (by unfold zR; omega) (⟨by decide, by decide⟩ : zR 5)).mpr b131), trivial⟩⟩ rfl ?_
            have hlt : m 79 10 < mC 79 6 := zpk_l2 (b := zbT mC) (by omega)
            refine zW.step (st1 := (59, [(some (.ref 79)), (some (.int (Int32.ofInt p))), (some (.int (Int32.ofInt x2)))], [.ref 79, .int ((((Int8.ofInt 8).toInt32) * (Int32.ofInt p)) + (Int32.ofInt x2)), .ref 89], zk c m)) (st2 := (59, [(some (.ref 79)), (some (.int (Int32.ofInt p))), (some (.int (Int32.ofInt x2)))], [.ref 79, .int (Int32.ofInt ((8 * p) + x2)), .ref 89], zk c m)) ⟨[zo, zo, zo, zo, zo, zo, zo, zo], _, rfl, ⟨trivial, (Nat.lt_of_lt_of_le (Nat.le_of_ble_eq_true rfl) hN), trivial, trivial, trivial, trivial, trivial, trivial, trivial⟩⟩ (z_steq rfl (z_c1 rfl (z_c1 (z_vi (zi_add (zi_mul (by decide : (Int8.ofInt 8).toInt32 = Int32.ofInt 8) rfl) rfl)) rfl)) rfl) ?_
            obtain ⟨r133, hs133, z_133, f_133⟩ := S_X12_here_F zn (d + 0) hN hC (m 79 10) m hIm (by omega) (by omega)
            refine zW.step (st1 := (62, [(some (.ref 79)), (some (.int (Int32.ofInt p))), (some (.int (Int32.ofInt x2)))], [.int (Int32.ofInt r133), .int (Int32.ofInt ((8 * p) + x2)), .ref 89], zk c m)) ⟨[zc (some (.int (Int32.ofInt r133))) (zk c m)], _, rfl, ⟨⟨⟨(Nat.lt_of_lt_of_le (Nat.le_of_ble_eq_true rfl) hN), (Nat.le_of_ble_eq_true rfl)⟩, hs133, (Nat.le_of_ble_eq_true rfl), Nat.le_refl _, Nat.le_refl _, Nat.le_refl _, Nat.le_refl _⟩, trivial⟩⟩ rfl ?_
            obtain ⟨m134, hm134⟩ : ∃ q, q = zm_up m 89 (((8 * p) + x2).toNat) (r133 - 48) := ⟨_, rfl⟩
            have hIm134 := zJ_upE hIm hm134 (zOj_p (by decide)) (show (0 : Int) ≤ (r133 - 48) ∧ (r133 - 48) ≤ 4 by omega)
            have em134 : m134 89 (((8 * p) + x2).toNat) = (r133 - 48) := by rw [hm134]; exact zm_eq
            have f135 : m134 79 9 = m 79 9 := by rw [hm134]; exact zm_ne (Or.inl (by decide))
            have f136 : m134 79 10 = m 79 10 := by rw [hm134]; exact zm_ne (Or.inl (by decide))
            have f137 : m134 79 11 = m 79 11 := by rw [hm134]; exact zm_ne (Or.inl (by decide))
            have f138 : m134 79 12 = m 79 12 := by rw [hm134]; exact zm_ne (Or.inl (by decide))
            have f139 : m134 79 5 = m 79 5 := by rw [hm134]; exact zm_ne (Or.inl (by decide))
            have f140 : m134 79 8 = m 79 8 := by rw [hm134]; exact zm_ne (Or.inl (by decide))
            have tk141 : zY m0 m134 := by rw [hm134]; exact zY_up tY (zYs_p (by decide))
            have tk142 : zD9 (fun p i => (p = 79 ∧ (10 ≤ i ∧ i ≤ 12)) ∨ p = 89 ∨ p = 91) m0 m134 := by rw [hm134]; exact zD9_up tD (by first | rfl | omega | (dsimp only; omega))
            refine zW.step (st1 := (66, [(some (.ref 79)), (some (.int (Int32.ofInt p))), (some (.int (Int32.ofInt x2)))], [], z_hup (zk c m) 89 (.inl (0, 48, .inl (upd (fun j => Int32.ofInt (m 89 j)) (Int32.ofInt ((8 * p) + x2)).toNatClampNeg ((Int32.ofInt r133) - ((Int8.ofInt 48).toInt32))))))) (st2 := (66, [(some (.ref 79)), (some (.int (Int32.ofInt p))), (some (.int (Int32.ofInt x2)))], [], zk c m134)) ⟨[zo, zo, (false, 0, none, zh0, some (.inl (0, 48, .inl (fun j => Int32.ofInt (m 89 j)))))], _, rfl, ⟨trivial, trivial, ⟨zk_ra c m zA_89 (Nat.lt_of_lt_of_le (Nat.le_of_ble_eq_true rfl) hN), zi_in rfl (by omega) (by omega) (by omega)⟩, trivial⟩⟩ (z_steq rfl rfl ((zk_ias c m zA_89 rfl (by unfold zR; omega) (zi_sub rfl (by decide : (Int8.ofInt 48).toInt32 = Int32.ofInt 48))).trans (by rw [hm134]))) ?_
            have f143 : (0 : Int) ≤ m134 79 10 ∧ m134 79 10 ≤ 241 := hIm134.1 79 10
            obtain ⟨m144, hm144⟩ : ∃ q, q = zm_up m134 79 10 ((m134 79 10) + 1) := ⟨_, rfl⟩
            have hIm144 := zJ_upE hIm134 hm144 (zOj_79 (by decide)) (show (0 : Int) ≤ ((m134 79 10) + 1) ∧ ((m134 79 10) + 1) ≤ 241 by omega)
            have em144 : m144 79 10 = ((m134 79 10) + 1) := by rw [hm144]; exact zm_eq
            have f145 : m144 79 9 = m134 79 9 := by rw [hm144]; exact zm_ne (Or.inr (by decide))
            have f146 : m144 79 11 = m134 79 11 := by rw [hm144]; exact zm_ne (Or.inr (by decide))
            have f147 : m144 79 12 = m134 79 12 := by rw [hm144]; exact zm_ne (Or.inr (by decide))
            have f148 : m144 79 5 = m134 79 5 := by rw [hm144]; exact zm_ne (Or.inr (by decide))
            have f149 : m144 79 8 = m134 79 8 := by rw [hm144]; exact zm_ne (Or.inr (by decide))
            have tk150 : zY m0 m144 := by rw [hm144]; exact zY_up tk141 (zYs_79 (by decide))
            have tk151 : zD9 (fun p i => (p = 79 ∧ (10 ≤ i ∧ i ≤ 12)) ∨ p = 89 ∨ p = 91) m0 m144 := by rw [hm144]; exact zD9_up tk142 (by first | rfl | omega | (dsimp only; omega))
            clear tk141 tk142
            refine zW.step (st1 := (79, [(some (.ref 79)), (some (.int (Int32.ofInt p))), (some (.int ((Int32.ofInt x2) + Int32.ofInt 1)))], [], z_hup (zk c m134) 79 (.inr (12, (.int (Int32.ofInt (m134 79 0)) :: .ref 80 :: .ref 81 :: .ref 82 :: .ref 83 :: zm_rf (m134 79 5) :: .int (Int32.ofInt (m134 79 6)) :: .int (Int32.ofInt (m134 79 7)) :: .int (Int32.ofInt (m134 79 8)) :: .int (Int32.ofInt (m134 79 9)) :: .int ((Int32.ofInt (m134 79 10)) + (Int32.ofInt 1)) :: .int (Int32.ofInt (m134 79 11)) :: .int (Int32.ofInt (m134 79 12)) :: .int (Int32.ofInt (m134 79 13)) :: .int (Int32.ofInt (m134 79 14)) :: .ref (z_RO + 5) :: .ref (z_RO + 3) :: .int (Int32.ofInt (m134 79 17)) :: .ref 84 :: .ref 85 :: .ref 86 :: .ref 87 :: .ref 88 :: .ref 89 :: .ref 90 :: .ref 91 :: .int (Int32.ofInt (m134 79 26)) :: .int (Int32.ofInt (m134 79 27)) :: .int (Int32.ofInt (m134 79 28)) :: .int (Int32.ofInt (m134 79 29)) :: .int (Int32.ofInt (m134 79 30)) :: .ref 92 :: .ref 93 :: .int (Int32.ofInt (m134 79 33)) :: .int (Int32.ofInt (m134 79 34)) :: .ref 94 :: .ref 95 :: .int (Int32.ofInt (m134 79 37)) :: .int (Int32.ofInt (m134 79 38)) :: .int (Int32.ofInt (m134 79 39)) :: .int (Int32.ofInt (m134 79 40)) :: .int (Int32.ofInt (m134 79 41)) :: .int (Int32.ofInt (m134 79 42)) :: .ref 96 :: .ref 97 :: .ref 98 :: .ref 99 :: .ref 100 :: .int (Int32.ofInt (m134 79 48)) :: .int (Int32.ofInt (m134 79 49)) :: .long (Int64.ofInt (m134 79 50)) :: .ref 101 :: .ref 102 :: .int (Int32.ofInt (m134 79 53)) :: .ref 103 :: .ref 104 :: .ref 105 :: .int (Int32.ofInt (m134 79 57)) :: []))))) (st2 := (79, [(some (.ref 79)), (some (.int (Int32.ofInt p))), (some (.int (Int32.ofInt (x2 + 1))))], [], zk c m144)) ⟨[zo, zo, zo, zo, zo, zo, zo], _, rfl, ⟨trivial, trivial, trivial, (Nat.lt_of_lt_of_le (Nat.le_of_ble_eq_true rfl) hN), trivial, trivial, ⟨(Nat.lt_of_lt_of_le (Nat.le_of_ble_eq_true rfl) hN), rfl, rfl⟩, trivial⟩⟩ (z_steq (z_c1 rfl (z_c1 rfl (z_c1 (z_si (zi_add rfl rfl)) rfl))) rfl ((zk_up c m134 79 10 ((m134 79 10) + 1) _ ((congrArg (fun q => (.inr (12, (.int (Int32.ofInt (m134 79 0)) :: .ref 80 :: .ref 81 :: .ref 82 :: .ref 83 :: zm_rf (m134 79 5) :: .int (Int32.ofInt (m134 79 6)) :: .int (Int32.ofInt (m134 79 7)) :: .int (Int32.ofInt (m134 79 8)) :: .int (Int32.ofInt (m134 79 9)) :: .int q :: .int (Int32.ofInt (m134 79 11)) :: .int (Int32.ofInt (m134 79 12)) :: .int (Int32.ofInt (m134 79 13)) :: .int (Int32.ofInt (m134 79 14)) :: .ref (z_RO + 5) :: .ref (z_RO + 3) :: .int (Int32.ofInt (m134 79 17)) :: .ref 84 :: .ref 85 :: .ref 86 :: .ref 87 :: .ref 88 :: .ref 89 :: .ref 90 :: .ref 91 :: .int (Int32.ofInt (m134 79 26)) :: .int (Int32.ofInt (m134 79 27)) :: .int (Int32.ofInt (m134 79 28)) :: .int (Int32.ofInt (m134 79 29)) :: .int (Int32.ofInt (m134 79 30)) :: .ref 92 :: .ref 93 :: .int (Int32.ofInt (m134 79 33)) :: .int (Int32.ofInt (m134 79 34)) :: .ref 94 :: .ref 95 :: .int (Int32.ofInt (m134 79 37)) :: .int (Int32.ofInt (m134 79 38)) :: .int (Int32.ofInt (m134 79 39)) :: .int (Int32.ofInt (m134 79 40)) :: .int (Int32.ofInt (m134 79 41)) :: .int (Int32.ofInt (m134 79 42)) :: .ref 96 :: .ref 97 :: .ref 98 :: .ref 99 :: .ref 100 :: .int (Int32.ofInt (m134 79 48)) :: .int (Int32.ofInt (m134 79 49)) :: .long (Int64.ofInt (m134 79 50)) :: .ref 101 :: .ref 102 :: .int (Int32.ofInt (m134 79 53)) :: .ref 103 :: .ref 104 :: .ref 105 :: .int (Int32.ofInt (m134 79 57)) :: [])) : z_E)) (zi_add rfl rfl)).trans rfl)).trans (by rw [hm144]))) ?_
            clear em134
            refine zW.step (st1 := (80, [(some (.ref 79)), (some (.int (Int32.ofInt p))), (some (.int (Int32.ofInt (x2 + 1))))], [.ref 79], zk c m144)) (st2 := (80, [(some (.ref 79)), (some (.int (Int32.ofInt p))), (some (.int (Int32.ofInt (x2 + 1))))], [.ref 79], zk c m144)) ⟨[zo], _, rfl, ⟨trivial, trivial⟩⟩ rfl ?_
            obtain ⟨r152, m152, hs152, hIm152, z_152, f_152, p_152, b_152, l_152, t5_152, f9_152, d9_152, kY_152, kD_152⟩ := S_X12_look_H zn (d + 0) hN hC (((m 79 10)) + 1) m144 hIm144 (by omega) (by omega) (by omega)
            refine zW.step (st1 := (83, [(some (.ref 79)), (some (.int (Int32.ofInt p))), (some (.int (Int32.ofInt (x2 + 1))))], [.int (Int32.ofInt r152)], zk c m152)) ⟨[zc (some (.int (Int32.ofInt r152))) (zk c m152)], _, rfl, ⟨⟨⟨(Nat.lt_of_lt_of_le (Nat.le_of_ble_eq_true rfl) hN), (Nat.le_of_ble_eq_true rfl)⟩, hs152, (Nat.le_of_ble_eq_true rfl), Nat.le_refl _, Nat.le_refl _, Nat.le_refl _, Nat.le_refl _⟩, trivial⟩⟩ rfl ?_
            have f153 : (0 : Int) ≤ m152 79 9 ∧ m152 79 9 ≤ 240 := hIm152.1 79 9
            have f154 : m152 79 9 = m144 79 9 := kD_152 79 9 (by omega)
            have f155 : (0 : Int) ≤ m152 79 10 ∧ m152 79 10 ≤ 241 := hIm152.1 79 10
            have f156 : (-2147483648 : Int) ≤ m152 79 11 ∧ m152 79 11 ≤ 2147483647 := hIm152.1 79 11
            have f157 : (0 : Int) ≤ m152 79 12 ∧ m152 79 12 ≤ 6 := hIm152.1 79 12
            have f158 : (80 : Int) ≤ m152 79 5 ∧ m152 79 5 ≤ 81 := hIm152.1 79 5
            have f159 : m152 79 5 = m144 79 5 := kD_152 79 5 (by omega)
            have f160 : (0 : Int) ≤ m152 79 8 ∧ m152 79 8 ≤ 720 := hIm152.1 79 8
            have f161 : m152 79 8 = m144 79 8 := kD_152 79 8 (by omega)
            have tk162 : zY m0 m152 := zY_tr tk150 kY_152
            have tk163 : zD9 (fun p i => (p = 79 ∧ (10 ≤ i ∧ i ≤ 12)) ∨ p = 89 ∨ p = 91) m0 m152 := zD9_tr tk151 (zD9_mo kD_152 (fun p i w => by have w2 : p = 79 ∧ (10 ≤ i ∧ i ≤ 12) := w; show (p = 79 ∧ (10 ≤ i ∧ i ≤ 12)) ∨ p = 89 ∨ p = 91; omega))
            refine zW.step (st1 := (7, [(some (.ref 79)), (some (.int (Int32.ofInt p))), (some (.int (Int32.ofInt (x2 + 1))))], [], zk c m152)) (st2 := (7, [(some (.ref 79)), (some (.int (Int32.ofInt p))), (some (.int (Int32.ofInt (x2 + 1))))], [], zk c m152)) ⟨[zo, zo], _, rfl, ⟨trivial, trivial, trivial⟩⟩ rfl ?_
            exact ih _ (by omega) (x2 + 1) m152 hIm152 (by omega) (by omega) (by omega) (by omega) (by omega) (by omega) (by exact zwy_m3 J (by omega) jz (by omega) (by omega) (zwr_s (by rw [(show m152 89 = m144 89 from funext fun i => kD_152 89 i (by omega)), hm144, zup_o (by decide), hm134, zvu_up]; exact zvuc (by omega) (by omega)) (by omega)) (by omega) (by omega)) (by rw [show m152 79 10 = znx (zbT mC) (mC 79 6) (((m 79 10)) + 1) by omega]; exact znx_i (by omega) (by omega)) (by intro i hi; rw [(show m152 89 = m144 89 from funext fun i => kD_152 89 i (by omega)), hm144, zup_o (by decide), hm134, zm_ne (Or.inr (by omega))]; exact J6 i hi) (by rw [(show m152 91 = m144 91 from funext fun i => kD_152 91 i (by omega)), hm144, zup_o (by decide), hm134, zup_o (by decide)]; exact J9) tk162 tk163 rfl
          · refine zW.step (st1 := (42, [(some (.ref 79)), (some (.int (Int32.ofInt p))), (some (.int (Int32.ofInt x2)))], [], zk c m)) (st2 := (42, [(some (.ref 79)), (some (.int (Int32.ofInt p))), (some (.int (Int32.ofInt x2)))], [], zk c m)) ⟨[zo, zo, zo, zo], _, rfl, ⟨trivial, trivial, trivial, zbf (fun q => b131 ((zi_lt (Eq.trans (zi_sub rfl (by decide : (Int8.ofInt 48).toInt32 = Int32.ofInt 48)) (zw_eq _)) rfl (by unfold zR; omega) (⟨by decide, by decide⟩ : zR 5)).mp q)), trivial⟩⟩ rfl ?_
            have q42 : (zwz (zbT mC) (mC 79 6) a9).1 = 0 ∧ (zwz (zbT mC) (mC 79 6) a9).2.1 = m 79 10 := by first | (have e := zwy_m1 J (by omega) jz (by omega); exact ⟨e.1 (by omega), e.2.2.1⟩) | exact zwy_m2 J (by omega) jz (by omega) (by omega)
            refine zW.step (st1 := (43, [(some (.ref 79)), (some (.int (Int32.ofInt p))), (some (.int (Int32.ofInt x2)))], [.ref 79], zk c m)) (st2 := (43, [(some (.ref 79)), (some (.int (Int32.ofInt p))), (some (.int (Int32.ofInt x2)))], [.ref 79], zk c m)) ⟨[zo], _, rfl, ⟨trivial, trivial⟩⟩ rfl ?_
            obtain ⟨r165, m165, hs165, hIm165, q_165, f_165, p_165, t5_165, d9_165, kY_165, kD_165⟩ := S_X12_fails_H zn (d + 0) hN hC (m 79 10) m hIm (by omega) (by omega)
            subst q_165
            refine zW.step (st1 := (46, [(some (.ref 79)), (some (.int (Int32.ofInt p))), (some (.int (Int32.ofInt x2)))], [.int (Int32.ofInt 0)], zk c m165)) ⟨[zc (some (.int (Int32.ofInt 0))) (zk c m165)], _, rfl, ⟨⟨⟨(Nat.lt_of_lt_of_le (Nat.le_of_ble_eq_true rfl) hN), (Nat.le_of_ble_eq_true rfl)⟩, hs165, (Nat.le_of_ble_eq_true rfl), Nat.le_refl _, Nat.le_refl _, Nat.le_refl _, Nat.le_refl _⟩, trivial⟩⟩ rfl ?_
            have f166 : (0 : Int) ≤ m165 79 9 ∧ m165 79 9 ≤ 240 := hIm165.1 79 9
            have f167 : m165 79 9 = m 79 9 := kD_165 79 9 (by omega)
            have f168 : (0 : Int) ≤ m165 79 10 ∧ m165 79 10 ≤ 241 := hIm165.1 79 10
            have f169 : (-2147483648 : Int) ≤ m165 79 11 ∧ m165 79 11 ≤ 2147483647 := hIm165.1 79 11
            have f170 : (0 : Int) ≤ m165 79 12 ∧ m165 79 12 ≤ 6 := hIm165.1 79 12
            have f171 : (80 : Int) ≤ m165 79 5 ∧ m165 79 5 ≤ 81 := hIm165.1 79 5
            have f172 : m165 79 5 = m 79 5 := kD_165 79 5 (by omega)
            have f173 : (0 : Int) ≤ m165 79 8 ∧ m165 79 8 ≤ 720 := hIm165.1 79 8
            have f174 : m165 79 8 = m 79 8 := kD_165 79 8 (by omega)
            have tk175 : zY m0 m165 := zY_tr tY kY_165
            have tk176 : zD9 (fun p i => (p = 79 ∧ (10 ≤ i ∧ i ≤ 12)) ∨ p = 89 ∨ p = 91) m0 m165 := zD9_tr tD (zD9_mo kD_165 (fun p i w => by have w2 : p = 79 ∧ (10 ≤ i ∧ i ≤ 12) := w; show (p = 79 ∧ (10 ≤ i ∧ i ≤ 12)) ∨ p = 89 ∨ p = 91; omega))
            refine zW.step (st1 := (47, [(some (.ref 79)), (some (.int (Int32.ofInt p))), (some (.int (Int32.ofInt x2)))], [], zk c m165)) (st2 := (47, [(some (.ref 79)), (some (.int (Int32.ofInt p))), (some (.int (Int32.ofInt x2)))], [], zk c m165)) ⟨[zo], _, rfl, ⟨trivial, trivial⟩⟩ rfl ?_
            exact zW.fin (zfin_v rfl rfl) (KR _ _ ⟨m165, rfl, rfl, hIm165, (by omega), (by omega), (by omega), (by intro h; exfalso; omega), (by intro i hi; rw [kD_165 89 i (by omega)]; exact J6 i hi), (by omega), (by omega), tk175, tk176⟩)

set_option maxRecDepth 100000 in
set_option maxHeartbeats 4000000 in
theorem S_X12_readWay_F (zn : Bool) (d : Nat) {c : Nat × Nat} {mC : zM} {t9 : Int} {e9 : Nat} (hN : 107 ≤ c.1) (hC : c.1 < z_RO) (p : Int) (a9 : Int) (m : zM) (hIm : zJ mC t9 e9 m) (r_p : -2147483648 ≤ p ∧ p ≤ 2147483647) (hp : 0 ≤ p ∧ p ≤ 5) (ha9 : m 79 10 = a9) (hb9 : 0 ≤ a9 ∧ a9 ≤ mC 79 6) (ht5 : m 79 5 = 80 ∧ m 79 8 = 0 ∧ m 79 9 = mC 79 6) (hf9 : m 79 11 = -1) : zCv zn (d + 2) 270 [.ref 79, .int (Int32.ofInt p)] c m (fun (m1 : zM) => zJ mC t9 e9 m1 ∧ (m 79 10 ≤ m1 79 10) ∧ (m1 79 9 = m 79 9) ∧ (((zwz (zbT mC) (mC 79 6) a9).1 = 0 ∧ m1 79 11 = (zwz (zbT mC) (mC 79 6) a9).2.1) ∨ ((zwz (zbT mC) (mC 79 6) a9).1 ≠ 0 ∧ m1 79 11 = -1 ∧ m1 79 10 = (zwz (zbT mC) (mC 79 6) a9).2.1)) ∧ (m1 79 11 = -1 → m1 91 = zvu (m 91) (p).toNat ((zwz (zbT mC) (mC 79 6) a9).2.2.1 : Int) ∧ (zwz (zbT mC) (mC 79 6) a9).2.2.1 ≤ 8 ∧ ∀ j : Nat, j < (zwz (zbT mC) (mC 79 6) a9).2.2.1 → m1 89 (8 * (p).toNat + j) = (zwz (zbT mC) (mC 79 6) a9).2.2.2 j) ∧ (∀ i : Nat, i < 8 * (p).toNat ∨ 8 * (p).toNat + 8 ≤ i → m1 89 i = m 89 i) ∧ (a9 ≤ m1 79 10 ∧ m1 79 10 ≤ mC 79 6) ∧ (m1 79 5 = 80 ∧ m1 79 8 = 0 ∧ m1 79 9 = mC 79 6) ∧ zY m m1 ∧ zD9 (fun p i => (p = 79 ∧ (10 ≤ i ∧ i ≤ 12)) ∨ p = 89 ∨ p = 91) m m1) := by
  refine zCv.of zu_X12_readWay hC (Nat.le_of_ble_eq_true rfl) ?_
  show zW zn (d + 1) 270 c (0, [(some (.ref 79)), (some (.int (Int32.ofInt p))), none], [], zk c m) (fun v h1 => ∃ (m1 : zM), v = none ∧ h1 = zk c m1 ∧ zJ mC t9 e9 m1 ∧ (m 79 10 ≤ m1 79 10) ∧ (m1 79 9 = m 79 9) ∧ (((zwz (zbT mC) (mC 79 6) a9).1 = 0 ∧ m1 79 11 = (zwz (zbT mC) (mC 79 6) a9).2.1) ∨ ((zwz (zbT mC) (mC 79 6) a9).1 ≠ 0 ∧ m1 79 11 = -1 ∧ m1 79 10 = (zwz (zbT mC) (mC 79 6) a9).2.1)) ∧ (m1 79 11 = -1 → m1 91 = zvu (m 91) (p).toNat ((zwz (zbT mC) (mC 79 6) a9).2.2.1 : Int) ∧ (zwz (zbT mC) (mC 79 6) a9).2.2.1 ≤ 8 ∧ ∀ j : Nat, j < (zwz (zbT mC) (mC 79 6) a9).2.2.1 → m1 89 (8 * (p).toNat + j) = (zwz (zbT mC) (mC 79 6) a9).2.2.2 j) ∧ (∀ i : Nat, i < 8 * (p).toNat ∨ 8 * (p).toNat + 8 ≤ i → m1 89 i = m 89 i) ∧ (a9 ≤ m1 79 10 ∧ m1 79 10 ≤ mC 79 6) ∧ (m1 79 5 = 80 ∧ m1 79 8 = 0 ∧ m1 79 9 = mC 79 6) ∧ zY m m1 ∧ zD9 (fun p i => (p = 79 ∧ (10 ≤ i ∧ i ≤ 12)) ∨ p = 89 ∨ p = 91) m m1)
  have f177 : (0 : Int) ≤ m 79 9 ∧ m 79 9 ≤ 240 := hIm.1 79 9
  have f178 : (0 : Int) ≤ m 79 10 ∧ m 79 10 ≤ 241 := hIm.1 79 10
  have f179 : (-2147483648 : Int) ≤ m 79 11 ∧ m 79 11 ≤ 2147483647 := hIm.1 79 11
  have f180 : (0 : Int) ≤ m 79 12 ∧ m 79 12 ≤ 6 := hIm.1 79 12
  have f181 : (80 : Int) ≤ m 79 5 ∧ m 79 5 ≤ 81 := hIm.1 79 5
  have f182 : (0 : Int) ≤ m 79 8 ∧ m 79 8 ≤ 720 := hIm.1 79 8
  have q183 := zn_m hIm
  refine zW.step (st1 := (3, [(some (.ref 79)), (some (.int (Int32.ofInt p))), (some (.int (Int32.ofInt 0)))], [.ref 79], zk c m)) (st2 := (3, [(some (.ref 79)), (some (.int (Int32.ofInt p))), (some (.int (Int32.ofInt 0)))], [.ref 79], zk c m)) ⟨[zo, zo, zo], _, rfl, ⟨trivial, trivial, trivial, trivial⟩⟩ rfl ?_
  obtain ⟨r184, m184, hs184, hIm184, z_184, f_184, p_184, b_184, l_184, t5_184, f9_184, d9_184, kY_184, kD_184⟩ := S_X12_look_H zn (d + 0) hN hC a9 m hIm (by omega) (by omega) (by omega)
  refine zW.step (st1 := (6, [(some (.ref 79)), (some (.int (Int32.ofInt p))), (some (.int (Int32.ofInt 0)))], [.int (Int32.ofInt r184)], zk c m184)) ⟨[zc (some (.int (Int32.ofInt r184))) (zk c m184)], _, rfl, ⟨⟨⟨(Nat.lt_of_lt_of_le (Nat.le_of_ble_eq_true rfl) hN), (Nat.le_of_ble_eq_true rfl)⟩, hs184, (Nat.le_of_ble_eq_true rfl), Nat.le_refl _, Nat.le_refl _, Nat.le_refl _, Nat.le_refl _⟩, trivial⟩⟩ rfl ?_
  have f185 : (0 : Int) ≤ m184 79 9 ∧ m184 79 9 ≤ 240 := hIm184.1 79 9
  have f186 : m184 79 9 = m 79 9 := kD_184 79 9 (by omega)
  have f187 : (0 : Int) ≤ m184 79 10 ∧ m184 79 10 ≤ 241 := hIm184.1 79 10
  have f188 : (-2147483648 : Int) ≤ m184 79 11 ∧ m184 79 11 ≤ 2147483647 := hIm184.1 79 11
  have f189 : (0 : Int) ≤ m184 79 12 ∧ m184 79 12 ≤ 6 := hIm184.1 79 12
  have f190 : (80 : Int) ≤ m184 79 5 ∧ m184 79 5 ≤ 81 := hIm184.1 79 5
  have f191 : m184 79 5 = m 79 5 := kD_184 79 5 (by omega)
  have f192 : (0 : Int) ≤ m184 79 8 ∧ m184 79 8 ≤ 720 := hIm184.1 79 8
  have f193 : m184 79 8 = m 79 8 := kD_184 79 8 (by omega)
  have tk194 : zY m m184 := zY_tr zY_rf kY_184
  have tk195 : zD9 (fun p i => (p = 79 ∧ (10 ≤ i ∧ i ≤ 12)) ∨ p = 89 ∨ p = 91) m m184 := zD9_tr zD9_rf (zD9_mo kD_184 (fun p i w => by have w2 : p = 79 ∧ (10 ≤ i ∧ i ≤ 12) := w; show (p = 79 ∧ (10 ≤ i ∧ i ≤ 12)) ∨ p = 89 ∨ p = 91; omega))
  refine zW.step (st1 := (7, [(some (.ref 79)), (some (.int (Int32.ofInt p))), (some (.int (Int32.ofInt 0)))], [], zk c m184)) (st2 := (7, [(some (.ref 79)), (some (.int (Int32.ofInt p))), (some (.int (Int32.ofInt 0)))], [], zk c m184)) ⟨[zo], _, rfl, ⟨trivial, trivial⟩⟩ rfl ?_
  exact L_X12_readWay_F_7 zn _ hN hC p a9 r_p hp hb9 m _ (fun v9 h9 hq9 => hq9) _ 0 m184 hIm184 (by omega) (by omega) (by omega) (by omega) (by omega) (by omega) (by rw [zwr_0, show m184 79 10 = znx (zbT mC) (mC 79 6) a9 by omega]; exact (zwy_nx 8 0 a9 _ (by omega) (by omega)).symm) (by rw [show m184 79 10 = znx (zbT mC) (mC 79 6) a9 by omega]; exact znx_i (by omega) (by omega)) (by intro i _; rw [(show m184 89 = m 89 from funext fun i => kD_184 89 i (by omega))]) (by rw [(show m184 91 = m 91 from funext fun i => kD_184 91 i (by omega))]) tk194 tk195 rfl

