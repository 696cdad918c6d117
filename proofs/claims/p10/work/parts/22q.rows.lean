/-! what methods do over memory, by program (wip/tools/gw): X2_spare, X2_play -/
set_option maxRecDepth 100000 in
set_option maxHeartbeats 4000000 in
theorem L_X2_spare_12 (zn : Bool) (d : Nat) {c : Nat × Nat} (hN : 107 ≤ c.1) (hC : c.1 < z_RO) (n : Int) (r_n : -2147483648 ≤ n ∧ n ≤ 2147483647) (hn : n ≤ 60) (m0 : zM) (Q : Option Value → z_H → Prop) (K : ∀ (x3 : Int) (o4 : Option Value) (m : zM), zI c m → 0 ≤ x3 ∧ x3 ≤ 10 → m 17 184 ≤ 999999000 → zF 0 m0 m → m 17 184 = m0 17 184 → zW zn (d + 5) 58 c (94, [(some (.ref 69)), (some (.ref 17)), (some (.int (Int32.ofInt n))), (some (.int (Int32.ofInt x3))), o4], [], zk c m) Q) :
    ∀ (w : Nat) (x3 : Int) (o4 : Option Value) (m : zM), zI c m → 0 ≤ x3 ∧ x3 ≤ 10 → m 17 184 ≤ 999999000 → zF 0 m0 m → m 17 184 = m0 17 184 → w = (10 - x3).toNat → zW zn (d + 5) 58 c (12, [(some (.ref 69)), (some (.ref 17)), (some (.int (Int32.ofInt n))), (some (.int (Int32.ofInt x3))), o4], [], zk c m) Q := by
  intro w
  induction w using Nat.strongRecOn with | _ w ih => ?_
  intro x3 o4 m hIm i1 i2 tF tCn hw
  have f1 : (0 : Int) ≤ m 70 184 ∧ m 70 184 ≤ 1000000000 := zr_h hIm zS_70
  have f2 : (0 : Int) ≤ m 17 184 ∧ m 17 184 ≤ 1000000000 := zr_h hIm zS_17
  have f3 : (0 : Int) ≤ m 17 185 ∧ m 17 185 ≤ 10 := zr_c hIm zS_17
  by_cases b4 : (m 17 185) ≤ x3
  · refine zW.step (st1 := (94, [(some (.ref 69)), (some (.ref 17)), (some (.int (Int32.ofInt n))), (some (.int (Int32.ofInt x3))), o4], [], zk c m)) (st2 := (94, [(some (.ref 69)), (some (.ref 17)), (some (.int (Int32.ofInt n))), (some (.int (Int32.ofInt x3))), o4], [], zk c m)) ⟨[zo, zo, zo, (false, 0, none, zh0, some (.inl (0, 188, .inl (fun j => Int32.ofInt (m 17 j))))), zt], _, rfl, ⟨trivial, trivial, trivial, ⟨zk_ra c m zA_17 (Nat.lt_of_lt_of_le (Nat.le_of_ble_eq_true rfl) hN), zi_in (by decide : (Int16.ofInt 185).toInt32 = Int32.ofInt 185) (by omega) (by omega) (by decide)⟩, zbt ((zi_le ((zk_rd (f := m 17) (by decide : (Int16.ofInt 185).toInt32 = Int32.ofInt 185) (⟨by decide, by decide⟩ : zR 185)).trans rfl : Int32.ofInt (m 17 ((Int16.ofInt 185).toInt32).toNatClampNeg) = Int32.ofInt (m 17 185)) rfl (by unfold zR; omega) (by unfold zR; omega)).mpr b4), trivial⟩⟩ rfl ?_
    exact K x3 o4 m hIm (by omega) (by omega) tF tCn
  · refine zW.step (st1 := (21, [(some (.ref 69)), (some (.ref 17)), (some (.int (Int32.ofInt n))), (some (.int (Int32.ofInt x3))), o4], [], zk c m)) (st2 := (21, [(some (.ref 69)), (some (.ref 17)), (some (.int (Int32.ofInt n))), (some (.int (Int32.ofInt x3))), o4], [], zk c m)) ⟨[zo, zo, zo, (false, 0, none, zh0, some (.inl (0, 188, .inl (fun j => Int32.ofInt (m 17 j))))), zo], _, rfl, ⟨trivial, trivial, trivial, ⟨zk_ra c m zA_17 (Nat.lt_of_lt_of_le (Nat.le_of_ble_eq_true rfl) hN), zi_in (by decide : (Int16.ofInt 185).toInt32 = Int32.ofInt 185) (by omega) (by omega) (by decide)⟩, zbf (fun q => b4 ((zi_le ((zk_rd (f := m 17) (by decide : (Int16.ofInt 185).toInt32 = Int32.ofInt 185) (⟨by decide, by decide⟩ : zR 185)).trans rfl : Int32.ofInt (m 17 ((Int16.ofInt 185).toInt32).toNatClampNeg) = Int32.ofInt (m 17 185)) rfl (by unfold zR; omega) (by unfold zR; omega)).mp q)), trivial⟩⟩ rfl ?_
    have f5 : (0 : Int) ≤ m 17 ((70 + x3).toNat) ∧ m 17 ((70 + x3).toNat) ≤ 1 := zr_l hIm zS_17 (by omega)
    by_cases b6 : (m 17 ((70 + x3).toNat)) = 1
    · refine zW.step (st1 := (31, [(some (.ref 69)), (some (.ref 17)), (some (.int (Int32.ofInt n))), (some (.int (Int32.ofInt x3))), o4], [], zk c m)) (st2 := (31, [(some (.ref 69)), (some (.ref 17)), (some (.int (Int32.ofInt n))), (some (.int (Int32.ofInt x3))), o4], [], zk c m)) ⟨[zo, zo, zo, zo, (false, 0, none, zh0, some (.inl (0, 188, .inl (fun j => Int32.ofInt (m 17 j))))), zo, zo], _, rfl, ⟨trivial, trivial, trivial, trivial, ⟨zk_ra c m zA_17 (Nat.lt_of_lt_of_le (Nat.le_of_ble_eq_true rfl) hN), zi_in (zi_add (by decide : (Int8.ofInt 70).toInt32 = Int32.ofInt 70) rfl) (by omega) (by omega) (by decide)⟩, trivial, zbf (fun q => q ((zi_eq ((zk_rd (f := m 17) (zi_add (by decide : (Int8.ofInt 70).toInt32 = Int32.ofInt 70) rfl) (by unfold zR; omega)).trans rfl : Int32.ofInt (m 17 (((Int8.ofInt 70).toInt32) + (Int32.ofInt x3)).toNatClampNeg) = Int32.ofInt (m 17 ((70 + x3).toNat))) rfl (by unfold zR; omega) (⟨by decide, by decide⟩ : zR 1)).mpr b6)), trivial⟩⟩ rfl ?_
      refine zW.step (st1 := (33, [(some (.ref 69)), (some (.ref 17)), (some (.int (Int32.ofInt n))), (some (.int (Int32.ofInt x3))), o4], [.ref 17, .ref 69], zk c m)) (st2 := (33, [(some (.ref 69)), (some (.ref 17)), (some (.int (Int32.ofInt n))), (some (.int (Int32.ofInt x3))), o4], [.ref 17, .ref 69], zk c m)) ⟨[zo, zo], _, rfl, ⟨trivial, trivial, trivial⟩⟩ rfl ?_
      obtain ⟨m7, hs7, hIm7, h_7, kF_7⟩ := S_X2_begin zn (d + 4) hN hC m hIm
      refine zW.step (st1 := (36, [(some (.ref 69)), (some (.ref 17)), (some (.int (Int32.ofInt n))), (some (.int (Int32.ofInt x3))), o4], [], zk c m7)) ⟨[zc (none) (zk c m7)], _, rfl, ⟨⟨⟨(Nat.lt_of_lt_of_le (Nat.le_of_ble_eq_true rfl) hN), (Nat.le_of_ble_eq_true rfl)⟩, hs7, (Nat.le_of_ble_eq_true rfl), Nat.le_refl _, Nat.le_refl _, Nat.le_refl _, Nat.le_refl _⟩, trivial⟩⟩ rfl ?_
      have f8 : (0 : Int) ≤ m7 70 184 ∧ m7 70 184 ≤ 1000000000 := zr_h hIm7 zS_70
      have f9 : (0 : Int) ≤ m7 17 184 ∧ m7 17 184 ≤ 1000000000 := zr_h hIm7 zS_17
      have tk10 : zF 0 m0 m7 := zF_tr tF kF_7 (by unfold zQ; omega)
      have tk11 : m7 17 184 = m0 17 184 := (kF_7 17 (by unfold zQ; omega) (by omega)).trans tCn
      obtain ⟨m12, hm12⟩ : ∃ q, q = zm_up m7 70 ((110 + x3).toNat) 1 := ⟨_, rfl⟩
      have hIm12 : zI c m12 := by rw [hm12]; exact zI_up hIm7 (by unfold zOk; omega) (zrw_i zS_70 (by omega) (show (-2147483648 : Int) ≤ 1 ∧ 1 ≤ 2147483647 by omega))
      have em12 : m12 70 ((110 + x3).toNat) = 1 := by rw [hm12]; exact zm_eq
      have f13 : m12 70 184 = m7 70 184 := by rw [hm12]; exact zm_ne (by omega)
      have f14 : m12 17 184 = m7 17 184 := by rw [hm12]; exact zm_ne (by omega)
      have tk15 : zF 0 m0 m12 := by rw [hm12]; exact zF_up tk10 (by unfold zQ; omega)
      have tk16 : m12 17 184 = m0 17 184 := by rw [hm12, zm_ne (by omega)]; exact tk11
      clear tk10
      refine zW.step (st1 := (46, [(some (.ref 69)), (some (.ref 17)), (some (.int (Int32.ofInt n))), (some (.int (Int32.ofInt x3))), o4], [], z_hup (zk c m7) 70 (.inl (0, 188, .inl (upd (fun j => Int32.ofInt (m7 70 j)) (((Int8.ofInt 110).toInt32) + (Int32.ofInt x3)).toNatClampNeg (Int32.ofInt 1)))))) (st2 := (46, [(some (.ref 69)), (some (.ref 17)), (some (.int (Int32.ofInt n))), (some (.int (Int32.ofInt x3))), o4], [], zk c m12)) ⟨[zo, zo, zo, zo, zo, zo, (false, 0, none, zh0, some (.inl (0, 188, .inl (fun j => Int32.ofInt (m7 70 j)))))], _, rfl, ⟨trivial, (Nat.lt_of_lt_of_le (Nat.le_of_ble_eq_true rfl) hN), trivial, trivial, trivial, trivial, ⟨zk_ra c m7 zA_70 (Nat.lt_of_lt_of_le (Nat.le_of_ble_eq_true rfl) hN), zi_in (zi_add (by decide : (Int8.ofInt 110).toInt32 = Int32.ofInt 110) rfl) (by omega) (by omega) (by decide)⟩, trivial⟩⟩ (z_steq rfl rfl ((zk_ias c m7 zA_70 (zi_add (by decide : (Int8.ofInt 110).toInt32 = Int32.ofInt 110) rfl) (by unfold zR; omega) rfl).trans (by rw [hm12]))) ?_
      clear f5
      refine zW.step (st1 := (48, [(some (.ref 69)), (some (.ref 17)), (some (.int (Int32.ofInt n))), (some (.int (Int32.ofInt x3))), o4], [.int (Int32.ofInt n), .ref 69], zk c m12)) (st2 := (48, [(some (.ref 69)), (some (.ref 17)), (some (.int (Int32.ofInt n))), (some (.int (Int32.ofInt x3))), o4], [.int (Int32.ofInt n), .ref 69], zk c m12)) ⟨[zo, zo], _, rfl, ⟨trivial, trivial, trivial⟩⟩ rfl ?_
      obtain ⟨m17, hs17, hIm17, kF_17⟩ := S_X2_pass zn (d + 0) hN hC n m12 hIm12 (by omega) (by omega) (by omega)
      refine zW.step (st1 := (51, [(some (.ref 69)), (some (.ref 17)), (some (.int (Int32.ofInt n))), (some (.int (Int32.ofInt x3))), o4], [], zk c m17)) ⟨[zc (none) (zk c m17)], _, rfl, ⟨⟨⟨(Nat.lt_of_lt_of_le (Nat.le_of_ble_eq_true rfl) hN), (Nat.le_of_ble_eq_true rfl)⟩, hs17, (Nat.le_of_ble_eq_true rfl), Nat.le_refl _, Nat.le_refl _, Nat.le_refl _, Nat.le_refl _⟩, trivial⟩⟩ rfl ?_
      have f18 : (0 : Int) ≤ m17 70 184 ∧ m17 70 184 ≤ 1000000000 := zr_h hIm17 zS_70
      have f19 : (0 : Int) ≤ m17 17 184 ∧ m17 17 184 ≤ 1000000000 := zr_h hIm17 zS_17
      have tk20 : zF 0 m0 m17 := zF_tr tk15 kF_17 (by unfold zQ; omega)
      have tk21 : m17 17 184 = m0 17 184 := (kF_17 17 (by unfold zQ; omega) (by omega)).trans tk16
      refine zW.step (st1 := (55, [(some (.ref 69)), (some (.ref 17)), (some (.int (Int32.ofInt n))), (some (.int (Int32.ofInt x3))), o4], [.ref 70], zk c m17)) (st2 := (55, [(some (.ref 69)), (some (.ref 17)), (some (.int (Int32.ofInt n))), (some (.int (Int32.ofInt x3))), o4], [.ref 70], zk c m17)) ⟨[zo, zo], _, rfl, ⟨trivial, (Nat.lt_of_lt_of_le (Nat.le_of_ble_eq_true rfl) hN), trivial⟩⟩ rfl ?_
      obtain ⟨r22, hs22, q_22⟩ := S_X3_living zn (d + 4) hN hC 70 m17 hIm17 zS_70 (by omega)
      refine zW.step (st1 := (58, [(some (.ref 69)), (some (.ref 17)), (some (.int (Int32.ofInt n))), (some (.int (Int32.ofInt x3))), o4], [.int (Int32.ofInt r22)], zk c m17)) ⟨[zc (some (.int (Int32.ofInt r22))) (zk c m17)], _, rfl, ⟨⟨(Nat.le_of_ble_eq_true rfl), hs22, (Nat.le_of_ble_eq_true rfl), Nat.le_refl _, Nat.le_refl _, Nat.le_refl _, Nat.le_refl _⟩, trivial⟩⟩ rfl ?_
      have f23 : (-2147483648 : Int) ≤ m17 69 5 ∧ m17 69 5 ≤ 2147483647 := hIm17.1 69 5
      by_cases b24 : (m17 69 5) = (-1)
      · refine zW.step (st1 := (77, [(some (.ref 69)), (some (.ref 17)), (some (.int (Int32.ofInt n))), (some (.int (Int32.ofInt x3))), (some (.int (Int32.ofInt r22)))], [], zk c m17)) (st2 := (77, [(some (.ref 69)), (some (.ref 17)), (some (.int (Int32.ofInt n))), (some (.int (Int32.ofInt x3))), (some (.int (Int32.ofInt r22)))], [], zk c m17)) ⟨[zo, zo, zo, zo, zt], _, rfl, ⟨trivial, trivial, (Nat.lt_of_lt_of_le (Nat.le_of_ble_eq_true rfl) hN), trivial, zbt ((zi_eq rfl rfl (by unfold zR; omega) (⟨by decide, by decide⟩ : zR (-1))).mpr b24), trivial⟩⟩ rfl ?_
        obtain ⟨m25, hm25⟩ : ∃ q, q = zm_up m17 69 5 x3 := ⟨_, rfl⟩
        have hIm25 : zI c m25 := by rw [hm25]; exact zI_up hIm17 (by unfold zOk; omega) (show (-2147483648 : Int) ≤ x3 ∧ x3 ≤ 2147483647 by omega)
        have em25 : m25 69 5 = x3 := by rw [hm25]; exact zm_eq
        have f26 : m25 70 184 = m17 70 184 := by rw [hm25]; exact zm_ne (by omega)
        have f27 : m25 17 184 = m17 17 184 := by rw [hm25]; exact zm_ne (by omega)
        have tk28 : zF 0 m0 m25 := by rw [hm25]; exact zF_up tk20 (by unfold zQ; omega)
        have tk29 : m25 17 184 = m0 17 184 := by rw [hm25, zm_ne (by omega)]; exact tk21
        clear tk20
        refine zW.step (st1 := (82, [(some (.ref 69)), (some (.ref 17)), (some (.int (Int32.ofInt n))), (some (.int (Int32.ofInt x3))), (some (.int (Int32.ofInt r22)))], [], z_hup (zk c m17) 69 (.inr (2, [.ref 13, .ref 18, .ref 70, .ref 71, .ref 72, .int (Int32.ofInt x3), .int (Int32.ofInt (m17 69 6))])))) (st2 := (82, [(some (.ref 69)), (some (.ref 17)), (some (.int (Int32.ofInt n))), (some (.int (Int32.ofInt x3))), (some (.int (Int32.ofInt r22)))], [], zk c m25)) ⟨[zo, zo, zo], _, rfl, ⟨trivial, trivial, ⟨(Nat.lt_of_lt_of_le (Nat.le_of_ble_eq_true rfl) hN), rfl, rfl⟩, trivial⟩⟩ (z_steq rfl rfl ((zk_up c m17 69 5 x3 _ rfl).trans (by rw [hm25]))) ?_
        clear em12
        obtain ⟨m30, hm30⟩ : ∃ q, q = zm_up m25 69 6 r22 := ⟨_, rfl⟩
        have hIm30 : zI c m30 := by rw [hm30]; exact zI_up hIm25 (by unfold zOk; omega) (show (-2147483648 : Int) ≤ r22 ∧ r22 ≤ 2147483647 by omega)
        have em30 : m30 69 6 = r22 := by rw [hm30]; exact zm_eq
        have f31 : m30 70 184 = m25 70 184 := by rw [hm30]; exact zm_ne (by omega)
        have f32 : m30 17 184 = m25 17 184 := by rw [hm30]; exact zm_ne (by omega)
        have tk33 : zF 0 m0 m30 := by rw [hm30]; exact zF_up tk28 (by unfold zQ; omega)
        have tk34 : m30 17 184 = m0 17 184 := by rw [hm30, zm_ne (by omega)]; exact tk29
        clear tk28
        refine zW.step (st1 := (88, [(some (.ref 69)), (some (.ref 17)), (some (.int (Int32.ofInt n))), (some (.int (Int32.ofInt x3))), (some (.int (Int32.ofInt r22)))], [], z_hup (zk c m25) 69 (.inr (2, [.ref 13, .ref 18, .ref 70, .ref 71, .ref 72, .int (Int32.ofInt (m25 69 5)), .int (Int32.ofInt r22)])))) (st2 := (88, [(some (.ref 69)), (some (.ref 17)), (some (.int (Int32.ofInt n))), (some (.int (Int32.ofInt x3))), (some (.int (Int32.ofInt r22)))], [], zk c m30)) ⟨[zo, zo, zo], _, rfl, ⟨trivial, trivial, ⟨(Nat.lt_of_lt_of_le (Nat.le_of_ble_eq_true rfl) hN), rfl, rfl⟩, trivial⟩⟩ (z_steq rfl rfl ((zk_up c m25 69 6 r22 _ rfl).trans (by rw [hm30]))) ?_
        refine zW.step (st1 := (12, [(some (.ref 69)), (some (.ref 17)), (some (.int (Int32.ofInt n))), (some (.int ((Int32.ofInt x3) + Int32.ofInt 1))), (some (.int (Int32.ofInt r22)))], [], zk c m30)) (st2 := (12, [(some (.ref 69)), (some (.ref 17)), (some (.int (Int32.ofInt n))), (some (.int (Int32.ofInt (x3 + 1)))), (some (.int (Int32.ofInt r22)))], [], zk c m30)) ⟨[zo, zo], _, rfl, ⟨trivial, trivial, trivial⟩⟩ (z_steq (z_c1 rfl (z_c1 rfl (z_c1 rfl (z_c1 (z_si (zi_add rfl rfl)) rfl)))) rfl rfl) ?_
        exact ih _ (by omega) (x3 + 1) (some (.int (Int32.ofInt r22))) m30 hIm30 (by omega) (by omega) tk33 tk34 rfl
      · refine zW.step (st1 := (68, [(some (.ref 69)), (some (.ref 17)), (some (.int (Int32.ofInt n))), (some (.int (Int32.ofInt x3))), (some (.int (Int32.ofInt r22)))], [], zk c m17)) (st2 := (68, [(some (.ref 69)), (some (.ref 17)), (some (.int (Int32.ofInt n))), (some (.int (Int32.ofInt x3))), (some (.int (Int32.ofInt r22)))], [], zk c m17)) ⟨[zo, zo, zo, zo, zo], _, rfl, ⟨trivial, trivial, (Nat.lt_of_lt_of_le (Nat.le_of_ble_eq_true rfl) hN), trivial, zbf (fun q => b24 ((zi_eq rfl rfl (by unfold zR; omega) (⟨by decide, by decide⟩ : zR (-1))).mp q)), trivial⟩⟩ rfl ?_
        have f35 : (-2147483648 : Int) ≤ m17 69 6 ∧ m17 69 6 ≤ 2147483647 := hIm17.1 69 6
        by_cases b36 : r22 ≤ (m17 69 6)
        · refine zW.step (st1 := (88, [(some (.ref 69)), (some (.ref 17)), (some (.int (Int32.ofInt n))), (some (.int (Int32.ofInt x3))), (some (.int (Int32.ofInt r22)))], [], zk c m17)) (st2 := (88, [(some (.ref 69)), (some (.ref 17)), (some (.int (Int32.ofInt n))), (some (.int (Int32.ofInt x3))), (some (.int (Int32.ofInt r22)))], [], zk c m17)) ⟨[zo, zo, zo, zt], _, rfl, ⟨trivial, trivial, (Nat.lt_of_lt_of_le (Nat.le_of_ble_eq_true rfl) hN), zbt ((zi_le rfl rfl (by unfold zR; omega) (by unfold zR; omega)).mpr b36), trivial⟩⟩ rfl ?_
          refine zW.step (st1 := (12, [(some (.ref 69)), (some (.ref 17)), (some (.int (Int32.ofInt n))), (some (.int ((Int32.ofInt x3) + Int32.ofInt 1))), (some (.int (Int32.ofInt r22)))], [], zk c m17)) (st2 := (12, [(some (.ref 69)), (some (.ref 17)), (some (.int (Int32.ofInt n))), (some (.int (Int32.ofInt (x3 + 1)))), (some (.int (Int32.ofInt r22)))], [], zk c m17)) ⟨[zo, zo], _, rfl, ⟨trivial, trivial, trivial⟩⟩ (z_steq (z_c1 rfl (z_c1 rfl (z_c1 rfl (z_c1 (z_si (zi_add rfl rfl)) rfl)))) rfl rfl) ?_
          exact ih _ (by omega) (x3 + 1) (some (.int (Int32.ofInt r22))) m17 hIm17 (by omega) (by omega) tk20 tk21 rfl
        · refine zW.step (st1 := (77, [(some (.ref 69)), (some (.ref 17)), (some (.int (Int32.ofInt n))), (some (.int (Int32.ofInt x3))), (some (.int (Int32.ofInt r22)))], [], zk c m17)) (st2 := (77, [(some (.ref 69)), (some (.ref 17)), (some (.int (Int32.ofInt n))), (some (.int (Int32.ofInt x3))), (some (.int (Int32.ofInt r22)))], [], zk c m17)) ⟨[zo, zo, zo, zo], _, rfl, ⟨trivial, trivial, (Nat.lt_of_lt_of_le (Nat.le_of_ble_eq_true rfl) hN), zbf (fun q => b36 ((zi_le rfl rfl (by unfold zR; omega) (by unfold zR; omega)).mp q)), trivial⟩⟩ rfl ?_
          obtain ⟨m37, hm37⟩ : ∃ q, q = zm_up m17 69 5 x3 := ⟨_, rfl⟩
          have hIm37 : zI c m37 := by rw [hm37]; exact zI_up hIm17 (by unfold zOk; omega) (show (-2147483648 : Int) ≤ x3 ∧ x3 ≤ 2147483647 by omega)
          have em37 : m37 69 5 = x3 := by rw [hm37]; exact zm_eq
          have f38 : m37 69 6 = m17 69 6 := by rw [hm37]; exact zm_ne (by omega)
          have f39 : m37 70 184 = m17 70 184 := by rw [hm37]; exact zm_ne (by omega)
          have f40 : m37 17 184 = m17 17 184 := by rw [hm37]; exact zm_ne (by omega)
          have tk41 : zF 0 m0 m37 := by rw [hm37]; exact zF_up tk20 (by unfold zQ; omega)
          have tk42 : m37 17 184 = m0 17 184 := by rw [hm37, zm_ne (by omega)]; exact tk21
          clear tk20
          refine zW.step (st1 := (82, [(some (.ref 69)), (some (.ref 17)), (some (.int (Int32.ofInt n))), (some (.int (Int32.ofInt x3))), (some (.int (Int32.ofInt r22)))], [], z_hup (zk c m17) 69 (.inr (2, [.ref 13, .ref 18, .ref 70, .ref 71, .ref 72, .int (Int32.ofInt x3), .int (Int32.ofInt (m17 69 6))])))) (st2 := (82, [(some (.ref 69)), (some (.ref 17)), (some (.int (Int32.ofInt n))), (some (.int (Int32.ofInt x3))), (some (.int (Int32.ofInt r22)))], [], zk c m37)) ⟨[zo, zo, zo], _, rfl, ⟨trivial, trivial, ⟨(Nat.lt_of_lt_of_le (Nat.le_of_ble_eq_true rfl) hN), rfl, rfl⟩, trivial⟩⟩ (z_steq rfl rfl ((zk_up c m17 69 5 x3 _ rfl).trans (by rw [hm37]))) ?_
          clear em12
          obtain ⟨m43, hm43⟩ : ∃ q, q = zm_up m37 69 6 r22 := ⟨_, rfl⟩
          have hIm43 : zI c m43 := by rw [hm43]; exact zI_up hIm37 (by unfold zOk; omega) (show (-2147483648 : Int) ≤ r22 ∧ r22 ≤ 2147483647 by omega)
          have em43 : m43 69 6 = r22 := by rw [hm43]; exact zm_eq
          have f44 : m43 70 184 = m37 70 184 := by rw [hm43]; exact zm_ne (by omega)
          have f45 : m43 17 184 = m37 17 184 := by rw [hm43]; exact zm_ne (by omega)
          have tk46 : zF 0 m0 m43 := by rw [hm43]; exact zF_up tk41 (by unfold zQ; omega)
          have tk47 : m43 17 184 = m0 17 184 := by rw [hm43, zm_ne (by omega)]; exact tk42
          clear tk41
          refine zW.step (st1 := (88, [(some (.ref 69)), (some (.ref 17)), (some (.int (Int32.ofInt n))), (some (.int (Int32.ofInt x3))), (some (.int (Int32.ofInt r22)))], [], z_hup (zk c m37) 69 (.inr (2, [.ref 13, .ref 18, .ref 70, .ref 71, .ref 72, .int (Int32.ofInt (m37 69 5)), .int (Int32.ofInt r22)])))) (st2 := (88, [(some (.ref 69)), (some (.ref 17)), (some (.int (Int32.ofInt n))), (some (.int (Int32.ofInt x3))), (some (.int (Int32.ofInt r22)))], [], zk c m43)) ⟨[zo, zo, zo], _, rfl, ⟨trivial, trivial, ⟨(Nat.lt_of_lt_of_le (Nat.le_of_ble_eq_true rfl) hN), rfl, rfl⟩, trivial⟩⟩ (z_steq rfl rfl ((zk_up c m37 69 6 r22 _ rfl).trans (by rw [hm43]))) ?_
          refine zW.step (st1 := (12, [(some (.ref 69)), (some (.ref 17)), (some (.int (Int32.ofInt n))), (some (.int ((Int32.ofInt x3) + Int32.ofInt 1))), (some (.int (Int32.ofInt r22)))], [], zk c m43)) (st2 := (12, [(some (.ref 69)), (some (.ref 17)), (some (.int (Int32.ofInt n))), (some (.int (Int32.ofInt (x3 + 1)))), (some (.int (Int32.ofInt r22)))], [], zk c m43)) ⟨[zo, zo], _, rfl, ⟨trivial, trivial, trivial⟩⟩ (z_steq (z_c1 rfl (z_c1 rfl (z_c1 rfl (z_c1 (z_si (zi_add rfl rfl)) rfl)))) rfl rfl) ?_
          exact ih _ (by omega) (x3 + 1) (some (.int (Int32.ofInt r22))) m43 hIm43 (by omega) (by omega) tk46 tk47 rfl
    · refine zW.step (st1 := (88, [(some (.ref 69)), (some (.ref 17)), (some (.int (Int32.ofInt n))), (some (.int (Int32.ofInt x3))), o4], [], zk c m)) (st2 := (88, [(some (.ref 69)), (some (.ref 17)), (some (.int (Int32.ofInt n))), (some (.int (Int32.ofInt x3))), o4], [], zk c m)) ⟨[zo, zo, zo, zo, (false, 0, none, zh0, some (.inl (0, 188, .inl (fun j => Int32.ofInt (m 17 j))))), zo, zt], _, rfl, ⟨trivial, trivial, trivial, trivial, ⟨zk_ra c m zA_17 (Nat.lt_of_lt_of_le (Nat.le_of_ble_eq_true rfl) hN), zi_in (zi_add (by decide : (Int8.ofInt 70).toInt32 = Int32.ofInt 70) rfl) (by omega) (by omega) (by decide)⟩, trivial, zbt (fun q => b6 ((zi_eq ((zk_rd (f := m 17) (zi_add (by decide : (Int8.ofInt 70).toInt32 = Int32.ofInt 70) rfl) (by unfold zR; omega)).trans rfl : Int32.ofInt (m 17 (((Int8.ofInt 70).toInt32) + (Int32.ofInt x3)).toNatClampNeg) = Int32.ofInt (m 17 ((70 + x3).toNat))) rfl (by unfold zR; omega) (⟨by decide, by decide⟩ : zR 1)).mp q)), trivial⟩⟩ rfl ?_
      refine zW.step (st1 := (12, [(some (.ref 69)), (some (.ref 17)), (some (.int (Int32.ofInt n))), (some (.int ((Int32.ofInt x3) + Int32.ofInt 1))), o4], [], zk c m)) (st2 := (12, [(some (.ref 69)), (some (.ref 17)), (some (.int (Int32.ofInt n))), (some (.int (Int32.ofInt (x3 + 1)))), o4], [], zk c m)) ⟨[zo, zo], _, rfl, ⟨trivial, trivial, trivial⟩⟩ (z_steq (z_c1 rfl (z_c1 rfl (z_c1 rfl (z_c1 (z_si (zi_add rfl rfl)) rfl)))) rfl rfl) ?_
      exact ih _ (by omega) (x3 + 1) o4 m hIm (by omega) (by omega) tF tCn rfl

set_option maxRecDepth 100000 in
set_option maxHeartbeats 4000000 in
theorem S_X2_spare (zn : Bool) (d : Nat) {c : Nat × Nat} (hN : 107 ≤ c.1) (hC : c.1 < z_RO) (n : Int) (m : zM) (hIm : zI c m) (r_n : -2147483648 ≤ n ∧ n ≤ 2147483647) (hn : n ≤ 60) (hh : m 17 184 ≤ 999999000) : zCv zn (d + 6) 58 [.ref 69, .ref 17, .int (Int32.ofInt n)] c m (fun (m1 : zM) => zI c m1 ∧ zF 0 m m1) := by
  refine zCv.of zu_X2_spare hC (Nat.le_of_ble_eq_true rfl) ?_
  show zW zn (d + 5) 58 c (0, [(some (.ref 69)), (some (.ref 17)), (some (.int (Int32.ofInt n))), none, none], [], zk c m) (fun v h1 => ∃ (m1 : zM), v = none ∧ h1 = zk c m1 ∧ zI c m1 ∧ zF 0 m m1)
  have f48 : (0 : Int) ≤ m 70 184 ∧ m 70 184 ≤ 1000000000 := zr_h hIm zS_70
  have f49 : (0 : Int) ≤ m 17 184 ∧ m 17 184 ≤ 1000000000 := zr_h hIm zS_17
  obtain ⟨m50, hm50⟩ : ∃ q, q = zm_up m 69 5 (-1) := ⟨_, rfl⟩
  have hIm50 : zI c m50 := by rw [hm50]; exact zI_up hIm (by unfold zOk; omega) (show (-2147483648 : Int) ≤ (-1) ∧ (-1) ≤ 2147483647 by omega)
  have em50 : m50 69 5 = (-1) := by rw [hm50]; exact zm_eq
  have f51 : m50 70 184 = m 70 184 := by rw [hm50]; exact zm_ne (by omega)
  have f52 : m50 17 184 = m 17 184 := by rw [hm50]; exact zm_ne (by omega)
  have tk53 : zF 0 m m50 := by rw [hm50]; exact zF_up zF_rf (by unfold zQ; omega)
  have tk54 : m50 17 184 = m 17 184 := by rw [hm50, zm_ne (by omega)]
  refine zW.step (st1 := (5, [(some (.ref 69)), (some (.ref 17)), (some (.int (Int32.ofInt n))), none, none], [], z_hup (zk c m) 69 (.inr (2, [.ref 13, .ref 18, .ref 70, .ref 71, .ref 72, .int (Int32.ofInt (-1)), .int (Int32.ofInt (m 69 6))])))) (st2 := (5, [(some (.ref 69)), (some (.ref 17)), (some (.int (Int32.ofInt n))), none, none], [], zk c m50)) ⟨[zo, zo, zo], _, rfl, ⟨trivial, trivial, ⟨(Nat.lt_of_lt_of_le (Nat.le_of_ble_eq_true rfl) hN), rfl, rfl⟩, trivial⟩⟩ (z_steq rfl rfl ((zk_up c m 69 5 (-1) _ rfl).trans (by rw [hm50]))) ?_
  obtain ⟨m55, hm55⟩ : ∃ q, q = zm_up m50 69 6 0 := ⟨_, rfl⟩
  have hIm55 : zI c m55 := by rw [hm55]; exact zI_up hIm50 (by unfold zOk; omega) (show (-2147483648 : Int) ≤ 0 ∧ 0 ≤ 2147483647 by omega)
  have em55 : m55 69 6 = 0 := by rw [hm55]; exact zm_eq
  have f56 : m55 70 184 = m50 70 184 := by rw [hm55]; exact zm_ne (by omega)
  have f57 : m55 17 184 = m50 17 184 := by rw [hm55]; exact zm_ne (by omega)
  have tk58 : zF 0 m m55 := by rw [hm55]; exact zF_up tk53 (by unfold zQ; omega)
  have tk59 : m55 17 184 = m 17 184 := by rw [hm55, zm_ne (by omega)]; exact tk54
  clear tk53
  refine zW.step (st1 := (10, [(some (.ref 69)), (some (.ref 17)), (some (.int (Int32.ofInt n))), none, none], [], z_hup (zk c m50) 69 (.inr (2, [.ref 13, .ref 18, .ref 70, .ref 71, .ref 72, .int (Int32.ofInt (m50 69 5)), .int (Int32.ofInt 0)])))) (st2 := (10, [(some (.ref 69)), (some (.ref 17)), (some (.int (Int32.ofInt n))), none, none], [], zk c m55)) ⟨[zo, zo, zo], _, rfl, ⟨trivial, trivial, ⟨(Nat.lt_of_lt_of_le (Nat.le_of_ble_eq_true rfl) hN), rfl, rfl⟩, trivial⟩⟩ (z_steq rfl rfl ((zk_up c m50 69 6 0 _ rfl).trans (by rw [hm55]))) ?_
  refine zW.step (st1 := (12, [(some (.ref 69)), (some (.ref 17)), (some (.int (Int32.ofInt n))), (some (.int (Int32.ofInt 0))), none], [], zk c m55)) (st2 := (12, [(some (.ref 69)), (some (.ref 17)), (some (.int (Int32.ofInt n))), (some (.int (Int32.ofInt 0))), none], [], zk c m55)) ⟨[zo, zo], _, rfl, ⟨trivial, trivial, trivial⟩⟩ rfl ?_
  refine L_X2_spare_12 zn _ hN hC n r_n hn m _ (fun x3_60 o4_60 m_60 hIm_60 i1_60 i2_60 tF_60 tCn_60 => ?_) _ 0 none m55 hIm55 (by omega) (by omega) tk58 tk59 rfl
  have f61 : (0 : Int) ≤ m_60 70 184 ∧ m_60 70 184 ≤ 1000000000 := zr_h hIm_60 zS_70
  have f62 : (0 : Int) ≤ m_60 17 184 ∧ m_60 17 184 ≤ 1000000000 := zr_h hIm_60 zS_17
  exact zW.fin (zfin_v rfl rfl) ⟨m_60, rfl, rfl, hIm_60, tF_60⟩

set_option maxRecDepth 100000 in
set_option maxHeartbeats 4000000 in
theorem L_X2_play_76 (zn : Bool) (d : Nat) {c : Nat × Nat} (hN : 107 ≤ c.1) (hC : c.1 < z_RO) (a : Int) (b : Int) (n : Int) (price : Int) (r_a : -2147483648 ≤ a ∧ a ≤ 2147483647) (r_b : -2147483648 ≤ b ∧ b ≤ 2147483647) (r_n : -2147483648 ≤ n ∧ n ≤ 2147483647) (r_price : -2147483648 ≤ price ∧ price ≤ 2147483647) (ha : 0 ≤ a ∧ a ≤ 9) (hb : 0 ≤ b ∧ b ≤ 9) (hn : n ≤ 60) (hpr : 0 ≤ price ∧ price ≤ 99) (x6 : Int) (m0 : zM) (Q : Option Value → z_H → Prop) (K : ∀ (x7 : Int) (m : zM), zI c m → 0 ≤ x6 ∧ x6 ≤ 15 → 0 ≤ x7 ∧ x7 ≤ 60 → m 17 184 ≤ 999999000 → m 70 184 ≤ 999999000 + x7 → zF 0 m0 m → m 17 184 = m0 17 184 → zW zn (d + 4) 56 c (144, [(some (.ref 69)), (some (.ref 17)), (some (.int (Int32.ofInt a))), (some (.int (Int32.ofInt b))), (some (.int (Int32.ofInt n))), (some (.int (Int32.ofInt price))), (some (.int (Int32.ofInt x6))), (some (.int (Int32.ofInt x7)))], [], zk c m) Q) :
    ∀ (w : Nat) (x7 : Int) (m : zM), zI c m → 0 ≤ x6 ∧ x6 ≤ 15 → 0 ≤ x7 ∧ x7 ≤ 60 → m 17 184 ≤ 999999000 → m 70 184 ≤ 999999000 + x7 → zF 0 m0 m → m 17 184 = m0 17 184 → w = (60 - x7).toNat → zW zn (d + 4) 56 c (76, [(some (.ref 69)), (some (.ref 17)), (some (.int (Int32.ofInt a))), (some (.int (Int32.ofInt b))), (some (.int (Int32.ofInt n))), (some (.int (Int32.ofInt price))), (some (.int (Int32.ofInt x6))), (some (.int (Int32.ofInt x7)))], [], zk c m) Q := by
  intro w
  induction w using Nat.strongRecOn with | _ w ih => ?_
  intro x7 m hIm i0 i1 i2 i3 tF tCn hw
  have f1 : (0 : Int) ≤ m 70 184 ∧ m 70 184 ≤ 1000000000 := zr_h hIm zS_70
  have f2 : (0 : Int) ≤ m 17 184 ∧ m 17 184 ≤ 1000000000 := zr_h hIm zS_17
  by_cases b3 : n ≤ x7
  · refine zW.step (st1 := (144, [(some (.ref 69)), (some (.ref 17)), (some (.int (Int32.ofInt a))), (some (.int (Int32.ofInt b))), (some (.int (Int32.ofInt n))), (some (.int (Int32.ofInt price))), (some (.int (Int32.ofInt x6))), (some (.int (Int32.ofInt x7)))], [], zk c m)) (st2 := (144, [(some (.ref 69)), (some (.ref 17)), (some (.int (Int32.ofInt a))), (some (.int (Int32.ofInt b))), (some (.int (Int32.ofInt n))), (some (.int (Int32.ofInt price))), (some (.int (Int32.ofInt x6))), (some (.int (Int32.ofInt x7)))], [], zk c m)) ⟨[zo, zo, zt], _, rfl, ⟨trivial, trivial, zbt ((zi_le rfl rfl (by unfold zR; omega) (by unfold zR; omega)).mpr b3), trivial⟩⟩ rfl ?_
    exact K x7 m hIm (by omega) (by omega) (by omega) (by omega) tF tCn
  · refine zW.step (st1 := (83, [(some (.ref 69)), (some (.ref 17)), (some (.int (Int32.ofInt a))), (some (.int (Int32.ofInt b))), (some (.int (Int32.ofInt n))), (some (.int (Int32.ofInt price))), (some (.int (Int32.ofInt x6))), (some (.int (Int32.ofInt x7)))], [], zk c m)) (st2 := (83, [(some (.ref 69)), (some (.ref 17)), (some (.int (Int32.ofInt a))), (some (.int (Int32.ofInt b))), (some (.int (Int32.ofInt n))), (some (.int (Int32.ofInt price))), (some (.int (Int32.ofInt x6))), (some (.int (Int32.ofInt x7)))], [], zk c m)) ⟨[zo, zo, zo], _, rfl, ⟨trivial, trivial, zbf (fun q => b3 ((zi_le rfl rfl (by unfold zR; omega) (by unfold zR; omega)).mp q)), trivial⟩⟩ rfl ?_
    refine zW.step (st1 := (91, [(some (.ref 69)), (some (.ref 17)), (some (.int (Int32.ofInt a))), (some (.int (Int32.ofInt b))), (some (.int (Int32.ofInt n))), (some (.int (Int32.ofInt price))), (some (.int (Int32.ofInt x6))), (some (.int (Int32.ofInt x7)))], [.ref 70, .ref 18], zk c m)) (st2 := (91, [(some (.ref 69)), (some (.ref 17)), (some (.int (Int32.ofInt a))), (some (.int (Int32.ofInt b))), (some (.int (Int32.ofInt n))), (some (.int (Int32.ofInt price))), (some (.int (Int32.ofInt x6))), (some (.int (Int32.ofInt x7)))], [.ref 70, .ref 18], zk c m)) ⟨[zo, zo, zo, zo], _, rfl, ⟨trivial, (Nat.lt_of_lt_of_le (Nat.le_of_ble_eq_true rfl) hN), trivial, (Nat.lt_of_lt_of_le (Nat.le_of_ble_eq_true rfl) hN), trivial⟩⟩ rfl ?_
    obtain ⟨m4, hs4, hIm4, hr_4, kF_4⟩ := S_X3_pass zn (d + 0) hN hC 70 m hIm zS_70 (by omega) (by omega)
    refine zW.step (st1 := (94, [(some (.ref 69)), (some (.ref 17)), (some (.int (Int32.ofInt a))), (some (.int (Int32.ofInt b))), (some (.int (Int32.ofInt n))), (some (.int (Int32.ofInt price))), (some (.int (Int32.ofInt x6))), (some (.int (Int32.ofInt x7)))], [], zk c m4)) ⟨[zc (none) (zk c m4)], _, rfl, ⟨⟨⟨(Nat.lt_of_lt_of_le (Nat.le_of_ble_eq_true rfl) hN), (Nat.le_of_ble_eq_true rfl)⟩, hs4, (Nat.le_of_ble_eq_true rfl), Nat.le_refl _, Nat.le_refl _, Nat.le_refl _, Nat.le_refl _⟩, trivial⟩⟩ rfl ?_
    have f5 : (0 : Int) ≤ m4 70 184 ∧ m4 70 184 ≤ 1000000000 := zr_h hIm4 zS_70
    have f6 : (0 : Int) ≤ m4 17 184 ∧ m4 17 184 ≤ 1000000000 := zr_h hIm4 zS_17
    have tk7 : zF 0 m0 m4 := zF_tr tF kF_4 (by unfold zQ; omega)
    have tk8 : m4 17 184 = m0 17 184 := (kF_4 17 (by unfold zQ; omega) (by omega)).trans tCn
    have f9 : (-2147483648 : Int) ≤ m4 71 x6.toNat ∧ m4 71 x6.toNat ≤ 2147483647 := hIm4.1 71 x6.toNat
    have f10 : (-2147483648 : Int) ≤ m4 19 a.toNat ∧ m4 19 a.toNat ≤ 2147483647 := hIm4.1 19 a.toNat
    have f11 := zwR ((m4 71 x6.toNat) + (10 * (m4 19 a.toNat)))
    have f12 := zwI ((m4 71 x6.toNat) + (10 * (m4 19 a.toNat)))
    obtain ⟨m13, hm13⟩ : ∃ q, q = zm_up m4 71 x6.toNat (zw ((m4 71 x6.toNat) + (10 * (m4 19 a.toNat)))) := ⟨_, rfl⟩
    have hIm13 : zI c m13 := by rw [hm13]; exact zI_up hIm4 (by unfold zOk; omega) (show (-2147483648 : Int) ≤ (zw ((m4 71 x6.toNat) + (10 * (m4 19 a.toNat)))) ∧ (zw ((m4 71 x6.toNat) + (10 * (m4 19 a.toNat)))) ≤ 2147483647 by omega)
    have em13 : m13 71 x6.toNat = (zw ((m4 71 x6.toNat) + (10 * (m4 19 a.toNat)))) := by rw [hm13]; exact zm_eq
    have f14 : m13 70 184 = m4 70 184 := by rw [hm13]; exact zm_ne (by omega)
    have f15 : m13 17 184 = m4 17 184 := by rw [hm13]; exact zm_ne (by omega)
    have tk16 : zF 0 m0 m13 := by rw [hm13]; exact zF_up tk7 (by unfold zQ; omega)
    have tk17 : m13 17 184 = m0 17 184 := by rw [hm13, zm_ne (by omega)]; exact tk8
    clear tk7
    refine zW.step (st1 := (116, [(some (.ref 69)), (some (.ref 17)), (some (.int (Int32.ofInt a))), (some (.int (Int32.ofInt b))), (some (.int (Int32.ofInt n))), (some (.int (Int32.ofInt price))), (some (.int (Int32.ofInt x6))), (some (.int (Int32.ofInt x7)))], [], z_hup (zk c m4) 71 (.inl (0, 16, .inl (upd (fun j => Int32.ofInt (m4 71 j)) (Int32.ofInt x6).toNatClampNeg ((Int32.ofInt (m4 71 (Int32.ofInt x6).toNatClampNeg)) + (((Int8.ofInt 10).toInt32) * (Int32.ofInt (m4 19 (Int32.ofInt a).toNatClampNeg))))))))) (st2 := (116, [(some (.ref 69)), (some (.ref 17)), (some (.int (Int32.ofInt a))), (some (.int (Int32.ofInt b))), (some (.int (Int32.ofInt n))), (some (.int (Int32.ofInt price))), (some (.int (Int32.ofInt x6))), (some (.int (Int32.ofInt x7)))], [], zk c m13)) ⟨[zo, zo, zo, zo, (false, 0, none, zh0, some (.inl (0, 16, .inl (fun j => Int32.ofInt (m4 71 j))))), zo, zo, zo, zo, zo, (false, 0, none, zh0, some (.inl (0, 10, .inl (fun j => Int32.ofInt (m4 19 j))))), zo, zo, (false, 0, none, zh0, some (.inl (0, 16, .inl (fun j => Int32.ofInt (m4 71 j)))))], _, rfl, ⟨trivial, (Nat.lt_of_lt_of_le (Nat.le_of_ble_eq_true rfl) hN), trivial, trivial, ⟨zk_ra c m4 zA_71 (Nat.lt_of_lt_of_le (Nat.le_of_ble_eq_true rfl) hN), zi_in rfl (by omega) (by omega) (by decide)⟩, trivial, trivial, (Nat.lt_of_lt_of_le (Nat.le_of_ble_eq_true rfl) hN), (Nat.lt_of_lt_of_le (Nat.le_of_ble_eq_true rfl) hN), trivial, ⟨zk_ra c m4 zA_19 (Nat.lt_of_lt_of_le (Nat.le_of_ble_eq_true rfl) hN), zi_in rfl (by omega) (by omega) (by decide)⟩, trivial, trivial, ⟨zk_ra c m4 zA_71 (Nat.lt_of_lt_of_le (Nat.le_of_ble_eq_true rfl) hN), zi_in rfl (by omega) (by omega) (by decide)⟩, trivial⟩⟩ (z_steq rfl rfl ((zk_ias c m4 zA_71 rfl (by unfold zR; omega) (Eq.trans (zi_add ((zk_rd (f := m4 71) rfl (by unfold zR; omega)).trans rfl : Int32.ofInt (m4 71 (Int32.ofInt x6).toNatClampNeg) = Int32.ofInt (m4 71 x6.toNat)) (zi_mul (by decide : (Int8.ofInt 10).toInt32 = Int32.ofInt 10) ((zk_rd (f := m4 19) rfl (by unfold zR; omega)).trans rfl : Int32.ofInt (m4 19 (Int32.ofInt a).toNatClampNeg) = Int32.ofInt (m4 19 a.toNat)))) (zw_eq _))).trans (by rw [hm13]))) ?_
    clear f9 f10 f11 f12 em13
    have f18 : (-2147483648 : Int) ≤ m13 72 x6.toNat ∧ m13 72 x6.toNat ≤ 2147483647 := hIm13.1 72 x6.toNat
    have f19 : (-2147483648 : Int) ≤ m13 19 b.toNat ∧ m13 19 b.toNat ≤ 2147483647 := hIm13.1 19 b.toNat
    have f20 := zwR ((m13 72 x6.toNat) + (10 * (m13 19 b.toNat)))
    have f21 := zwI ((m13 72 x6.toNat) + (10 * (m13 19 b.toNat)))
    obtain ⟨m22, hm22⟩ : ∃ q, q = zm_up m13 72 x6.toNat (zw ((m13 72 x6.toNat) + (10 * (m13 19 b.toNat)))) := ⟨_, rfl⟩
    have hIm22 : zI c m22 := by rw [hm22]; exact zI_up hIm13 (by unfold zOk; omega) (show (-2147483648 : Int) ≤ (zw ((m13 72 x6.toNat) + (10 * (m13 19 b.toNat)))) ∧ (zw ((m13 72 x6.toNat) + (10 * (m13 19 b.toNat)))) ≤ 2147483647 by omega)
    have em22 : m22 72 x6.toNat = (zw ((m13 72 x6.toNat) + (10 * (m13 19 b.toNat)))) := by rw [hm22]; exact zm_eq
    have f23 : m22 70 184 = m13 70 184 := by rw [hm22]; exact zm_ne (by omega)
    have f24 : m22 17 184 = m13 17 184 := by rw [hm22]; exact zm_ne (by omega)
    have tk25 : zF 0 m0 m22 := by rw [hm22]; exact zF_up tk16 (by unfold zQ; omega)
    have tk26 : m22 17 184 = m0 17 184 := by rw [hm22, zm_ne (by omega)]; exact tk17
    clear tk16
    refine zW.step (st1 := (138, [(some (.ref 69)), (some (.ref 17)), (some (.int (Int32.ofInt a))), (some (.int (Int32.ofInt b))), (some (.int (Int32.ofInt n))), (some (.int (Int32.ofInt price))), (some (.int (Int32.ofInt x6))), (some (.int (Int32.ofInt x7)))], [], z_hup (zk c m13) 72 (.inl (0, 16, .inl (upd (fun j => Int32.ofInt (m13 72 j)) (Int32.ofInt x6).toNatClampNeg ((Int32.ofInt (m13 72 (Int32.ofInt x6).toNatClampNeg)) + (((Int8.ofInt 10).toInt32) * (Int32.ofInt (m13 19 (Int32.ofInt b).toNatClampNeg))))))))) (st2 := (138, [(some (.ref 69)), (some (.ref 17)), (some (.int (Int32.ofInt a))), (some (.int (Int32.ofInt b))), (some (.int (Int32.ofInt n))), (some (.int (Int32.ofInt price))), (some (.int (Int32.ofInt x6))), (some (.int (Int32.ofInt x7)))], [], zk c m22)) ⟨[zo, zo, zo, zo, (false, 0, none, zh0, some (.inl (0, 16, .inl (fun j => Int32.ofInt (m13 72 j))))), zo, zo, zo, zo, zo, (false, 0, none, zh0, some (.inl (0, 10, .inl (fun j => Int32.ofInt (m13 19 j))))), zo, zo, (false, 0, none, zh0, some (.inl (0, 16, .inl (fun j => Int32.ofInt (m13 72 j)))))], _, rfl, ⟨trivial, (Nat.lt_of_lt_of_le (Nat.le_of_ble_eq_true rfl) hN), trivial, trivial, ⟨zk_ra c m13 zA_72 (Nat.lt_of_lt_of_le (Nat.le_of_ble_eq_true rfl) hN), zi_in rfl (by omega) (by omega) (by decide)⟩, trivial, trivial, (Nat.lt_of_lt_of_le (Nat.le_of_ble_eq_true rfl) hN), (Nat.lt_of_lt_of_le (Nat.le_of_ble_eq_true rfl) hN), trivial, ⟨zk_ra c m13 zA_19 (Nat.lt_of_lt_of_le (Nat.le_of_ble_eq_true rfl) hN), zi_in rfl (by omega) (by omega) (by decide)⟩, trivial, trivial, ⟨zk_ra c m13 zA_72 (Nat.lt_of_lt_of_le (Nat.le_of_ble_eq_true rfl) hN), zi_in rfl (by omega) (by omega) (by decide)⟩, trivial⟩⟩ (z_steq rfl rfl ((zk_ias c m13 zA_72 rfl (by unfold zR; omega) (Eq.trans (zi_add ((zk_rd (f := m13 72) rfl (by unfold zR; omega)).trans rfl : Int32.ofInt (m13 72 (Int32.ofInt x6).toNatClampNeg) = Int32.ofInt (m13 72 x6.toNat)) (zi_mul (by decide : (Int8.ofInt 10).toInt32 = Int32.ofInt 10) ((zk_rd (f := m13 19) rfl (by unfold zR; omega)).trans rfl : Int32.ofInt (m13 19 (Int32.ofInt b).toNatClampNeg) = Int32.ofInt (m13 19 b.toNat)))) (zw_eq _))).trans (by rw [hm22]))) ?_
    clear f18 f19 f20 f21 em22
    refine zW.step (st1 := (76, [(some (.ref 69)), (some (.ref 17)), (some (.int (Int32.ofInt a))), (some (.int (Int32.ofInt b))), (some (.int (Int32.ofInt n))), (some (.int (Int32.ofInt price))), (some (.int (Int32.ofInt x6))), (some (.int ((Int32.ofInt x7) + Int32.ofInt 1)))], [], zk c m22)) (st2 := (76, [(some (.ref 69)), (some (.ref 17)), (some (.int (Int32.ofInt a))), (some (.int (Int32.ofInt b))), (some (.int (Int32.ofInt n))), (some (.int (Int32.ofInt price))), (some (.int (Int32.ofInt x6))), (some (.int (Int32.ofInt (x7 + 1))))], [], zk c m22)) ⟨[zo, zo], _, rfl, ⟨trivial, trivial, trivial⟩⟩ (z_steq (z_c1 rfl (z_c1 rfl (z_c1 rfl (z_c1 rfl (z_c1 rfl (z_c1 rfl (z_c1 rfl (z_c1 (z_si (zi_add rfl rfl)) rfl)))))))) rfl rfl) ?_
    exact ih _ (by omega) (x7 + 1) m22 hIm22 (by omega) (by omega) (by omega) (by omega) tk25 tk26 rfl

set_option maxRecDepth 100000 in
set_option maxHeartbeats 4000000 in
theorem L_X2_play_3 (zn : Bool) (d : Nat) {c : Nat × Nat} (hN : 107 ≤ c.1) (hC : c.1 < z_RO) (a : Int) (b : Int) (n : Int) (price : Int) (r_a : -2147483648 ≤ a ∧ a ≤ 2147483647) (r_b : -2147483648 ≤ b ∧ b ≤ 2147483647) (r_n : -2147483648 ≤ n ∧ n ≤ 2147483647) (r_price : -2147483648 ≤ price ∧ price ≤ 2147483647) (ha : 0 ≤ a ∧ a ≤ 9) (hb : 0 ≤ b ∧ b ≤ 9) (hn : n ≤ 60) (hpr : 0 ≤ price ∧ price ≤ 99) (m0 : zM) (Q : Option Value → z_H → Prop) (K : ∀ (x6 : Int) (o7 : Option Value) (m : zM), zI c m → 0 ≤ x6 ∧ x6 ≤ 16 → m 17 184 ≤ 999999000 → zF 0 m0 m → m 17 184 = m0 17 184 → zW zn (d + 4) 56 c (150, [(some (.ref 69)), (some (.ref 17)), (some (.int (Int32.ofInt a))), (some (.int (Int32.ofInt b))), (some (.int (Int32.ofInt n))), (some (.int (Int32.ofInt price))), (some (.int (Int32.ofInt x6))), o7], [], zk c m) Q) :
    ∀ (w : Nat) (x6 : Int) (o7 : Option Value) (m : zM), zI c m → 0 ≤ x6 ∧ x6 ≤ 16 → m 17 184 ≤ 999999000 → zF 0 m0 m → m 17 184 = m0 17 184 → w = (16 - x6).toNat → zW zn (d + 4) 56 c (3, [(some (.ref 69)), (some (.ref 17)), (some (.int (Int32.ofInt a))), (some (.int (Int32.ofInt b))), (some (.int (Int32.ofInt n))), (some (.int (Int32.ofInt price))), (some (.int (Int32.ofInt x6))), o7], [], zk c m) Q := by
  intro w
  induction w using Nat.strongRecOn with | _ w ih => ?_
  intro x6 o7 m hIm i1 i2 tF tCn hw
  have f27 : (0 : Int) ≤ m 70 184 ∧ m 70 184 ≤ 1000000000 := zr_h hIm zS_70
  have f28 : (0 : Int) ≤ m 17 184 ∧ m 17 184 ≤ 1000000000 := zr_h hIm zS_17
  by_cases b29 : 16 ≤ x6
  · refine zW.step (st1 := (150, [(some (.ref 69)), (some (.ref 17)), (some (.int (Int32.ofInt a))), (some (.int (Int32.ofInt b))), (some (.int (Int32.ofInt n))), (some (.int (Int32.ofInt price))), (some (.int (Int32.ofInt x6))), o7], [], zk c m)) (st2 := (150, [(some (.ref 69)), (some (.ref 17)), (some (.int (Int32.ofInt a))), (some (.int (Int32.ofInt b))), (some (.int (Int32.ofInt n))), (some (.int (Int32.ofInt price))), (some (.int (Int32.ofInt x6))), o7], [], zk c m)) ⟨[zo, zo, zt], _, rfl, ⟨trivial, trivial, zbt ((zi_le (by decide : (Int8.ofInt 16).toInt32 = Int32.ofInt 16) rfl (⟨by decide, by decide⟩ : zR 16) (by unfold zR; omega)).mpr b29), trivial⟩⟩ rfl ?_
    exact K x6 o7 m hIm (by omega) (by omega) tF tCn
  · refine zW.step (st1 := (10, [(some (.ref 69)), (some (.ref 17)), (some (.int (Int32.ofInt a))), (some (.int (Int32.ofInt b))), (some (.int (Int32.ofInt n))), (some (.int (Int32.ofInt price))), (some (.int (Int32.ofInt x6))), o7], [], zk c m)) (st2 := (10, [(some (.ref 69)), (some (.ref 17)), (some (.int (Int32.ofInt a))), (some (.int (Int32.ofInt b))), (some (.int (Int32.ofInt n))), (some (.int (Int32.ofInt price))), (some (.int (Int32.ofInt x6))), o7], [], zk c m)) ⟨[zo, zo, zo], _, rfl, ⟨trivial, trivial, zbf (fun q => b29 ((zi_le (by decide : (Int8.ofInt 16).toInt32 = Int32.ofInt 16) rfl (⟨by decide, by decide⟩ : zR 16) (by unfold zR; omega)).mp q)), trivial⟩⟩ rfl ?_
    refine zW.step (st1 := (12, [(some (.ref 69)), (some (.ref 17)), (some (.int (Int32.ofInt a))), (some (.int (Int32.ofInt b))), (some (.int (Int32.ofInt n))), (some (.int (Int32.ofInt price))), (some (.int (Int32.ofInt x6))), o7], [.ref 17, .ref 69], zk c m)) (st2 := (12, [(some (.ref 69)), (some (.ref 17)), (some (.int (Int32.ofInt a))), (some (.int (Int32.ofInt b))), (some (.int (Int32.ofInt n))), (some (.int (Int32.ofInt price))), (some (.int (Int32.ofInt x6))), o7], [.ref 17, .ref 69], zk c m)) ⟨[zo, zo], _, rfl, ⟨trivial, trivial, trivial⟩⟩ rfl ?_
    obtain ⟨m30, hs30, hIm30, h_30, kF_30⟩ := S_X2_begin zn (d + 3) hN hC m hIm
    refine zW.step (st1 := (15, [(some (.ref 69)), (some (.ref 17)), (some (.int (Int32.ofInt a))), (some (.int (Int32.ofInt b))), (some (.int (Int32.ofInt n))), (some (.int (Int32.ofInt price))), (some (.int (Int32.ofInt x6))), o7], [], zk c m30)) ⟨[zc (none) (zk c m30)], _, rfl, ⟨⟨⟨(Nat.lt_of_lt_of_le (Nat.le_of_ble_eq_true rfl) hN), (Nat.le_of_ble_eq_true rfl)⟩, hs30, (Nat.le_of_ble_eq_true rfl), Nat.le_refl _, Nat.le_refl _, Nat.le_refl _, Nat.le_refl _⟩, trivial⟩⟩ rfl ?_
    have f31 : (0 : Int) ≤ m30 70 184 ∧ m30 70 184 ≤ 1000000000 := zr_h hIm30 zS_70
    have f32 : (0 : Int) ≤ m30 17 184 ∧ m30 17 184 ≤ 1000000000 := zr_h hIm30 zS_17
    have tk33 : zF 0 m0 m30 := zF_tr tF kF_30 (by unfold zQ; omega)
    have tk34 : m30 17 184 = m0 17 184 := (kF_30 17 (by unfold zQ; omega) (by omega)).trans tCn
    have f35 := ztd9 x6 4
    have f36 := ztdl x6 4
    have f37 := zwR (Int.tdiv x6 4)
    have f38 := zwI (Int.tdiv x6 4)
    obtain ⟨m39, hm39⟩ : ∃ q, q = zm_up m30 70 ((150 + a).toNat) (zw (Int.tdiv x6 4)) := ⟨_, rfl⟩
    have hIm39 : zI c m39 := by rw [hm39]; exact zI_up hIm30 (by unfold zOk; omega) (zrw_i zS_70 (by omega) (show (-2147483648 : Int) ≤ (zw (Int.tdiv x6 4)) ∧ (zw (Int.tdiv x6 4)) ≤ 2147483647 by omega))
    have em39 : m39 70 ((150 + a).toNat) = (zw (Int.tdiv x6 4)) := by rw [hm39]; exact zm_eq
    have f40 : m39 70 184 = m30 70 184 := by rw [hm39]; exact zm_ne (by omega)
    have f41 : m39 17 184 = m30 17 184 := by rw [hm39]; exact zm_ne (by omega)
    have tk42 : zF 0 m0 m39 := by rw [hm39]; exact zF_up tk33 (by unfold zQ; omega)
    have tk43 : m39 17 184 = m0 17 184 := by rw [hm39, zm_ne (by omega)]; exact tk34
    clear tk33
    refine zW.step (st1 := (29, [(some (.ref 69)), (some (.ref 17)), (some (.int (Int32.ofInt a))), (some (.int (Int32.ofInt b))), (some (.int (Int32.ofInt n))), (some (.int (Int32.ofInt price))), (some (.int (Int32.ofInt x6))), o7], [], z_hup (zk c m30) 70 (.inl (0, 188, .inl (upd (fun j => Int32.ofInt (m30 70 j)) (((Int16.ofInt 150).toInt32) + (Int32.ofInt a)).toNatClampNeg ((Int32.ofInt x6) / (Int32.ofInt 4))))))) (st2 := (29, [(some (.ref 69)), (some (.ref 17)), (some (.int (Int32.ofInt a))), (some (.int (Int32.ofInt b))), (some (.int (Int32.ofInt n))), (some (.int (Int32.ofInt price))), (some (.int (Int32.ofInt x6))), o7], [], zk c m39)) ⟨[zo, zo, zo, zo, zo, zo, zo, zo, (false, 0, none, zh0, some (.inl (0, 188, .inl (fun j => Int32.ofInt (m30 70 j)))))], _, rfl, ⟨trivial, (Nat.lt_of_lt_of_le (Nat.le_of_ble_eq_true rfl) hN), trivial, trivial, trivial, trivial, trivial, zi_nz rfl (⟨by decide, by decide⟩ : zR 4) (by omega), ⟨zk_ra c m30 zA_70 (Nat.lt_of_lt_of_le (Nat.le_of_ble_eq_true rfl) hN), zi_in (zi_add (by decide : (Int16.ofInt 150).toInt32 = Int32.ofInt 150) rfl) (by omega) (by omega) (by decide)⟩, trivial⟩⟩ (z_steq rfl rfl ((zk_ias c m30 zA_70 (zi_add (by decide : (Int16.ofInt 150).toInt32 = Int32.ofInt 150) rfl) (by unfold zR; omega) (Eq.trans (zi_div rfl rfl (by unfold zR; omega) (⟨by decide, by decide⟩ : zR 4)) (zw_eq _))).trans (by rw [hm39]))) ?_
    have f44 := ztm9 x6 4
    have f45 := ztml x6 4
    have f46 := zwR (Int.tmod x6 4)
    have f47 := zwI (Int.tmod x6 4)
    obtain ⟨m48, hm48⟩ : ∃ q, q = zm_up m39 70 ((150 + b).toNat) (zw (Int.tmod x6 4)) := ⟨_, rfl⟩
    have hIm48 : zI c m48 := by rw [hm48]; exact zI_up hIm39 (by unfold zOk; omega) (zrw_i zS_70 (by omega) (show (-2147483648 : Int) ≤ (zw (Int.tmod x6 4)) ∧ (zw (Int.tmod x6 4)) ≤ 2147483647 by omega))
    have em48 : m48 70 ((150 + b).toNat) = (zw (Int.tmod x6 4)) := by rw [hm48]; exact zm_eq
    have f49 : m48 70 184 = m39 70 184 := by rw [hm48]; exact zm_ne (by omega)
    have f50 : m48 17 184 = m39 17 184 := by rw [hm48]; exact zm_ne (by omega)
    have tk51 : zF 0 m0 m48 := by rw [hm48]; exact zF_up tk42 (by unfold zQ; omega)
    have tk52 : m48 17 184 = m0 17 184 := by rw [hm48, zm_ne (by omega)]; exact tk43
    clear tk42
    refine zW.step (st1 := (43, [(some (.ref 69)), (some (.ref 17)), (some (.int (Int32.ofInt a))), (some (.int (Int32.ofInt b))), (some (.int (Int32.ofInt n))), (some (.int (Int32.ofInt price))), (some (.int (Int32.ofInt x6))), o7], [], z_hup (zk c m39) 70 (.inl (0, 188, .inl (upd (fun j => Int32.ofInt (m39 70 j)) (((Int16.ofInt 150).toInt32) + (Int32.ofInt b)).toNatClampNeg ((Int32.ofInt x6) - (Int32.ofInt x6) / (Int32.ofInt 4) * (Int32.ofInt 4))))))) (st2 := (43, [(some (.ref 69)), (some (.ref 17)), (some (.int (Int32.ofInt a))), (some (.int (Int32.ofInt b))), (some (.int (Int32.ofInt n))), (some (.int (Int32.ofInt price))), (some (.int (Int32.ofInt x6))), o7], [], zk c m48)) ⟨[zo, zo, zo, zo, zo, zo, zo, zo, (false, 0, none, zh0, some (.inl (0, 188, .inl (fun j => Int32.ofInt (m39 70 j)))))], _, rfl, ⟨trivial, (Nat.lt_of_lt_of_le (Nat.le_of_ble_eq_true rfl) hN), trivial, trivial, trivial, trivial, trivial, zi_nz rfl (⟨by decide, by decide⟩ : zR 4) (by omega), ⟨zk_ra c m39 zA_70 (Nat.lt_of_lt_of_le (Nat.le_of_ble_eq_true rfl) hN), zi_in (zi_add (by decide : (Int16.ofInt 150).toInt32 = Int32.ofInt 150) rfl) (by omega) (by omega) (by decide)⟩, trivial⟩⟩ (z_steq rfl rfl ((zk_ias c m39 zA_70 (zi_add (by decide : (Int16.ofInt 150).toInt32 = Int32.ofInt 150) rfl) (by unfold zR; omega) (Eq.trans (zi_rem rfl rfl (by unfold zR; omega) (⟨by decide, by decide⟩ : zR 4)) (zw_eq _))).trans (by rw [hm48]))) ?_
    clear em39
    have f53 := ztd9 x6 4
    have f54 := ztdl x6 4
    have f55 := zwR ((-price) * (Int.tdiv x6 4))
    have f56 := zwI ((-price) * (Int.tdiv x6 4))
    obtain ⟨m57, hm57⟩ : ∃ q, q = zm_up m48 71 x6.toNat (zw ((-price) * (Int.tdiv x6 4))) := ⟨_, rfl⟩
    have hIm57 : zI c m57 := by rw [hm57]; exact zI_up hIm48 (by unfold zOk; omega) (show (-2147483648 : Int) ≤ (zw ((-price) * (Int.tdiv x6 4))) ∧ (zw ((-price) * (Int.tdiv x6 4))) ≤ 2147483647 by omega)
    have em57 : m57 71 x6.toNat = (zw ((-price) * (Int.tdiv x6 4))) := by rw [hm57]; exact zm_eq
    have f58 : m57 70 184 = m48 70 184 := by rw [hm57]; exact zm_ne (by omega)
    have f59 : m57 17 184 = m48 17 184 := by rw [hm57]; exact zm_ne (by omega)
    have tk60 : zF 0 m0 m57 := by rw [hm57]; exact zF_up tk51 (by unfold zQ; omega)
    have tk61 : m57 17 184 = m0 17 184 := by rw [hm57, zm_ne (by omega)]; exact tk52
    clear tk51
    refine zW.step (st1 := (58, [(some (.ref 69)), (some (.ref 17)), (some (.int (Int32.ofInt a))), (some (.int (Int32.ofInt b))), (some (.int (Int32.ofInt n))), (some (.int (Int32.ofInt price))), (some (.int (Int32.ofInt x6))), o7], [], z_hup (zk c m48) 71 (.inl (0, 16, .inl (upd (fun j => Int32.ofInt (m48 71 j)) (Int32.ofInt x6).toNatClampNeg ((-(Int32.ofInt price)) * ((Int32.ofInt x6) / (Int32.ofInt 4)))))))) (st2 := (58, [(some (.ref 69)), (some (.ref 17)), (some (.int (Int32.ofInt a))), (some (.int (Int32.ofInt b))), (some (.int (Int32.ofInt n))), (some (.int (Int32.ofInt price))), (some (.int (Int32.ofInt x6))), o7], [], zk c m57)) ⟨[zo, zo, zo, zo, zo, zo, zo, zo, zo, (false, 0, none, zh0, some (.inl (0, 16, .inl (fun j => Int32.ofInt (m48 71 j)))))], _, rfl, ⟨trivial, (Nat.lt_of_lt_of_le (Nat.le_of_ble_eq_true rfl) hN), trivial, trivial, trivial, trivial, trivial, zi_nz rfl (⟨by decide, by decide⟩ : zR 4) (by omega), trivial, ⟨zk_ra c m48 zA_71 (Nat.lt_of_lt_of_le (Nat.le_of_ble_eq_true rfl) hN), zi_in rfl (by omega) (by omega) (by decide)⟩, trivial⟩⟩ (z_steq rfl rfl ((zk_ias c m48 zA_71 rfl (by unfold zR; omega) (Eq.trans (zi_mul (zi_neg rfl) (zi_div rfl rfl (by unfold zR; omega) (⟨by decide, by decide⟩ : zR 4))) (zw_eq _))).trans (by rw [hm57]))) ?_
    clear em48
    have f62 := ztm9 x6 4
    have f63 := ztml x6 4
    have f64 := zwR ((-price) * (Int.tmod x6 4))
    have f65 := zwI ((-price) * (Int.tmod x6 4))
    obtain ⟨m66, hm66⟩ : ∃ q, q = zm_up m57 72 x6.toNat (zw ((-price) * (Int.tmod x6 4))) := ⟨_, rfl⟩
    have hIm66 : zI c m66 := by rw [hm66]; exact zI_up hIm57 (by unfold zOk; omega) (show (-2147483648 : Int) ≤ (zw ((-price) * (Int.tmod x6 4))) ∧ (zw ((-price) * (Int.tmod x6 4))) ≤ 2147483647 by omega)
    have em66 : m66 72 x6.toNat = (zw ((-price) * (Int.tmod x6 4))) := by rw [hm66]; exact zm_eq
    have f67 : m66 70 184 = m57 70 184 := by rw [hm66]; exact zm_ne (by omega)
    have f68 : m66 17 184 = m57 17 184 := by rw [hm66]; exact zm_ne (by omega)
    have tk69 : zF 0 m0 m66 := by rw [hm66]; exact zF_up tk60 (by unfold zQ; omega)
    have tk70 : m66 17 184 = m0 17 184 := by rw [hm66, zm_ne (by omega)]; exact tk61
    clear tk60
    refine zW.step (st1 := (73, [(some (.ref 69)), (some (.ref 17)), (some (.int (Int32.ofInt a))), (some (.int (Int32.ofInt b))), (some (.int (Int32.ofInt n))), (some (.int (Int32.ofInt price))), (some (.int (Int32.ofInt x6))), o7], [], z_hup (zk c m57) 72 (.inl (0, 16, .inl (upd (fun j => Int32.ofInt (m57 72 j)) (Int32.ofInt x6).toNatClampNeg ((-(Int32.ofInt price)) * ((Int32.ofInt x6) - (Int32.ofInt x6) / (Int32.ofInt 4) * (Int32.ofInt 4)))))))) (st2 := (73, [(some (.ref 69)), (some (.ref 17)), (some (.int (Int32.ofInt a))), (some (.int (Int32.ofInt b))), (some (.int (Int32.ofInt n))), (some (.int (Int32.ofInt price))), (some (.int (Int32.ofInt x6))), o7], [], zk c m66)) ⟨[zo, zo, zo, zo, zo, zo, zo, zo, zo, (false, 0, none, zh0, some (.inl (0, 16, .inl (fun j => Int32.ofInt (m57 72 j)))))], _, rfl, ⟨trivial, (Nat.lt_of_lt_of_le (Nat.le_of_ble_eq_true rfl) hN), trivial, trivial, trivial, trivial, trivial, zi_nz rfl (⟨by decide, by decide⟩ : zR 4) (by omega), trivial, ⟨zk_ra c m57 zA_72 (Nat.lt_of_lt_of_le (Nat.le_of_ble_eq_true rfl) hN), zi_in rfl (by omega) (by omega) (by decide)⟩, trivial⟩⟩ (z_steq rfl rfl ((zk_ias c m57 zA_72 rfl (by unfold zR; omega) (Eq.trans (zi_mul (zi_neg rfl) (zi_rem rfl rfl (by unfold zR; omega) (⟨by decide, by decide⟩ : zR 4))) (zw_eq _))).trans (by rw [hm66]))) ?_
    clear em57
    refine zW.step (st1 := (76, [(some (.ref 69)), (some (.ref 17)), (some (.int (Int32.ofInt a))), (some (.int (Int32.ofInt b))), (some (.int (Int32.ofInt n))), (some (.int (Int32.ofInt price))), (some (.int (Int32.ofInt x6))), (some (.int (Int32.ofInt 0)))], [], zk c m66)) (st2 := (76, [(some (.ref 69)), (some (.ref 17)), (some (.int (Int32.ofInt a))), (some (.int (Int32.ofInt b))), (some (.int (Int32.ofInt n))), (some (.int (Int32.ofInt price))), (some (.int (Int32.ofInt x6))), (some (.int (Int32.ofInt 0)))], [], zk c m66)) ⟨[zo, zo], _, rfl, ⟨trivial, trivial, trivial⟩⟩ rfl ?_
    refine L_X2_play_76 zn _ hN hC a b n price r_a r_b r_n r_price ha hb hn hpr x6 m0 _ (fun x7_71 m_71 hIm_71 i0_71 i1_71 i2_71 i3_71 tF_71 tCn_71 => ?_) _ 0 m66 hIm66 (by omega) (by omega) (by omega) (by omega) tk69 tk70 rfl
    have f72 : (0 : Int) ≤ m_71 70 184 ∧ m_71 70 184 ≤ 1000000000 := zr_h hIm_71 zS_70
    have f73 : (0 : Int) ≤ m_71 17 184 ∧ m_71 17 184 ≤ 1000000000 := zr_h hIm_71 zS_17
    refine zW.step (st1 := (3, [(some (.ref 69)), (some (.ref 17)), (some (.int (Int32.ofInt a))), (some (.int (Int32.ofInt b))), (some (.int (Int32.ofInt n))), (some (.int (Int32.ofInt price))), (some (.int ((Int32.ofInt x6) + Int32.ofInt 1))), (some (.int (Int32.ofInt x7_71)))], [], zk c m_71)) (st2 := (3, [(some (.ref 69)), (some (.ref 17)), (some (.int (Int32.ofInt a))), (some (.int (Int32.ofInt b))), (some (.int (Int32.ofInt n))), (some (.int (Int32.ofInt price))), (some (.int (Int32.ofInt (x6 + 1)))), (some (.int (Int32.ofInt x7_71)))], [], zk c m_71)) ⟨[zo, zo], _, rfl, ⟨trivial, trivial, trivial⟩⟩ (z_steq (z_c1 rfl (z_c1 rfl (z_c1 rfl (z_c1 rfl (z_c1 rfl (z_c1 rfl (z_c1 (z_si (zi_add rfl rfl)) rfl))))))) rfl rfl) ?_
    exact ih _ (by omega) (x6 + 1) (some (.int (Int32.ofInt x7_71))) m_71 hIm_71 (by omega) (by omega) tF_71 tCn_71 rfl

set_option maxRecDepth 100000 in
set_option maxHeartbeats 4000000 in
theorem S_X2_play (zn : Bool) (d : Nat) {c : Nat × Nat} (hN : 107 ≤ c.1) (hC : c.1 < z_RO) (a : Int) (b : Int) (n : Int) (price : Int) (m : zM) (hIm : zI c m) (r_a : -2147483648 ≤ a ∧ a ≤ 2147483647) (r_b : -2147483648 ≤ b ∧ b ≤ 2147483647) (r_n : -2147483648 ≤ n ∧ n ≤ 2147483647) (r_price : -2147483648 ≤ price ∧ price ≤ 2147483647) (ha : 0 ≤ a ∧ a ≤ 9) (hb : 0 ≤ b ∧ b ≤ 9) (hn : n ≤ 60) (hpr : 0 ≤ price ∧ price ≤ 99) (hh : m 17 184 ≤ 999999000) : zCv zn (d + 5) 56 [.ref 69, .ref 17, .int (Int32.ofInt a), .int (Int32.ofInt b), .int (Int32.ofInt n), .int (Int32.ofInt price)] c m (fun (m1 : zM) => zI c m1 ∧ zF 0 m m1) := by
  refine zCv.of zu_X2_play hC (Nat.le_of_ble_eq_true rfl) ?_
  show zW zn (d + 4) 56 c (0, [(some (.ref 69)), (some (.ref 17)), (some (.int (Int32.ofInt a))), (some (.int (Int32.ofInt b))), (some (.int (Int32.ofInt n))), (some (.int (Int32.ofInt price))), none, none], [], zk c m) (fun v h1 => ∃ (m1 : zM), v = none ∧ h1 = zk c m1 ∧ zI c m1 ∧ zF 0 m m1)
  have f74 : (0 : Int) ≤ m 70 184 ∧ m 70 184 ≤ 1000000000 := zr_h hIm zS_70
  have f75 : (0 : Int) ≤ m 17 184 ∧ m 17 184 ≤ 1000000000 := zr_h hIm zS_17
  refine zW.step (st1 := (3, [(some (.ref 69)), (some (.ref 17)), (some (.int (Int32.ofInt a))), (some (.int (Int32.ofInt b))), (some (.int (Int32.ofInt n))), (some (.int (Int32.ofInt price))), (some (.int (Int32.ofInt 0))), none], [], zk c m)) (st2 := (3, [(some (.ref 69)), (some (.ref 17)), (some (.int (Int32.ofInt a))), (some (.int (Int32.ofInt b))), (some (.int (Int32.ofInt n))), (some (.int (Int32.ofInt price))), (some (.int (Int32.ofInt 0))), none], [], zk c m)) ⟨[zo, zo], _, rfl, ⟨trivial, trivial, trivial⟩⟩ rfl ?_
  refine L_X2_play_3 zn _ hN hC a b n price r_a r_b r_n r_price ha hb hn hpr m _ (fun x6_76 o7_76 m_76 hIm_76 i1_76 i2_76 tF_76 tCn_76 => ?_) _ 0 none m hIm (by omega) (by omega) zF_rf rfl rfl
  have f77 : (0 : Int) ≤ m_76 70 184 ∧ m_76 70 184 ≤ 1000000000 := zr_h hIm_76 zS_70
  have f78 : (0 : Int) ≤ m_76 17 184 ∧ m_76 17 184 ≤ 1000000000 := zr_h hIm_76 zS_17
  exact zW.fin (zfin_v rfl rfl) ⟨m_76, rfl, rfl, hIm_76, tF_76⟩

