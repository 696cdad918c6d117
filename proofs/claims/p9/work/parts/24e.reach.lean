/-! the law's own clock over memory: where FedClocks.clock answers, and where it throws -/
set_option maxRecDepth 100000 in
set_option maxHeartbeats 4000000 in
theorem S_L_clockA (zn : Bool) (d : Nat) {c : Nat × Nat} {mM : zM} (hN : 107 ≤ c.1) (hC : c.1 < z_RO) (a b : Int) (m : zM) (hIm : zI c mM m) (r_a : -2147483648 ≤ a ∧ a ≤ 2147483647) (r_b : -2147483648 ≤ b ∧ b ≤ 2147483647) (ha : 0 ≤ a ∧ a < m 17 185 ∧ a ≤ 9) (hb : 0 ≤ b ∧ b ≤ 12) :
    ∃ r : Int, (-2147483648 ≤ r ∧ r ≤ 2147483647) ∧ ∃ os lv P, z_path (z_sem zn (d + 2)) (none, zn) ((zk c (zm_up m 106 0 r)).1, (zk c (zm_up m 106 0 r)).2.1) 0 os (0, z_args (z_ml 0) [.ref 0, .int (Int32.ofInt a), .int (Int32.ofInt b), .ref 106], [], zk c m) = some ((18, lv, [.int (Int32.ofInt 0)], zk c (zm_up m 106 0 r)), P) ∧ P := by
  obtain ⟨r, hs, hr⟩ := S_X11_clock_1 zn d hN hC a b m hIm r_a r_b ha hb
  refine ⟨r, hr, ?_⟩
  have k1 : z_reach (z_sem zn (d + 2)) (none, zn) c 0 (0, z_args (z_ml 0) [.ref 0, .int (Int32.ofInt a), .int (Int32.ofInt b), .ref 106], [], zk c m) (8, [some (.ref 0), some (.int (Int32.ofInt a)), some (.int (Int32.ofInt b)), some (.ref 106), none], [.int (Int32.ofInt r), .int (Int32.ofInt 0), .ref 106], zk c m) :=
    ⟨[zo, zo, zo, zo, zo, zc (some (.int (Int32.ofInt r))) (zk c m)], _, rfl, ⟨trivial, trivial, trivial, trivial, trivial, ⟨⟨(Nat.lt_of_lt_of_le (Nat.le_of_ble_eq_true rfl) hN), (Nat.le_of_ble_eq_true rfl)⟩, hs, (Nat.le_of_ble_eq_true rfl), Nat.le_refl _, Nat.le_refl _, Nat.le_refl _, Nat.le_refl _⟩, trivial⟩⟩
  have e2 : z_hup (zk c m) 106 (.inl (1, 1, .inr (.inl (vp_updL (fun j => Int64.ofInt (m 106 j)) (Int32.ofInt 0).toNatClampNeg ((Int32.ofInt r).toInt64))))) = zk c (zm_up m 106 0 r) := zk_las c m zA_106 rfl (⟨by decide, by decide⟩ : zR 0) (zi_i2l rfl hr)
  have k2 : z_reach (z_sem zn (d + 2)) (none, zn) c 0 (8, [some (.ref 0), some (.int (Int32.ofInt a)), some (.int (Int32.ofInt b)), some (.ref 106), none], [.int (Int32.ofInt r), .int (Int32.ofInt 0), .ref 106], zk c m) (18, [some (.ref 0), some (.int (Int32.ofInt a)), some (.int (Int32.ofInt b)), some (.ref 106), none], [.int (Int32.ofInt 0)], zk c (zm_up m 106 0 r)) := by
    rw [← e2]
    exact ⟨[zo, zo, zo, zo], _, rfl, ⟨trivial, ⟨⟨(Nat.lt_of_lt_of_le (Nat.le_of_ble_eq_true rfl) hN), zi_in rfl (Int.le_refl 0) (by decide) (by decide)⟩, trivial, trivial, trivial⟩⟩⟩
  obtain ⟨os, P, h1, h2⟩ := k1.trans k2
  exact ⟨os, _, P, h1, h2⟩
/-- FedClocks.clock throws: no such clock, or no such reader -/
theorem S_X11_clockT (zn : Bool) (d : Nat) {c : Nat × Nat} {mM : zM} (hN : 107 ≤ c.1) (hC : c.1 < z_RO) (a b : Int) (m : zM) (hIm : zI c mM m) (r_a : -2147483648 ≤ a ∧ a ≤ 2147483647) (r_b : -2147483648 ≤ b ∧ b ≤ 2147483647) (h : ¬ (0 ≤ a ∧ a < m 17 185 ∧ 0 ≤ b ∧ b ≤ 12)) :
    z_thr zn (d + 1) [.ref 0, .int (Int32.ofInt a), .int (Int32.ofInt b)] (zk c m) (zk c m) := by
  have h0 : (0 : Int32) = Int32.ofInt 0 := rfl
  refine ⟨hC, Nat.le_of_ble_eq_true rfl, ?_⟩
  by_cases h1 : 0 ≤ a ∧ a < m 17 185
  · obtain ⟨r, hs, hr⟩ := S_X11_isClock_1 zn d hN hC a m hIm r_a h1
    subst hr
    by_cases h2 : b < 0
    · exact ⟨[zo, zo, zc (some (.int (Int32.ofInt 1))) (zk c m), zo, zo, zt], _, _, rfl, ⟨trivial, trivial, ⟨⟨(Nat.lt_of_lt_of_le (Nat.le_of_ble_eq_true rfl) hN), (Nat.le_of_ble_eq_true rfl)⟩, hs, (Nat.le_of_ble_eq_true rfl), Nat.le_refl _, Nat.le_refl _, Nat.le_refl _, Nat.le_refl _⟩, zbf (by decide), trivial, zbt ((zi_lt rfl h0 (by unfold zR; omega) (⟨by decide, by decide⟩ : zR 0)).mpr h2), trivial⟩⟩
    · exact ⟨[zo, zo, zc (some (.int (Int32.ofInt 1))) (zk c m), zo, zo, zo, zo, zo, zo], _, _, rfl, ⟨trivial, trivial, ⟨⟨(Nat.lt_of_lt_of_le (Nat.le_of_ble_eq_true rfl) hN), (Nat.le_of_ble_eq_true rfl)⟩, hs, (Nat.le_of_ble_eq_true rfl), Nat.le_refl _, Nat.le_refl _, Nat.le_refl _, Nat.le_refl _⟩, zbf (by decide), trivial, zbf (fun q => h2 ((zi_lt rfl h0 (by unfold zR; omega) (⟨by decide, by decide⟩ : zR 0)).mp q)), trivial, trivial, zbf (fun q => h ⟨h1.1, h1.2, by omega, (zi_le rfl rfl (by unfold zR; omega) (⟨by decide, by decide⟩ : zR 12)).mp q⟩), trivial⟩⟩
  · obtain ⟨r, hs, hr⟩ := S_X11_isClock_0 zn d hN hC a m hIm r_a h1
    subst hr
    exact ⟨[zo, zo, zc (some (.int (Int32.ofInt 0))) (zk c m), zt], _, _, rfl, ⟨trivial, trivial, ⟨⟨(Nat.lt_of_lt_of_le (Nat.le_of_ble_eq_true rfl) hN), (Nat.le_of_ble_eq_true rfl)⟩, hs, (Nat.le_of_ble_eq_true rfl), Nat.le_refl _, Nat.le_refl _, Nat.le_refl _, Nat.le_refl _⟩, rfl, trivial⟩⟩
