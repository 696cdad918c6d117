/-! THE LAW'S CASES 12 and 16: blind, paint -/
set_option maxRecDepth 100000 in
set_option maxHeartbeats 4000000 in
theorem zk12 (zn : Bool) (d L : Nat) (xs : Nat → Int32) (B : Nat × Nat) (i t : Int) (h0 : 0 ≤ i) (hi : i + 6 ≤ L) (hL : L ≤ 3072) (ht : 0 ≤ t ∧ t ≤ 40000) (o5 o6 : Option Value) {c : Nat × Nat} {m : zM} (hN : 107 ≤ c.1) (hC : c.1 < z_RO) (hB : c.1 ≤ B.1 ∧ c.2 ≤ B.2) (hV : zOP c m t) :
    ∃ (m2 : zM) (o5' o6' : Option Value), z_reach (z_sem zn (d + 60)) (some (L, xs), zn) B 1 (663, zfr i o5 o6, [], zk c m) (1687, zfr i o5' o6', [], zk c m2) ∧ zOP c m2 (t + 60) := by
  obtain ⟨hI, hH, hJ, hK⟩ := hV
  have ix : ∀ k : Int, (0 ≤ k ∧ k ≤ 5) → vp_in (Int32.ofInt i + Int32.ofInt k) L := fun k hk => zx_ix h0 hk hi (by omega) rfl
  obtain ⟨a1, e1⟩ : ∃ q, q = (xs ((Int32.ofInt i + Int32.ofInt 1).toNatClampNeg)).toInt := ⟨_, rfl⟩
  have r1 : -2147483648 ≤ a1 ∧ a1 ≤ 2147483647 := by rw [e1]; exact ⟨Int32.le_toInt _, Int32.toInt_le _⟩
  have s1 : xs ((Int32.ofInt i + Int32.ofInt 1).toNatClampNeg) = Int32.ofInt a1 := by rw [e1]; exact zx_self _
  obtain ⟨a2, e2⟩ : ∃ q, q = (xs ((Int32.ofInt i + Int32.ofInt 2).toNatClampNeg)).toInt := ⟨_, rfl⟩
  have r2 : -2147483648 ≤ a2 ∧ a2 ≤ 2147483647 := by rw [e2]; exact ⟨Int32.le_toInt _, Int32.toInt_le _⟩
  have s2 : xs ((Int32.ofInt i + Int32.ofInt 2).toNatClampNeg) = Int32.ofInt a2 := by rw [e2]; exact zx_self _
  obtain ⟨b, hb⟩ : ∃ b : Int, (a2 = 0 ∧ b = 0) ∨ (a2 ≠ 0 ∧ b = 1) := by
    by_cases q : a2 = 0
    · exact ⟨0, Or.inl ⟨q, rfl⟩⟩
    · exact ⟨1, Or.inr ⟨q, rfl⟩⟩
  have p1 : z_reach (z_sem zn (d + 60)) (some (L, xs), zn) B 1 (663, zfr i o5 o6, [], zk c m) (684, zfr i o5 o6, [.int (Int32.ofInt b), .int (Int32.ofInt a1), .ref 0], zk c m) := by
    rcases hb with ⟨g1, g2⟩ | ⟨g1, g2⟩
    · rw [g2, ← s1]
      exact ⟨[zo, zo, zo, zo, zo, zo, zo, zo, zo, zo, zo, zt, zo], _, rfl, ⟨trivial, trivial, trivial, trivial, trivial, ix 1 (by omega), trivial, trivial, trivial, trivial, ix 2 (by omega), zbt (s2.trans (by rw [g1]; rfl)), trivial, trivial⟩⟩
    · rw [g2, ← s1]
      exact ⟨[zo, zo, zo, zo, zo, zo, zo, zo, zo, zo, zo, zo, zo, zo], _, rfl, ⟨trivial, trivial, trivial, trivial, trivial, ix 1 (by omega), trivial, trivial, trivial, trivial, ix 2 (by omega), zbf (fun q => g1 ((zi_eq rfl (rfl : (0 : Int32) = Int32.ofInt 0) r2 (⟨by decide, by decide⟩ : zR 0)).mp (s2.symm.trans q))), trivial, trivial, trivial⟩⟩
  obtain ⟨w1, m1, hs1, hI1, q1, k1⟩ := S_X11_blind zn (d + 57) hN hC a1 b t m hI r1 (by omega) (by omega) hH
  obtain ⟨hJ1, hI1'⟩ := zV_class hJ hI1
  have p2 : z_reach (z_sem zn (d + 60)) (some (L, xs), zn) B 1 (684, zfr i o5 o6, [.int (Int32.ofInt b), .int (Int32.ofInt a1), .ref 0], zk c m) (688, zfr i o5 o6, [], zk c m1) :=
    ⟨[zc (some (.int (Int32.ofInt w1))) (zk c m1), zo], _, rfl, ⟨⟨(Nat.lt_of_lt_of_le (Nat.le_of_ble_eq_true rfl) hN), (Nat.le_of_ble_eq_true rfl)⟩, hs1, (Nat.le_of_ble_eq_true rfl), Nat.le_refl _, Nat.le_refl _, hB.1, hB.2⟩, trivial, trivial⟩
  have p3 : z_reach (z_sem zn (d + 60)) (some (L, xs), zn) B 1 (688, zfr i o5 o6, [], zk c m1) (709, zfr i o5 o6, [.int (Int32.ofInt b), .int (Int32.ofInt a1), .ref 79], zk c m1) := by
    rcases hb with ⟨g1, g2⟩ | ⟨g1, g2⟩
    · rw [g2, ← s1]
      exact ⟨[zo, zo, zo, zo, zo, zo, zo, zo, zo, zo, zo, zt, zo], _, rfl, ⟨trivial, trivial, trivial, trivial, trivial, ix 1 (by omega), trivial, trivial, trivial, trivial, ix 2 (by omega), zbt (s2.trans (by rw [g1]; rfl)), trivial, trivial⟩⟩
    · rw [g2, ← s1]
      exact ⟨[zo, zo, zo, zo, zo, zo, zo, zo, zo, zo, zo, zo, zo, zo], _, rfl, ⟨trivial, trivial, trivial, trivial, trivial, ix 1 (by omega), trivial, trivial, trivial, trivial, ix 2 (by omega), zbf (fun q => g1 ((zi_eq rfl (rfl : (0 : Int32) = Int32.ofInt 0) r2 (⟨by decide, by decide⟩ : zR 0)).mp (s2.symm.trans q))), trivial, trivial, trivial⟩⟩
  obtain ⟨w2, m2, hs2, hJ2, q2⟩ := S_X12_blind zn (d + 57) hN hC a1 b m1 hJ1 r1 (by omega)
  have p4 : z_reach (z_sem zn (d + 60)) (some (L, xs), zn) B 1 (709, zfr i o5 o6, [.int (Int32.ofInt b), .int (Int32.ofInt a1), .ref 79], zk c m1) (1687, zfr i o5 o6, [], zk c m2) :=
    ⟨[zc (some (.int (Int32.ofInt w2))) (zk c m2), zo, zo], _, rfl, ⟨⟨(Nat.lt_of_lt_of_le (Nat.le_of_ble_eq_true rfl) hN), (Nat.le_of_ble_eq_true rfl)⟩, hs2, (Nat.le_of_ble_eq_true rfl), Nat.le_refl _, Nat.le_refl _, hB.1, hB.2⟩, trivial, trivial, trivial⟩
  have hJ3 : zJ m1 (t + 60) 0 m2 := zJ_le hJ2 (by omega)
  obtain ⟨y1, y2, y3⟩ := zV_model (t1 := t + 60) hI1' k1 (by omega) hJ3
  exact ⟨m2, o5, o6, ((p1.trans p2).trans p3).trans p4, y1, y2, y3, zV_rt hI hK hI1 hJ3⟩
set_option maxRecDepth 100000 in
set_option maxHeartbeats 4000000 in
theorem zk16 (zn : Bool) (d L : Nat) (xs : Nat → Int32) (B : Nat × Nat) (i t : Int) (h0 : 0 ≤ i) (hi : i + 6 ≤ L) (hL : L ≤ 3072) (ht : 0 ≤ t ∧ t ≤ 40000) (o5 o6 : Option Value) {c : Nat × Nat} {m : zM} (hN : 107 ≤ c.1) (hC : c.1 < z_RO) (hB : c.1 ≤ B.1 ∧ c.2 ≤ B.2) (hV : zOP c m t) :
    ∃ (m2 : zM) (o5' o6' : Option Value), z_reach (z_sem zn (d + 60)) (some (L, xs), zn) B 1 (827, zfr i o5 o6, [], zk c m) (1687, zfr i o5' o6', [], zk c m2) ∧ zOP c m2 (t + 60) := by
  obtain ⟨hI, hH, hJ, hK⟩ := hV
  have ix : ∀ k : Int, (0 ≤ k ∧ k ≤ 5) → vp_in (Int32.ofInt i + Int32.ofInt k) L := fun k hk => zx_ix h0 hk hi (by omega) rfl
  obtain ⟨a1, e1⟩ : ∃ q, q = (xs ((Int32.ofInt i + Int32.ofInt 1).toNatClampNeg)).toInt := ⟨_, rfl⟩
  have r1 : -2147483648 ≤ a1 ∧ a1 ≤ 2147483647 := by rw [e1]; exact ⟨Int32.le_toInt _, Int32.toInt_le _⟩
  have s1 : xs ((Int32.ofInt i + Int32.ofInt 1).toNatClampNeg) = Int32.ofInt a1 := by rw [e1]; exact zx_self _
  obtain ⟨a2, e2⟩ : ∃ q, q = (xs ((Int32.ofInt i + Int32.ofInt 2).toNatClampNeg)).toInt := ⟨_, rfl⟩
  have r2 : -2147483648 ≤ a2 ∧ a2 ≤ 2147483647 := by rw [e2]; exact ⟨Int32.le_toInt _, Int32.toInt_le _⟩
  have s2 : xs ((Int32.ofInt i + Int32.ofInt 2).toNatClampNeg) = Int32.ofInt a2 := by rw [e2]; exact zx_self _
  obtain ⟨b, hb⟩ : ∃ b : Int, (a2 = 0 ∧ b = 0) ∨ (a2 ≠ 0 ∧ b = 1) := by
    by_cases q : a2 = 0
    · exact ⟨0, Or.inl ⟨q, rfl⟩⟩
    · exact ⟨1, Or.inr ⟨q, rfl⟩⟩
  have p1 : z_reach (z_sem zn (d + 60)) (some (L, xs), zn) B 1 (827, zfr i o5 o6, [], zk c m) (848, zfr i o5 o6, [.int (Int32.ofInt b), .int (Int32.ofInt a1), .ref 0], zk c m) := by
    rcases hb with ⟨g1, g2⟩ | ⟨g1, g2⟩
    · rw [g2, ← s1]
      exact ⟨[zo, zo, zo, zo, zo, zo, zo, zo, zo, zo, zo, zt, zo], _, rfl, ⟨trivial, trivial, trivial, trivial, trivial, ix 1 (by omega), trivial, trivial, trivial, trivial, ix 2 (by omega), zbt (s2.trans (by rw [g1]; rfl)), trivial, trivial⟩⟩
    · rw [g2, ← s1]
      exact ⟨[zo, zo, zo, zo, zo, zo, zo, zo, zo, zo, zo, zo, zo, zo], _, rfl, ⟨trivial, trivial, trivial, trivial, trivial, ix 1 (by omega), trivial, trivial, trivial, trivial, ix 2 (by omega), zbf (fun q => g1 ((zi_eq rfl (rfl : (0 : Int32) = Int32.ofInt 0) r2 (⟨by decide, by decide⟩ : zR 0)).mp (s2.symm.trans q))), trivial, trivial, trivial⟩⟩
  obtain ⟨w1, m1, hs1, hI1, q1, k1⟩ := S_X11_paint zn (d + 57) hN hC a1 b t m hI r1 (by omega) (by omega) hH
  obtain ⟨hJ1, hI1'⟩ := zV_class hJ hI1
  have p2 : z_reach (z_sem zn (d + 60)) (some (L, xs), zn) B 1 (848, zfr i o5 o6, [.int (Int32.ofInt b), .int (Int32.ofInt a1), .ref 0], zk c m) (852, zfr i o5 o6, [], zk c m1) :=
    ⟨[zc (some (.int (Int32.ofInt w1))) (zk c m1), zo], _, rfl, ⟨⟨(Nat.lt_of_lt_of_le (Nat.le_of_ble_eq_true rfl) hN), (Nat.le_of_ble_eq_true rfl)⟩, hs1, (Nat.le_of_ble_eq_true rfl), Nat.le_refl _, Nat.le_refl _, hB.1, hB.2⟩, trivial, trivial⟩
  have p3 : z_reach (z_sem zn (d + 60)) (some (L, xs), zn) B 1 (852, zfr i o5 o6, [], zk c m1) (873, zfr i o5 o6, [.int (Int32.ofInt b), .int (Int32.ofInt a1), .ref 79], zk c m1) := by
    rcases hb with ⟨g1, g2⟩ | ⟨g1, g2⟩
    · rw [g2, ← s1]
      exact ⟨[zo, zo, zo, zo, zo, zo, zo, zo, zo, zo, zo, zt, zo], _, rfl, ⟨trivial, trivial, trivial, trivial, trivial, ix 1 (by omega), trivial, trivial, trivial, trivial, ix 2 (by omega), zbt (s2.trans (by rw [g1]; rfl)), trivial, trivial⟩⟩
    · rw [g2, ← s1]
      exact ⟨[zo, zo, zo, zo, zo, zo, zo, zo, zo, zo, zo, zo, zo, zo], _, rfl, ⟨trivial, trivial, trivial, trivial, trivial, ix 1 (by omega), trivial, trivial, trivial, trivial, ix 2 (by omega), zbf (fun q => g1 ((zi_eq rfl (rfl : (0 : Int32) = Int32.ofInt 0) r2 (⟨by decide, by decide⟩ : zR 0)).mp (s2.symm.trans q))), trivial, trivial, trivial⟩⟩
  obtain ⟨w2, m2, hs2, hJ2, q2⟩ := S_X12_paint zn (d + 57) hN hC a1 b m1 hJ1 r1 (by omega)
  have p4 : z_reach (z_sem zn (d + 60)) (some (L, xs), zn) B 1 (873, zfr i o5 o6, [.int (Int32.ofInt b), .int (Int32.ofInt a1), .ref 79], zk c m1) (1687, zfr i o5 o6, [], zk c m2) :=
    ⟨[zc (some (.int (Int32.ofInt w2))) (zk c m2), zo, zo], _, rfl, ⟨⟨(Nat.lt_of_lt_of_le (Nat.le_of_ble_eq_true rfl) hN), (Nat.le_of_ble_eq_true rfl)⟩, hs2, (Nat.le_of_ble_eq_true rfl), Nat.le_refl _, Nat.le_refl _, hB.1, hB.2⟩, trivial, trivial, trivial⟩
  have hJ3 : zJ m1 (t + 60) 0 m2 := zJ_le hJ2 (by omega)
  obtain ⟨y1, y2, y3⟩ := zV_model (t1 := t + 60) hI1' k1 (by omega) hJ3
  exact ⟨m2, o5, o6, ((p1.trans p2).trans p3).trans p4, y1, y2, y3, zV_rt hI hK hI1 hJ3⟩
