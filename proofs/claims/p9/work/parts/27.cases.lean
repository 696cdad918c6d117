/-! THE LAW'S CASES (pilot: case 1) -/
theorem zx_self (x : Int32) : x = Int32.ofInt x.toInt := by simp
theorem zx_ix {i L k : Int} {n : Nat} (h0 : 0 ≤ i) (hk : 0 ≤ k ∧ k ≤ 5) (hi : i + 6 ≤ L) (hL : L ≤ 3072) (hn : L = (n : Int)) : vp_in (Int32.ofInt i + Int32.ofInt k) n := by
  refine zi_in (zi_add rfl rfl) (by omega) (by omega) (by omega)
set_option maxRecDepth 100000 in
theorem zc305 (zn : Bool) (D L : Nat) (xs : Nat → Int32) (B : Nat × Nat) (i : Int) (h0 : 0 ≤ i) (hi : i + 6 ≤ L) (hL : L ≤ 3072) (o5 o6 : Option Value) (h : z_H) (hB : 79 < h.1) :
    z_reach (z_sem zn D) (some (L, xs), zn) B 1 (305, [some (.ref (z_RO + 300)), some (.ref 0), some (.ref 79), some (.ref 106), some (.int (Int32.ofInt i)), o5, o6], [], h) (312, [some (.ref (z_RO + 300)), some (.ref 0), some (.ref 79), some (.ref 106), some (.int (Int32.ofInt i)), o5, o6], [.int (xs ((Int32.ofInt i + Int32.ofInt 1).toNatClampNeg)), .ref 0], h) :=
  ⟨[zo, zo, zo, zo, zo, zo], _, rfl, ⟨trivial, trivial, trivial, trivial, trivial, zx_ix h0 (by omega) hi (by omega) rfl, trivial⟩⟩
/-- the law's frame at a pc -/
abbrev zfr (i : Int) (o5 o6 : Option Value) : List (Option Value) := [some (.ref (z_RO + 300)), some (.ref 0), some (.ref 79), some (.ref 106), some (.int (Int32.ofInt i)), o5, o6]
/-- what holds between two operations; t: sixty minutes for each operation so far -/
def zOP (c : Nat × Nat) (m : zM) (t : Int) : Prop := zI c m m ∧ zH t m ∧ zJ m t 0 m ∧ zRT m
set_option maxRecDepth 100000 in
set_option maxHeartbeats 4000000 in
theorem zk2 (zn : Bool) (d L : Nat) (xs : Nat → Int32) (B : Nat × Nat) (i t : Int) (h0 : 0 ≤ i) (hi : i + 6 ≤ L) (hL : L ≤ 3072) (ht : 0 ≤ t ∧ t ≤ 40000) (o5 o6 : Option Value) {c : Nat × Nat} {m : zM} (hN : 107 ≤ c.1) (hC : c.1 < z_RO) (hB : c.1 ≤ B.1 ∧ c.2 ≤ B.2) (hV : zOP c m t) :
    ∃ (m2 : zM) (o5' o6' : Option Value), z_reach (z_sem zn (d + 60)) (some (L, xs), zn) B 1 (330, zfr i o5 o6, [], zk c m) (1687, zfr i o5' o6', [], zk c m2) ∧ zOP c m2 (t + 60) := by
  obtain ⟨hI, hH, hJ, hK⟩ := hV
  have g17 : (0 : Int) ≤ m 17 184 ∧ m 17 184 ≤ 1000000000 := hI.1 17 184
  have w17 : m 17 184 ≤ t := hH 17 (Or.inr (Or.inl rfl))
  have ix : ∀ k : Int, (0 ≤ k ∧ k ≤ 5) → vp_in (Int32.ofInt i + Int32.ofInt k) L := fun k hk => zx_ix h0 hk hi (by omega) rfl
  obtain ⟨a1, e1⟩ : ∃ q, q = (xs ((Int32.ofInt i + Int32.ofInt 1).toNatClampNeg)).toInt := ⟨_, rfl⟩
  have r1 : -2147483648 ≤ a1 ∧ a1 ≤ 2147483647 := by rw [e1]; exact ⟨Int32.le_toInt _, Int32.toInt_le _⟩
  have s1 : xs ((Int32.ofInt i + Int32.ofInt 1).toNatClampNeg) = Int32.ofInt a1 := by rw [e1]; exact zx_self _
  have p1 : z_reach (z_sem zn (d + 60)) (some (L, xs), zn) B 1 (330, zfr i o5 o6, [], zk c m) (337, zfr i o5 o6, [.int (Int32.ofInt a1), .ref 0], zk c m) := by
    rw [← s1]
    exact ⟨[zo, zo, zo, zo, zo, zo], _, rfl, ⟨trivial, trivial, trivial, trivial, trivial, ix 1 (by omega), trivial⟩⟩
  obtain ⟨v1, m1, hs1, hI1, hr1⟩ := S_X11_fault zn (d + 23) hN hC a1 t m hI (by omega) (by omega) hH
  have k1 : zH (t + 60) m1 := by first | exact zH_le (zH_N hH hr1) (by omega) | exact zH_le (zH_N hH hr1.2) (by omega) | exact zH_le (zH_N hH hr1.2.2) (by omega) | exact zH_le (zH_N hH hr1.2.2.2) (by omega) | exact zH_le hr1 (by omega) | exact zH_le hr1.2 (by omega) | exact zH_le hr1.2.2 (by omega) | exact (fun p hp => by have q := hr1.2 p hp (by unfold zQ at hp; omega); have w := hH p hp; omega) | exact (fun p hp => by have q := hr1.2.2 p hp (by unfold zQ at hp; omega); have w := hH p hp; omega)
  obtain ⟨hJ1, hI1'⟩ := zV_class hJ hI1
  have p2 : z_reach (z_sem zn (d + 60)) (some (L, xs), zn) B 1 (337, zfr i o5 o6, [.int (Int32.ofInt a1), .ref 0], zk c m) (341, zfr i o5 o6, [], zk c m1) :=
    ⟨[zc (some (.int (Int32.ofInt v1))) (zk c m1), zo], _, rfl, ⟨⟨(Nat.lt_of_lt_of_le (Nat.le_of_ble_eq_true rfl) hN), (Nat.le_of_ble_eq_true rfl)⟩, hs1, (Nat.le_of_ble_eq_true rfl), Nat.le_refl _, Nat.le_refl _, hB.1, hB.2⟩, trivial, trivial⟩
  have p3 : z_reach (z_sem zn (d + 60)) (some (L, xs), zn) B 1 (341, zfr i o5 o6, [], zk c m1) (348, zfr i o5 o6, [.int (Int32.ofInt a1), .ref 79], zk c m1) := by
    rw [← s1]
    exact ⟨[zo, zo, zo, zo, zo, zo], _, rfl, ⟨trivial, trivial, trivial, trivial, trivial, ix 1 (by omega), trivial⟩⟩
  obtain ⟨v2, m2, hs2, hJ2, hr2⟩ := S_X12_fault zn (d + 27) hN hC a1 m1 hJ1 (by omega)
  have p4 : z_reach (z_sem zn (d + 60)) (some (L, xs), zn) B 1 (348, zfr i o5 o6, [.int (Int32.ofInt a1), .ref 79], zk c m1) (1687, zfr i o5 o6, [], zk c m2) :=
    ⟨[zc (some (.int (Int32.ofInt v2))) (zk c m2), zo, zo], _, rfl, ⟨⟨(Nat.lt_of_lt_of_le (Nat.le_of_ble_eq_true rfl) hN), (Nat.le_of_ble_eq_true rfl)⟩, hs2, (Nat.le_of_ble_eq_true rfl), Nat.le_refl _, Nat.le_refl _, hB.1, hB.2⟩, trivial, trivial, trivial⟩
  have hJ3 : zJ m1 (t + 60) 0 m2 := by first | exact hJ2 | exact zJ_le hJ2 (by omega)
  obtain ⟨w1, w2, w3⟩ := zV_model (t1 := t + 60) hI1' k1 (by omega) hJ3
  exact ⟨m2, o5, o6, ((p1.trans p2).trans p3).trans p4, w1, w2, w3, zV_rt hI hK hI1 hJ3⟩
set_option maxRecDepth 100000 in
set_option maxHeartbeats 4000000 in
theorem zk5 (zn : Bool) (d L : Nat) (xs : Nat → Int32) (B : Nat × Nat) (i t : Int) (h0 : 0 ≤ i) (hi : i + 6 ≤ L) (hL : L ≤ 3072) (ht : 0 ≤ t ∧ t ≤ 40000) (o5 o6 : Option Value) {c : Nat × Nat} {m : zM} (hN : 107 ≤ c.1) (hC : c.1 < z_RO) (hB : c.1 ≤ B.1 ∧ c.2 ≤ B.2) (hV : zOP c m t) :
    ∃ (m2 : zM) (o5' o6' : Option Value), z_reach (z_sem zn (d + 60)) (some (L, xs), zn) B 1 (420, zfr i o5 o6, [], zk c m) (1687, zfr i o5' o6', [], zk c m2) ∧ zOP c m2 (t + 60) := by
  obtain ⟨hI, hH, hJ, hK⟩ := hV
  have g17 : (0 : Int) ≤ m 17 184 ∧ m 17 184 ≤ 1000000000 := hI.1 17 184
  have w17 : m 17 184 ≤ t := hH 17 (Or.inr (Or.inl rfl))
  have ix : ∀ k : Int, (0 ≤ k ∧ k ≤ 5) → vp_in (Int32.ofInt i + Int32.ofInt k) L := fun k hk => zx_ix h0 hk hi (by omega) rfl
  obtain ⟨a1, e1⟩ : ∃ q, q = (xs ((Int32.ofInt i + Int32.ofInt 1).toNatClampNeg)).toInt := ⟨_, rfl⟩
  have r1 : -2147483648 ≤ a1 ∧ a1 ≤ 2147483647 := by rw [e1]; exact ⟨Int32.le_toInt _, Int32.toInt_le _⟩
  have s1 : xs ((Int32.ofInt i + Int32.ofInt 1).toNatClampNeg) = Int32.ofInt a1 := by rw [e1]; exact zx_self _
  obtain ⟨a2, e2⟩ : ∃ q, q = (xs ((Int32.ofInt i + Int32.ofInt 2).toNatClampNeg)).toInt := ⟨_, rfl⟩
  have r2 : -2147483648 ≤ a2 ∧ a2 ≤ 2147483647 := by rw [e2]; exact ⟨Int32.le_toInt _, Int32.toInt_le _⟩
  have s2 : xs ((Int32.ofInt i + Int32.ofInt 2).toNatClampNeg) = Int32.ofInt a2 := by rw [e2]; exact zx_self _
  have p1 : z_reach (z_sem zn (d + 60)) (some (L, xs), zn) B 1 (420, zfr i o5 o6, [], zk c m) (433, zfr i o5 o6, [.int (Int32.ofInt a2), .int (Int32.ofInt a1), .ref 0], zk c m) := by
    rw [← s1, ← s2]
    exact ⟨[zo, zo, zo, zo, zo, zo, zo, zo, zo, zo, zo], _, rfl, ⟨trivial, trivial, trivial, trivial, trivial, ix 1 (by omega), trivial, trivial, trivial, trivial, ix 2 (by omega), trivial⟩⟩
  obtain ⟨v1, hs1, hr1⟩ := S_X11_person zn (d + 58) hN hC a1 a2 m hI (by omega) (by omega)
  obtain ⟨m1, e1⟩ : ∃ q, q = m := ⟨_, rfl⟩
  have hI1 : zI c m m1 := by rw [e1]; exact hI
  have k1 : zH (t + 60) m1 := by rw [e1]; exact zH_le hH (by omega)
  obtain ⟨hJ1, hI1'⟩ := zV_class hJ hI1
  have p2 : z_reach (z_sem zn (d + 60)) (some (L, xs), zn) B 1 (433, zfr i o5 o6, [.int (Int32.ofInt a2), .int (Int32.ofInt a1), .ref 0], zk c m) (437, zfr i o5 o6, [], zk c m1) :=
    ⟨[zc (some (.int (Int32.ofInt v1))) (zk c m1), zo], _, rfl, ⟨⟨(Nat.lt_of_lt_of_le (Nat.le_of_ble_eq_true rfl) hN), (Nat.le_of_ble_eq_true rfl)⟩, (by rw [e1]; exact hs1), (Nat.le_of_ble_eq_true rfl), Nat.le_refl _, Nat.le_refl _, hB.1, hB.2⟩, trivial, trivial⟩
  have p3 : z_reach (z_sem zn (d + 60)) (some (L, xs), zn) B 1 (437, zfr i o5 o6, [], zk c m1) (450, zfr i o5 o6, [.int (Int32.ofInt a2), .int (Int32.ofInt a1), .ref 79], zk c m1) := by
    rw [← s1, ← s2]
    exact ⟨[zo, zo, zo, zo, zo, zo, zo, zo, zo, zo, zo], _, rfl, ⟨trivial, trivial, trivial, trivial, trivial, ix 1 (by omega), trivial, trivial, trivial, trivial, ix 2 (by omega), trivial⟩⟩
  obtain ⟨v2, m2, hs2, hJ2, hr2⟩ := S_X12_person zn (d + 58) hN hC a1 a2 m1 hJ1 (by omega) (by omega)
  have p4 : z_reach (z_sem zn (d + 60)) (some (L, xs), zn) B 1 (450, zfr i o5 o6, [.int (Int32.ofInt a2), .int (Int32.ofInt a1), .ref 79], zk c m1) (1687, zfr i o5 o6, [], zk c m2) :=
    ⟨[zc (some (.int (Int32.ofInt v2))) (zk c m2), zo, zo], _, rfl, ⟨⟨(Nat.lt_of_lt_of_le (Nat.le_of_ble_eq_true rfl) hN), (Nat.le_of_ble_eq_true rfl)⟩, hs2, (Nat.le_of_ble_eq_true rfl), Nat.le_refl _, Nat.le_refl _, hB.1, hB.2⟩, trivial, trivial, trivial⟩
  have hJ3 : zJ m1 (t + 60) 0 m2 := by first | exact hJ2 | exact zJ_le hJ2 (by omega)
  obtain ⟨w1, w2, w3⟩ := zV_model (t1 := t + 60) hI1' k1 (by omega) hJ3
  exact ⟨m2, o5, o6, ((p1.trans p2).trans p3).trans p4, w1, w2, w3, zV_rt hI hK hI1 hJ3⟩
set_option maxRecDepth 100000 in
set_option maxHeartbeats 4000000 in
theorem zk6 (zn : Bool) (d L : Nat) (xs : Nat → Int32) (B : Nat × Nat) (i t : Int) (h0 : 0 ≤ i) (hi : i + 6 ≤ L) (hL : L ≤ 3072) (ht : 0 ≤ t ∧ t ≤ 40000) (o5 o6 : Option Value) {c : Nat × Nat} {m : zM} (hN : 107 ≤ c.1) (hC : c.1 < z_RO) (hB : c.1 ≤ B.1 ∧ c.2 ≤ B.2) (hV : zOP c m t) :
    ∃ (m2 : zM) (o5' o6' : Option Value), z_reach (z_sem zn (d + 60)) (some (L, xs), zn) B 1 (457, zfr i o5 o6, [], zk c m) (1687, zfr i o5' o6', [], zk c m2) ∧ zOP c m2 (t + 60) := by
  obtain ⟨hI, hH, hJ, hK⟩ := hV
  have g17 : (0 : Int) ≤ m 17 184 ∧ m 17 184 ≤ 1000000000 := hI.1 17 184
  have w17 : m 17 184 ≤ t := hH 17 (Or.inr (Or.inl rfl))
  have ix : ∀ k : Int, (0 ≤ k ∧ k ≤ 5) → vp_in (Int32.ofInt i + Int32.ofInt k) L := fun k hk => zx_ix h0 hk hi (by omega) rfl
  obtain ⟨a1, e1⟩ : ∃ q, q = (xs ((Int32.ofInt i + Int32.ofInt 1).toNatClampNeg)).toInt := ⟨_, rfl⟩
  have r1 : -2147483648 ≤ a1 ∧ a1 ≤ 2147483647 := by rw [e1]; exact ⟨Int32.le_toInt _, Int32.toInt_le _⟩
  have s1 : xs ((Int32.ofInt i + Int32.ofInt 1).toNatClampNeg) = Int32.ofInt a1 := by rw [e1]; exact zx_self _
  have p1 : z_reach (z_sem zn (d + 60)) (some (L, xs), zn) B 1 (457, zfr i o5 o6, [], zk c m) (464, zfr i o5 o6, [.int (Int32.ofInt a1), .ref 0], zk c m) := by
    rw [← s1]
    exact ⟨[zo, zo, zo, zo, zo, zo], _, rfl, ⟨trivial, trivial, trivial, trivial, trivial, ix 1 (by omega), trivial⟩⟩
  obtain ⟨v1, hs1, hr1⟩ := S_X11_sees zn (d + 58) hN hC a1 m hI (by omega)
  obtain ⟨m1, e1⟩ : ∃ q, q = m := ⟨_, rfl⟩
  have hI1 : zI c m m1 := by rw [e1]; exact hI
  have k1 : zH (t + 60) m1 := by rw [e1]; exact zH_le hH (by omega)
  obtain ⟨hJ1, hI1'⟩ := zV_class hJ hI1
  have p2 : z_reach (z_sem zn (d + 60)) (some (L, xs), zn) B 1 (464, zfr i o5 o6, [.int (Int32.ofInt a1), .ref 0], zk c m) (468, zfr i o5 o6, [], zk c m1) :=
    ⟨[zc (some (.int (Int32.ofInt v1))) (zk c m1), zo], _, rfl, ⟨⟨(Nat.lt_of_lt_of_le (Nat.le_of_ble_eq_true rfl) hN), (Nat.le_of_ble_eq_true rfl)⟩, (by rw [e1]; exact hs1), (Nat.le_of_ble_eq_true rfl), Nat.le_refl _, Nat.le_refl _, hB.1, hB.2⟩, trivial, trivial⟩
  have p3 : z_reach (z_sem zn (d + 60)) (some (L, xs), zn) B 1 (468, zfr i o5 o6, [], zk c m1) (475, zfr i o5 o6, [.int (Int32.ofInt a1), .ref 79], zk c m1) := by
    rw [← s1]
    exact ⟨[zo, zo, zo, zo, zo, zo], _, rfl, ⟨trivial, trivial, trivial, trivial, trivial, ix 1 (by omega), trivial⟩⟩
  obtain ⟨v2, m2, hs2, hJ2, hr2⟩ := S_X12_sees zn (d + 58) hN hC a1 m1 hJ1 (by omega)
  have p4 : z_reach (z_sem zn (d + 60)) (some (L, xs), zn) B 1 (475, zfr i o5 o6, [.int (Int32.ofInt a1), .ref 79], zk c m1) (1687, zfr i o5 o6, [], zk c m2) :=
    ⟨[zc (some (.int (Int32.ofInt v2))) (zk c m2), zo, zo], _, rfl, ⟨⟨(Nat.lt_of_lt_of_le (Nat.le_of_ble_eq_true rfl) hN), (Nat.le_of_ble_eq_true rfl)⟩, hs2, (Nat.le_of_ble_eq_true rfl), Nat.le_refl _, Nat.le_refl _, hB.1, hB.2⟩, trivial, trivial, trivial⟩
  have hJ3 : zJ m1 (t + 60) 0 m2 := by first | exact hJ2 | exact zJ_le hJ2 (by omega)
  obtain ⟨w1, w2, w3⟩ := zV_model (t1 := t + 60) hI1' k1 (by omega) hJ3
  exact ⟨m2, o5, o6, ((p1.trans p2).trans p3).trans p4, w1, w2, w3, zV_rt hI hK hI1 hJ3⟩
set_option maxRecDepth 100000 in
set_option maxHeartbeats 4000000 in
theorem zk9 (zn : Bool) (d L : Nat) (xs : Nat → Int32) (B : Nat × Nat) (i t : Int) (h0 : 0 ≤ i) (hi : i + 6 ≤ L) (hL : L ≤ 3072) (ht : 0 ≤ t ∧ t ≤ 40000) (o5 o6 : Option Value) {c : Nat × Nat} {m : zM} (hN : 107 ≤ c.1) (hC : c.1 < z_RO) (hB : c.1 ≤ B.1 ∧ c.2 ≤ B.2) (hV : zOP c m t) :
    ∃ (m2 : zM) (o5' o6' : Option Value), z_reach (z_sem zn (d + 60)) (some (L, xs), zn) B 1 (532, zfr i o5 o6, [], zk c m) (1687, zfr i o5' o6', [], zk c m2) ∧ zOP c m2 (t + 60) := by
  obtain ⟨hI, hH, hJ, hK⟩ := hV
  have g17 : (0 : Int) ≤ m 17 184 ∧ m 17 184 ≤ 1000000000 := hI.1 17 184
  have w17 : m 17 184 ≤ t := hH 17 (Or.inr (Or.inl rfl))
  have ix : ∀ k : Int, (0 ≤ k ∧ k ≤ 5) → vp_in (Int32.ofInt i + Int32.ofInt k) L := fun k hk => zx_ix h0 hk hi (by omega) rfl
  obtain ⟨a1, e1⟩ : ∃ q, q = (xs ((Int32.ofInt i + Int32.ofInt 1).toNatClampNeg)).toInt := ⟨_, rfl⟩
  have r1 : -2147483648 ≤ a1 ∧ a1 ≤ 2147483647 := by rw [e1]; exact ⟨Int32.le_toInt _, Int32.toInt_le _⟩
  have s1 : xs ((Int32.ofInt i + Int32.ofInt 1).toNatClampNeg) = Int32.ofInt a1 := by rw [e1]; exact zx_self _
  have p1 : z_reach (z_sem zn (d + 60)) (some (L, xs), zn) B 1 (532, zfr i o5 o6, [], zk c m) (539, zfr i o5 o6, [.int (Int32.ofInt a1), .ref 0], zk c m) := by
    rw [← s1]
    exact ⟨[zo, zo, zo, zo, zo, zo], _, rfl, ⟨trivial, trivial, trivial, trivial, trivial, ix 1 (by omega), trivial⟩⟩
  obtain ⟨v1, m1, hs1, hI1, hr1⟩ := S_X11_go zn (d + 54) hN hC a1 t m hI (by omega) (by omega) hH (by omega)
  have k1 : zH (t + 60) m1 := by first | exact zH_le (zH_N hH hr1) (by omega) | exact zH_le (zH_N hH hr1.2) (by omega) | exact zH_le (zH_N hH hr1.2.2) (by omega) | exact zH_le (zH_N hH hr1.2.2.2) (by omega) | exact zH_le hr1 (by omega) | exact zH_le hr1.2 (by omega) | exact zH_le hr1.2.2 (by omega) | exact (fun p hp => by have q := hr1.2 p hp (by unfold zQ at hp; omega); have w := hH p hp; omega) | exact (fun p hp => by have q := hr1.2.2 p hp (by unfold zQ at hp; omega); have w := hH p hp; omega)
  obtain ⟨hJ1, hI1'⟩ := zV_class hJ hI1
  have p2 : z_reach (z_sem zn (d + 60)) (some (L, xs), zn) B 1 (539, zfr i o5 o6, [.int (Int32.ofInt a1), .ref 0], zk c m) (543, zfr i o5 o6, [], zk c m1) :=
    ⟨[zc (some (.int (Int32.ofInt v1))) (zk c m1), zo], _, rfl, ⟨⟨(Nat.lt_of_lt_of_le (Nat.le_of_ble_eq_true rfl) hN), (Nat.le_of_ble_eq_true rfl)⟩, hs1, (Nat.le_of_ble_eq_true rfl), Nat.le_refl _, Nat.le_refl _, hB.1, hB.2⟩, trivial, trivial⟩
  have p3 : z_reach (z_sem zn (d + 60)) (some (L, xs), zn) B 1 (543, zfr i o5 o6, [], zk c m1) (550, zfr i o5 o6, [.int (Int32.ofInt a1), .ref 79], zk c m1) := by
    rw [← s1]
    exact ⟨[zo, zo, zo, zo, zo, zo], _, rfl, ⟨trivial, trivial, trivial, trivial, trivial, ix 1 (by omega), trivial⟩⟩
  obtain ⟨v2, m2, hs2, hJ2, hr2⟩ := S_X12_go zn (d + 22) hN hC a1 m1 hJ1 (by omega) (by omega)
  have p4 : z_reach (z_sem zn (d + 60)) (some (L, xs), zn) B 1 (550, zfr i o5 o6, [.int (Int32.ofInt a1), .ref 79], zk c m1) (1687, zfr i o5 o6, [], zk c m2) :=
    ⟨[zc (some (.int (Int32.ofInt v2))) (zk c m2), zo, zo], _, rfl, ⟨⟨(Nat.lt_of_lt_of_le (Nat.le_of_ble_eq_true rfl) hN), (Nat.le_of_ble_eq_true rfl)⟩, hs2, (Nat.le_of_ble_eq_true rfl), Nat.le_refl _, Nat.le_refl _, hB.1, hB.2⟩, trivial, trivial, trivial⟩
  have hJ3 : zJ m1 (t + 60) 0 m2 := by first | exact hJ2 | exact zJ_le hJ2 (by omega)
  obtain ⟨w1, w2, w3⟩ := zV_model (t1 := t + 60) hI1' k1 (by omega) hJ3
  exact ⟨m2, o5, o6, ((p1.trans p2).trans p3).trans p4, w1, w2, w3, zV_rt hI hK hI1 hJ3⟩
set_option maxRecDepth 100000 in
set_option maxHeartbeats 4000000 in
theorem zk11 (zn : Bool) (d L : Nat) (xs : Nat → Int32) (B : Nat × Nat) (i t : Int) (h0 : 0 ≤ i) (hi : i + 6 ≤ L) (hL : L ≤ 3072) (ht : 0 ≤ t ∧ t ≤ 40000) (o5 o6 : Option Value) {c : Nat × Nat} {m : zM} (hN : 107 ≤ c.1) (hC : c.1 < z_RO) (hB : c.1 ≤ B.1 ∧ c.2 ≤ B.2) (hV : zOP c m t) :
    ∃ (m2 : zM) (o5' o6' : Option Value), z_reach (z_sem zn (d + 60)) (some (L, xs), zn) B 1 (626, zfr i o5 o6, [], zk c m) (1687, zfr i o5' o6', [], zk c m2) ∧ zOP c m2 (t + 60) := by
  obtain ⟨hI, hH, hJ, hK⟩ := hV
  have g17 : (0 : Int) ≤ m 17 184 ∧ m 17 184 ≤ 1000000000 := hI.1 17 184
  have w17 : m 17 184 ≤ t := hH 17 (Or.inr (Or.inl rfl))
  have ix : ∀ k : Int, (0 ≤ k ∧ k ≤ 5) → vp_in (Int32.ofInt i + Int32.ofInt k) L := fun k hk => zx_ix h0 hk hi (by omega) rfl
  obtain ⟨a1, e1⟩ : ∃ q, q = (xs ((Int32.ofInt i + Int32.ofInt 1).toNatClampNeg)).toInt := ⟨_, rfl⟩
  have r1 : -2147483648 ≤ a1 ∧ a1 ≤ 2147483647 := by rw [e1]; exact ⟨Int32.le_toInt _, Int32.toInt_le _⟩
  have s1 : xs ((Int32.ofInt i + Int32.ofInt 1).toNatClampNeg) = Int32.ofInt a1 := by rw [e1]; exact zx_self _
  obtain ⟨a2, e2⟩ : ∃ q, q = (xs ((Int32.ofInt i + Int32.ofInt 2).toNatClampNeg)).toInt := ⟨_, rfl⟩
  have r2 : -2147483648 ≤ a2 ∧ a2 ≤ 2147483647 := by rw [e2]; exact ⟨Int32.le_toInt _, Int32.toInt_le _⟩
  have s2 : xs ((Int32.ofInt i + Int32.ofInt 2).toNatClampNeg) = Int32.ofInt a2 := by rw [e2]; exact zx_self _
  have p1 : z_reach (z_sem zn (d + 60)) (some (L, xs), zn) B 1 (626, zfr i o5 o6, [], zk c m) (639, zfr i o5 o6, [.int (Int32.ofInt a2), .int (Int32.ofInt a1), .ref 0], zk c m) := by
    rw [← s1, ← s2]
    exact ⟨[zo, zo, zo, zo, zo, zo, zo, zo, zo, zo, zo], _, rfl, ⟨trivial, trivial, trivial, trivial, trivial, ix 1 (by omega), trivial, trivial, trivial, trivial, ix 2 (by omega), trivial⟩⟩
  obtain ⟨v1, m1, hs1, hI1, hr1⟩ := S_X11_send zn (d + 57) hN hC a1 a2 t m hI (by omega) (by omega) (by omega) hH
  have k1 : zH (t + 60) m1 := by first | exact zH_le (zH_N hH hr1) (by omega) | exact zH_le (zH_N hH hr1.2) (by omega) | exact zH_le (zH_N hH hr1.2.2) (by omega) | exact zH_le (zH_N hH hr1.2.2.2) (by omega) | exact zH_le hr1 (by omega) | exact zH_le hr1.2 (by omega) | exact zH_le hr1.2.2 (by omega) | exact (fun p hp => by have q := hr1.2 p hp (by unfold zQ at hp; omega); have w := hH p hp; omega) | exact (fun p hp => by have q := hr1.2.2 p hp (by unfold zQ at hp; omega); have w := hH p hp; omega)
  obtain ⟨hJ1, hI1'⟩ := zV_class hJ hI1
  have p2 : z_reach (z_sem zn (d + 60)) (some (L, xs), zn) B 1 (639, zfr i o5 o6, [.int (Int32.ofInt a2), .int (Int32.ofInt a1), .ref 0], zk c m) (643, zfr i o5 o6, [], zk c m1) :=
    ⟨[zc (some (.int (Int32.ofInt v1))) (zk c m1), zo], _, rfl, ⟨⟨(Nat.lt_of_lt_of_le (Nat.le_of_ble_eq_true rfl) hN), (Nat.le_of_ble_eq_true rfl)⟩, hs1, (Nat.le_of_ble_eq_true rfl), Nat.le_refl _, Nat.le_refl _, hB.1, hB.2⟩, trivial, trivial⟩
  have p3 : z_reach (z_sem zn (d + 60)) (some (L, xs), zn) B 1 (643, zfr i o5 o6, [], zk c m1) (656, zfr i o5 o6, [.int (Int32.ofInt a2), .int (Int32.ofInt a1), .ref 79], zk c m1) := by
    rw [← s1, ← s2]
    exact ⟨[zo, zo, zo, zo, zo, zo, zo, zo, zo, zo, zo], _, rfl, ⟨trivial, trivial, trivial, trivial, trivial, ix 1 (by omega), trivial, trivial, trivial, trivial, ix 2 (by omega), trivial⟩⟩
  obtain ⟨v2, m2, hs2, hJ2, hr2⟩ := S_X12_send zn (d + 57) hN hC a1 a2 m1 hJ1 (by omega) (by omega)
  have p4 : z_reach (z_sem zn (d + 60)) (some (L, xs), zn) B 1 (656, zfr i o5 o6, [.int (Int32.ofInt a2), .int (Int32.ofInt a1), .ref 79], zk c m1) (1687, zfr i o5 o6, [], zk c m2) :=
    ⟨[zc (some (.int (Int32.ofInt v2))) (zk c m2), zo, zo], _, rfl, ⟨⟨(Nat.lt_of_lt_of_le (Nat.le_of_ble_eq_true rfl) hN), (Nat.le_of_ble_eq_true rfl)⟩, hs2, (Nat.le_of_ble_eq_true rfl), Nat.le_refl _, Nat.le_refl _, hB.1, hB.2⟩, trivial, trivial, trivial⟩
  have hJ3 : zJ m1 (t + 60) 0 m2 := by first | exact hJ2 | exact zJ_le hJ2 (by omega)
  obtain ⟨w1, w2, w3⟩ := zV_model (t1 := t + 60) hI1' k1 (by omega) hJ3
  exact ⟨m2, o5, o6, ((p1.trans p2).trans p3).trans p4, w1, w2, w3, zV_rt hI hK hI1 hJ3⟩
set_option maxRecDepth 100000 in
set_option maxHeartbeats 4000000 in
theorem zk13 (zn : Bool) (d L : Nat) (xs : Nat → Int32) (B : Nat × Nat) (i t : Int) (h0 : 0 ≤ i) (hi : i + 6 ≤ L) (hL : L ≤ 3072) (ht : 0 ≤ t ∧ t ≤ 40000) (o5 o6 : Option Value) {c : Nat × Nat} {m : zM} (hN : 107 ≤ c.1) (hC : c.1 < z_RO) (hB : c.1 ≤ B.1 ∧ c.2 ≤ B.2) (hV : zOP c m t) :
    ∃ (m2 : zM) (o5' o6' : Option Value), z_reach (z_sem zn (d + 60)) (some (L, xs), zn) B 1 (716, zfr i o5 o6, [], zk c m) (1687, zfr i o5' o6', [], zk c m2) ∧ zOP c m2 (t + 60) := by
  obtain ⟨hI, hH, hJ, hK⟩ := hV
  have g17 : (0 : Int) ≤ m 17 184 ∧ m 17 184 ≤ 1000000000 := hI.1 17 184
  have w17 : m 17 184 ≤ t := hH 17 (Or.inr (Or.inl rfl))
  have ix : ∀ k : Int, (0 ≤ k ∧ k ≤ 5) → vp_in (Int32.ofInt i + Int32.ofInt k) L := fun k hk => zx_ix h0 hk hi (by omega) rfl
  obtain ⟨a1, e1⟩ : ∃ q, q = (xs ((Int32.ofInt i + Int32.ofInt 1).toNatClampNeg)).toInt := ⟨_, rfl⟩
  have r1 : -2147483648 ≤ a1 ∧ a1 ≤ 2147483647 := by rw [e1]; exact ⟨Int32.le_toInt _, Int32.toInt_le _⟩
  have s1 : xs ((Int32.ofInt i + Int32.ofInt 1).toNatClampNeg) = Int32.ofInt a1 := by rw [e1]; exact zx_self _
  obtain ⟨a2, e2⟩ : ∃ q, q = (xs ((Int32.ofInt i + Int32.ofInt 2).toNatClampNeg)).toInt := ⟨_, rfl⟩
  have r2 : -2147483648 ≤ a2 ∧ a2 ≤ 2147483647 := by rw [e2]; exact ⟨Int32.le_toInt _, Int32.toInt_le _⟩
  have s2 : xs ((Int32.ofInt i + Int32.ofInt 2).toNatClampNeg) = Int32.ofInt a2 := by rw [e2]; exact zx_self _
  have p1 : z_reach (z_sem zn (d + 60)) (some (L, xs), zn) B 1 (716, zfr i o5 o6, [], zk c m) (729, zfr i o5 o6, [.int (Int32.ofInt a2), .int (Int32.ofInt a1), .ref 0], zk c m) := by
    rw [← s1, ← s2]
    exact ⟨[zo, zo, zo, zo, zo, zo, zo, zo, zo, zo, zo], _, rfl, ⟨trivial, trivial, trivial, trivial, trivial, ix 1 (by omega), trivial, trivial, trivial, trivial, ix 2 (by omega), trivial⟩⟩
  obtain ⟨v1, m1, hs1, hI1, hr1⟩ := S_X11_hang zn (d + 57) hN hC a1 a2 t m hI (by omega) (by omega) (by omega) hH
  have k1 : zH (t + 60) m1 := by first | exact zH_le (zH_N hH hr1) (by omega) | exact zH_le (zH_N hH hr1.2) (by omega) | exact zH_le (zH_N hH hr1.2.2) (by omega) | exact zH_le (zH_N hH hr1.2.2.2) (by omega) | exact zH_le hr1 (by omega) | exact zH_le hr1.2 (by omega) | exact zH_le hr1.2.2 (by omega) | exact (fun p hp => by have q := hr1.2 p hp (by unfold zQ at hp; omega); have w := hH p hp; omega) | exact (fun p hp => by have q := hr1.2.2 p hp (by unfold zQ at hp; omega); have w := hH p hp; omega)
  obtain ⟨hJ1, hI1'⟩ := zV_class hJ hI1
  have p2 : z_reach (z_sem zn (d + 60)) (some (L, xs), zn) B 1 (729, zfr i o5 o6, [.int (Int32.ofInt a2), .int (Int32.ofInt a1), .ref 0], zk c m) (733, zfr i o5 o6, [], zk c m1) :=
    ⟨[zc (some (.int (Int32.ofInt v1))) (zk c m1), zo], _, rfl, ⟨⟨(Nat.lt_of_lt_of_le (Nat.le_of_ble_eq_true rfl) hN), (Nat.le_of_ble_eq_true rfl)⟩, hs1, (Nat.le_of_ble_eq_true rfl), Nat.le_refl _, Nat.le_refl _, hB.1, hB.2⟩, trivial, trivial⟩
  have p3 : z_reach (z_sem zn (d + 60)) (some (L, xs), zn) B 1 (733, zfr i o5 o6, [], zk c m1) (746, zfr i o5 o6, [.int (Int32.ofInt a2), .int (Int32.ofInt a1), .ref 79], zk c m1) := by
    rw [← s1, ← s2]
    exact ⟨[zo, zo, zo, zo, zo, zo, zo, zo, zo, zo, zo], _, rfl, ⟨trivial, trivial, trivial, trivial, trivial, ix 1 (by omega), trivial, trivial, trivial, trivial, ix 2 (by omega), trivial⟩⟩
  obtain ⟨v2, m2, hs2, hJ2, hr2⟩ := S_X12_hang zn (d + 57) hN hC a1 a2 m1 hJ1 (by omega) (by omega)
  have p4 : z_reach (z_sem zn (d + 60)) (some (L, xs), zn) B 1 (746, zfr i o5 o6, [.int (Int32.ofInt a2), .int (Int32.ofInt a1), .ref 79], zk c m1) (1687, zfr i o5 o6, [], zk c m2) :=
    ⟨[zc (some (.int (Int32.ofInt v2))) (zk c m2), zo, zo], _, rfl, ⟨⟨(Nat.lt_of_lt_of_le (Nat.le_of_ble_eq_true rfl) hN), (Nat.le_of_ble_eq_true rfl)⟩, hs2, (Nat.le_of_ble_eq_true rfl), Nat.le_refl _, Nat.le_refl _, hB.1, hB.2⟩, trivial, trivial, trivial⟩
  have hJ3 : zJ m1 (t + 60) 0 m2 := by first | exact hJ2 | exact zJ_le hJ2 (by omega)
  obtain ⟨w1, w2, w3⟩ := zV_model (t1 := t + 60) hI1' k1 (by omega) hJ3
  exact ⟨m2, o5, o6, ((p1.trans p2).trans p3).trans p4, w1, w2, w3, zV_rt hI hK hI1 hJ3⟩
set_option maxRecDepth 100000 in
set_option maxHeartbeats 4000000 in
theorem zk14 (zn : Bool) (d L : Nat) (xs : Nat → Int32) (B : Nat × Nat) (i t : Int) (h0 : 0 ≤ i) (hi : i + 6 ≤ L) (hL : L ≤ 3072) (ht : 0 ≤ t ∧ t ≤ 40000) (o5 o6 : Option Value) {c : Nat × Nat} {m : zM} (hN : 107 ≤ c.1) (hC : c.1 < z_RO) (hB : c.1 ≤ B.1 ∧ c.2 ≤ B.2) (hV : zOP c m t) :
    ∃ (m2 : zM) (o5' o6' : Option Value), z_reach (z_sem zn (d + 60)) (some (L, xs), zn) B 1 (753, zfr i o5 o6, [], zk c m) (1687, zfr i o5' o6', [], zk c m2) ∧ zOP c m2 (t + 60) := by
  obtain ⟨hI, hH, hJ, hK⟩ := hV
  have g17 : (0 : Int) ≤ m 17 184 ∧ m 17 184 ≤ 1000000000 := hI.1 17 184
  have w17 : m 17 184 ≤ t := hH 17 (Or.inr (Or.inl rfl))
  have ix : ∀ k : Int, (0 ≤ k ∧ k ≤ 5) → vp_in (Int32.ofInt i + Int32.ofInt k) L := fun k hk => zx_ix h0 hk hi (by omega) rfl
  obtain ⟨a1, e1⟩ : ∃ q, q = (xs ((Int32.ofInt i + Int32.ofInt 1).toNatClampNeg)).toInt := ⟨_, rfl⟩
  have r1 : -2147483648 ≤ a1 ∧ a1 ≤ 2147483647 := by rw [e1]; exact ⟨Int32.le_toInt _, Int32.toInt_le _⟩
  have s1 : xs ((Int32.ofInt i + Int32.ofInt 1).toNatClampNeg) = Int32.ofInt a1 := by rw [e1]; exact zx_self _
  obtain ⟨a2, e2⟩ : ∃ q, q = (xs ((Int32.ofInt i + Int32.ofInt 2).toNatClampNeg)).toInt := ⟨_, rfl⟩
  have r2 : -2147483648 ≤ a2 ∧ a2 ≤ 2147483647 := by rw [e2]; exact ⟨Int32.le_toInt _, Int32.toInt_le _⟩
  have s2 : xs ((Int32.ofInt i + Int32.ofInt 2).toNatClampNeg) = Int32.ofInt a2 := by rw [e2]; exact zx_self _
  have p1 : z_reach (z_sem zn (d + 60)) (some (L, xs), zn) B 1 (753, zfr i o5 o6, [], zk c m) (766, zfr i o5 o6, [.int (Int32.ofInt a2), .int (Int32.ofInt a1), .ref 0], zk c m) := by
    rw [← s1, ← s2]
    exact ⟨[zo, zo, zo, zo, zo, zo, zo, zo, zo, zo, zo], _, rfl, ⟨trivial, trivial, trivial, trivial, trivial, ix 1 (by omega), trivial, trivial, trivial, trivial, ix 2 (by omega), trivial⟩⟩
  obtain ⟨v1, m1, hs1, hI1, hr1⟩ := S_X11_face zn (d + 57) hN hC a1 a2 t m hI (by omega) (by omega) (by omega) hH
  have k1 : zH (t + 60) m1 := by first | exact zH_le (zH_N hH hr1) (by omega) | exact zH_le (zH_N hH hr1.2) (by omega) | exact zH_le (zH_N hH hr1.2.2) (by omega) | exact zH_le (zH_N hH hr1.2.2.2) (by omega) | exact zH_le hr1 (by omega) | exact zH_le hr1.2 (by omega) | exact zH_le hr1.2.2 (by omega) | exact (fun p hp => by have q := hr1.2 p hp (by unfold zQ at hp; omega); have w := hH p hp; omega) | exact (fun p hp => by have q := hr1.2.2 p hp (by unfold zQ at hp; omega); have w := hH p hp; omega)
  obtain ⟨hJ1, hI1'⟩ := zV_class hJ hI1
  have p2 : z_reach (z_sem zn (d + 60)) (some (L, xs), zn) B 1 (766, zfr i o5 o6, [.int (Int32.ofInt a2), .int (Int32.ofInt a1), .ref 0], zk c m) (770, zfr i o5 o6, [], zk c m1) :=
    ⟨[zc (some (.int (Int32.ofInt v1))) (zk c m1), zo], _, rfl, ⟨⟨(Nat.lt_of_lt_of_le (Nat.le_of_ble_eq_true rfl) hN), (Nat.le_of_ble_eq_true rfl)⟩, hs1, (Nat.le_of_ble_eq_true rfl), Nat.le_refl _, Nat.le_refl _, hB.1, hB.2⟩, trivial, trivial⟩
  have p3 : z_reach (z_sem zn (d + 60)) (some (L, xs), zn) B 1 (770, zfr i o5 o6, [], zk c m1) (783, zfr i o5 o6, [.int (Int32.ofInt a2), .int (Int32.ofInt a1), .ref 79], zk c m1) := by
    rw [← s1, ← s2]
    exact ⟨[zo, zo, zo, zo, zo, zo, zo, zo, zo, zo, zo], _, rfl, ⟨trivial, trivial, trivial, trivial, trivial, ix 1 (by omega), trivial, trivial, trivial, trivial, ix 2 (by omega), trivial⟩⟩
  obtain ⟨v2, m2, hs2, hJ2, hr2⟩ := S_X12_face zn (d + 57) hN hC a1 a2 m1 hJ1 (by omega) (by omega)
  have p4 : z_reach (z_sem zn (d + 60)) (some (L, xs), zn) B 1 (783, zfr i o5 o6, [.int (Int32.ofInt a2), .int (Int32.ofInt a1), .ref 79], zk c m1) (1687, zfr i o5 o6, [], zk c m2) :=
    ⟨[zc (some (.int (Int32.ofInt v2))) (zk c m2), zo, zo], _, rfl, ⟨⟨(Nat.lt_of_lt_of_le (Nat.le_of_ble_eq_true rfl) hN), (Nat.le_of_ble_eq_true rfl)⟩, hs2, (Nat.le_of_ble_eq_true rfl), Nat.le_refl _, Nat.le_refl _, hB.1, hB.2⟩, trivial, trivial, trivial⟩
  have hJ3 : zJ m1 (t + 60) 0 m2 := by first | exact hJ2 | exact zJ_le hJ2 (by omega)
  obtain ⟨w1, w2, w3⟩ := zV_model (t1 := t + 60) hI1' k1 (by omega) hJ3
  exact ⟨m2, o5, o6, ((p1.trans p2).trans p3).trans p4, w1, w2, w3, zV_rt hI hK hI1 hJ3⟩
set_option maxRecDepth 100000 in
set_option maxHeartbeats 4000000 in
theorem zk15 (zn : Bool) (d L : Nat) (xs : Nat → Int32) (B : Nat × Nat) (i t : Int) (h0 : 0 ≤ i) (hi : i + 6 ≤ L) (hL : L ≤ 3072) (ht : 0 ≤ t ∧ t ≤ 40000) (o5 o6 : Option Value) {c : Nat × Nat} {m : zM} (hN : 107 ≤ c.1) (hC : c.1 < z_RO) (hB : c.1 ≤ B.1 ∧ c.2 ≤ B.2) (hV : zOP c m t) :
    ∃ (m2 : zM) (o5' o6' : Option Value), z_reach (z_sem zn (d + 60)) (some (L, xs), zn) B 1 (790, zfr i o5 o6, [], zk c m) (1687, zfr i o5' o6', [], zk c m2) ∧ zOP c m2 (t + 60) := by
  obtain ⟨hI, hH, hJ, hK⟩ := hV
  have g17 : (0 : Int) ≤ m 17 184 ∧ m 17 184 ≤ 1000000000 := hI.1 17 184
  have w17 : m 17 184 ≤ t := hH 17 (Or.inr (Or.inl rfl))
  have ix : ∀ k : Int, (0 ≤ k ∧ k ≤ 5) → vp_in (Int32.ofInt i + Int32.ofInt k) L := fun k hk => zx_ix h0 hk hi (by omega) rfl
  obtain ⟨a1, e1⟩ : ∃ q, q = (xs ((Int32.ofInt i + Int32.ofInt 1).toNatClampNeg)).toInt := ⟨_, rfl⟩
  have r1 : -2147483648 ≤ a1 ∧ a1 ≤ 2147483647 := by rw [e1]; exact ⟨Int32.le_toInt _, Int32.toInt_le _⟩
  have s1 : xs ((Int32.ofInt i + Int32.ofInt 1).toNatClampNeg) = Int32.ofInt a1 := by rw [e1]; exact zx_self _
  obtain ⟨a2, e2⟩ : ∃ q, q = (xs ((Int32.ofInt i + Int32.ofInt 2).toNatClampNeg)).toInt := ⟨_, rfl⟩
  have r2 : -2147483648 ≤ a2 ∧ a2 ≤ 2147483647 := by rw [e2]; exact ⟨Int32.le_toInt _, Int32.toInt_le _⟩
  have s2 : xs ((Int32.ofInt i + Int32.ofInt 2).toNatClampNeg) = Int32.ofInt a2 := by rw [e2]; exact zx_self _
  have p1 : z_reach (z_sem zn (d + 60)) (some (L, xs), zn) B 1 (790, zfr i o5 o6, [], zk c m) (803, zfr i o5 o6, [.int (Int32.ofInt a2), .int (Int32.ofInt a1), .ref 0], zk c m) := by
    rw [← s1, ← s2]
    exact ⟨[zo, zo, zo, zo, zo, zo, zo, zo, zo, zo, zo], _, rfl, ⟨trivial, trivial, trivial, trivial, trivial, ix 1 (by omega), trivial, trivial, trivial, trivial, ix 2 (by omega), trivial⟩⟩
  obtain ⟨v1, m1, hs1, hI1, hr1⟩ := S_X11_wind zn (d + 57) hN hC a1 a2 t m hI (by omega) (by omega) (by omega) hH
  have k1 : zH (t + 60) m1 := by first | exact zH_le (zH_N hH hr1) (by omega) | exact zH_le (zH_N hH hr1.2) (by omega) | exact zH_le (zH_N hH hr1.2.2) (by omega) | exact zH_le (zH_N hH hr1.2.2.2) (by omega) | exact zH_le hr1 (by omega) | exact zH_le hr1.2 (by omega) | exact zH_le hr1.2.2 (by omega) | exact (fun p hp => by have q := hr1.2 p hp (by unfold zQ at hp; omega); have w := hH p hp; omega) | exact (fun p hp => by have q := hr1.2.2 p hp (by unfold zQ at hp; omega); have w := hH p hp; omega)
  obtain ⟨hJ1, hI1'⟩ := zV_class hJ hI1
  have p2 : z_reach (z_sem zn (d + 60)) (some (L, xs), zn) B 1 (803, zfr i o5 o6, [.int (Int32.ofInt a2), .int (Int32.ofInt a1), .ref 0], zk c m) (807, zfr i o5 o6, [], zk c m1) :=
    ⟨[zc (some (.int (Int32.ofInt v1))) (zk c m1), zo], _, rfl, ⟨⟨(Nat.lt_of_lt_of_le (Nat.le_of_ble_eq_true rfl) hN), (Nat.le_of_ble_eq_true rfl)⟩, hs1, (Nat.le_of_ble_eq_true rfl), Nat.le_refl _, Nat.le_refl _, hB.1, hB.2⟩, trivial, trivial⟩
  have p3 : z_reach (z_sem zn (d + 60)) (some (L, xs), zn) B 1 (807, zfr i o5 o6, [], zk c m1) (820, zfr i o5 o6, [.int (Int32.ofInt a2), .int (Int32.ofInt a1), .ref 79], zk c m1) := by
    rw [← s1, ← s2]
    exact ⟨[zo, zo, zo, zo, zo, zo, zo, zo, zo, zo, zo], _, rfl, ⟨trivial, trivial, trivial, trivial, trivial, ix 1 (by omega), trivial, trivial, trivial, trivial, ix 2 (by omega), trivial⟩⟩
  obtain ⟨v2, m2, hs2, hJ2, hr2⟩ := S_X12_wind zn (d + 57) hN hC a1 a2 m1 hJ1 (by omega) (by omega)
  have p4 : z_reach (z_sem zn (d + 60)) (some (L, xs), zn) B 1 (820, zfr i o5 o6, [.int (Int32.ofInt a2), .int (Int32.ofInt a1), .ref 79], zk c m1) (1687, zfr i o5 o6, [], zk c m2) :=
    ⟨[zc (some (.int (Int32.ofInt v2))) (zk c m2), zo, zo], _, rfl, ⟨⟨(Nat.lt_of_lt_of_le (Nat.le_of_ble_eq_true rfl) hN), (Nat.le_of_ble_eq_true rfl)⟩, hs2, (Nat.le_of_ble_eq_true rfl), Nat.le_refl _, Nat.le_refl _, hB.1, hB.2⟩, trivial, trivial, trivial⟩
  have hJ3 : zJ m1 (t + 60) 0 m2 := by first | exact hJ2 | exact zJ_le hJ2 (by omega)
  obtain ⟨w1, w2, w3⟩ := zV_model (t1 := t + 60) hI1' k1 (by omega) hJ3
  exact ⟨m2, o5, o6, ((p1.trans p2).trans p3).trans p4, w1, w2, w3, zV_rt hI hK hI1 hJ3⟩
set_option maxRecDepth 100000 in
set_option maxHeartbeats 4000000 in
theorem zk17 (zn : Bool) (d L : Nat) (xs : Nat → Int32) (B : Nat × Nat) (i t : Int) (h0 : 0 ≤ i) (hi : i + 6 ≤ L) (hL : L ≤ 3072) (ht : 0 ≤ t ∧ t ≤ 40000) (o5 o6 : Option Value) {c : Nat × Nat} {m : zM} (hN : 107 ≤ c.1) (hC : c.1 < z_RO) (hB : c.1 ≤ B.1 ∧ c.2 ≤ B.2) (hV : zOP c m t) :
    ∃ (m2 : zM) (o5' o6' : Option Value), z_reach (z_sem zn (d + 60)) (some (L, xs), zn) B 1 (880, zfr i o5 o6, [], zk c m) (1687, zfr i o5' o6', [], zk c m2) ∧ zOP c m2 (t + 60) := by
  obtain ⟨hI, hH, hJ, hK⟩ := hV
  have g17 : (0 : Int) ≤ m 17 184 ∧ m 17 184 ≤ 1000000000 := hI.1 17 184
  have w17 : m 17 184 ≤ t := hH 17 (Or.inr (Or.inl rfl))
  have ix : ∀ k : Int, (0 ≤ k ∧ k ≤ 5) → vp_in (Int32.ofInt i + Int32.ofInt k) L := fun k hk => zx_ix h0 hk hi (by omega) rfl
  have p1 : z_reach (z_sem zn (d + 60)) (some (L, xs), zn) B 1 (880, zfr i o5 o6, [], zk c m) (881, zfr i o5 o6, [.ref 0], zk c m) := by
    exact ⟨[zo], _, rfl, ⟨trivial, trivial⟩⟩
  obtain ⟨v1, m1, hs1, hI1, hr1⟩ := S_X11_undo zn (d + 58) hN hC t m hI (by omega) hH
  have k1 : zH (t + 60) m1 := by first | exact zH_le (zH_N hH hr1) (by omega) | exact zH_le (zH_N hH hr1.2) (by omega) | exact zH_le (zH_N hH hr1.2.2) (by omega) | exact zH_le (zH_N hH hr1.2.2.2) (by omega) | exact zH_le hr1 (by omega) | exact zH_le hr1.2 (by omega) | exact zH_le hr1.2.2 (by omega) | exact (fun p hp => by have q := hr1.2 p hp (by unfold zQ at hp; omega); have w := hH p hp; omega) | exact (fun p hp => by have q := hr1.2.2 p hp (by unfold zQ at hp; omega); have w := hH p hp; omega)
  obtain ⟨hJ1, hI1'⟩ := zV_class hJ hI1
  have p2 : z_reach (z_sem zn (d + 60)) (some (L, xs), zn) B 1 (881, zfr i o5 o6, [.ref 0], zk c m) (885, zfr i o5 o6, [], zk c m1) :=
    ⟨[zc (some (.int (Int32.ofInt v1))) (zk c m1), zo], _, rfl, ⟨⟨(Nat.lt_of_lt_of_le (Nat.le_of_ble_eq_true rfl) hN), (Nat.le_of_ble_eq_true rfl)⟩, hs1, (Nat.le_of_ble_eq_true rfl), Nat.le_refl _, Nat.le_refl _, hB.1, hB.2⟩, trivial, trivial⟩
  have p3 : z_reach (z_sem zn (d + 60)) (some (L, xs), zn) B 1 (885, zfr i o5 o6, [], zk c m1) (886, zfr i o5 o6, [.ref 79], zk c m1) := by
    exact ⟨[zo], _, rfl, ⟨trivial, trivial⟩⟩
  obtain ⟨v2, m2, hs2, hJ2, hr2⟩ := S_X12_undo zn (d + 59) hN hC m1 hJ1
  have p4 : z_reach (z_sem zn (d + 60)) (some (L, xs), zn) B 1 (886, zfr i o5 o6, [.ref 79], zk c m1) (1687, zfr i o5 o6, [], zk c m2) :=
    ⟨[zc (some (.int (Int32.ofInt v2))) (zk c m2), zo, zo], _, rfl, ⟨⟨(Nat.lt_of_lt_of_le (Nat.le_of_ble_eq_true rfl) hN), (Nat.le_of_ble_eq_true rfl)⟩, hs2, (Nat.le_of_ble_eq_true rfl), Nat.le_refl _, Nat.le_refl _, hB.1, hB.2⟩, trivial, trivial, trivial⟩
  have hJ3 : zJ m1 (t + 60) 0 m2 := by first | exact hJ2 | exact zJ_le hJ2 (by omega)
  obtain ⟨w1, w2, w3⟩ := zV_model (t1 := t + 60) hI1' k1 (by omega) hJ3
  exact ⟨m2, o5, o6, ((p1.trans p2).trans p3).trans p4, w1, w2, w3, zV_rt hI hK hI1 hJ3⟩
set_option maxRecDepth 100000 in
set_option maxHeartbeats 4000000 in
theorem zk18 (zn : Bool) (d L : Nat) (xs : Nat → Int32) (B : Nat × Nat) (i t : Int) (h0 : 0 ≤ i) (hi : i + 6 ≤ L) (hL : L ≤ 3072) (ht : 0 ≤ t ∧ t ≤ 40000) (o5 o6 : Option Value) {c : Nat × Nat} {m : zM} (hN : 107 ≤ c.1) (hC : c.1 < z_RO) (hB : c.1 ≤ B.1 ∧ c.2 ≤ B.2) (hV : zOP c m t) :
    ∃ (m2 : zM) (o5' o6' : Option Value), z_reach (z_sem zn (d + 60)) (some (L, xs), zn) B 1 (893, zfr i o5 o6, [], zk c m) (1687, zfr i o5' o6', [], zk c m2) ∧ zOP c m2 (t + 60) := by
  obtain ⟨hI, hH, hJ, hK⟩ := hV
  have g17 : (0 : Int) ≤ m 17 184 ∧ m 17 184 ≤ 1000000000 := hI.1 17 184
  have w17 : m 17 184 ≤ t := hH 17 (Or.inr (Or.inl rfl))
  have ix : ∀ k : Int, (0 ≤ k ∧ k ≤ 5) → vp_in (Int32.ofInt i + Int32.ofInt k) L := fun k hk => zx_ix h0 hk hi (by omega) rfl
  obtain ⟨a1, e1⟩ : ∃ q, q = (xs ((Int32.ofInt i + Int32.ofInt 1).toNatClampNeg)).toInt := ⟨_, rfl⟩
  have r1 : -2147483648 ≤ a1 ∧ a1 ≤ 2147483647 := by rw [e1]; exact ⟨Int32.le_toInt _, Int32.toInt_le _⟩
  have s1 : xs ((Int32.ofInt i + Int32.ofInt 1).toNatClampNeg) = Int32.ofInt a1 := by rw [e1]; exact zx_self _
  obtain ⟨a2, e2⟩ : ∃ q, q = (xs ((Int32.ofInt i + Int32.ofInt 2).toNatClampNeg)).toInt := ⟨_, rfl⟩
  have r2 : -2147483648 ≤ a2 ∧ a2 ≤ 2147483647 := by rw [e2]; exact ⟨Int32.le_toInt _, Int32.toInt_le _⟩
  have s2 : xs ((Int32.ofInt i + Int32.ofInt 2).toNatClampNeg) = Int32.ofInt a2 := by rw [e2]; exact zx_self _
  have p1 : z_reach (z_sem zn (d + 60)) (some (L, xs), zn) B 1 (893, zfr i o5 o6, [], zk c m) (906, zfr i o5 o6, [.int (Int32.ofInt a2), .int (Int32.ofInt a1), .ref 0], zk c m) := by
    rw [← s1, ← s2]
    exact ⟨[zo, zo, zo, zo, zo, zo, zo, zo, zo, zo, zo], _, rfl, ⟨trivial, trivial, trivial, trivial, trivial, ix 1 (by omega), trivial, trivial, trivial, trivial, ix 2 (by omega), trivial⟩⟩
  obtain ⟨v1, hs1, hr1⟩ := S_X11_log zn (d + 57) hN hC a1 a2 m hI (by omega) (by omega)
  obtain ⟨m1, e1⟩ : ∃ q, q = m := ⟨_, rfl⟩
  have hI1 : zI c m m1 := by rw [e1]; exact hI
  have k1 : zH (t + 60) m1 := by rw [e1]; exact zH_le hH (by omega)
  obtain ⟨hJ1, hI1'⟩ := zV_class hJ hI1
  have p2 : z_reach (z_sem zn (d + 60)) (some (L, xs), zn) B 1 (906, zfr i o5 o6, [.int (Int32.ofInt a2), .int (Int32.ofInt a1), .ref 0], zk c m) (910, zfr i o5 o6, [], zk c m1) :=
    ⟨[zc (some (.int (Int32.ofInt v1))) (zk c m1), zo], _, rfl, ⟨⟨(Nat.lt_of_lt_of_le (Nat.le_of_ble_eq_true rfl) hN), (Nat.le_of_ble_eq_true rfl)⟩, (by rw [e1]; exact hs1), (Nat.le_of_ble_eq_true rfl), Nat.le_refl _, Nat.le_refl _, hB.1, hB.2⟩, trivial, trivial⟩
  have p3 : z_reach (z_sem zn (d + 60)) (some (L, xs), zn) B 1 (910, zfr i o5 o6, [], zk c m1) (923, zfr i o5 o6, [.int (Int32.ofInt a2), .int (Int32.ofInt a1), .ref 79], zk c m1) := by
    rw [← s1, ← s2]
    exact ⟨[zo, zo, zo, zo, zo, zo, zo, zo, zo, zo, zo], _, rfl, ⟨trivial, trivial, trivial, trivial, trivial, ix 1 (by omega), trivial, trivial, trivial, trivial, ix 2 (by omega), trivial⟩⟩
  obtain ⟨v2, m2, hs2, hJ2, hr2⟩ := S_X12_log zn (d + 58) hN hC a1 a2 m1 hJ1 (by omega) (by omega)
  have p4 : z_reach (z_sem zn (d + 60)) (some (L, xs), zn) B 1 (923, zfr i o5 o6, [.int (Int32.ofInt a2), .int (Int32.ofInt a1), .ref 79], zk c m1) (1687, zfr i o5 o6, [], zk c m2) :=
    ⟨[zc (some (.int (Int32.ofInt v2))) (zk c m2), zo, zo], _, rfl, ⟨⟨(Nat.lt_of_lt_of_le (Nat.le_of_ble_eq_true rfl) hN), (Nat.le_of_ble_eq_true rfl)⟩, hs2, (Nat.le_of_ble_eq_true rfl), Nat.le_refl _, Nat.le_refl _, hB.1, hB.2⟩, trivial, trivial, trivial⟩
  have hJ3 : zJ m1 (t + 60) 0 m2 := by first | exact hJ2 | exact zJ_le hJ2 (by omega)
  obtain ⟨w1, w2, w3⟩ := zV_model (t1 := t + 60) hI1' k1 (by omega) hJ3
  exact ⟨m2, o5, o6, ((p1.trans p2).trans p3).trans p4, w1, w2, w3, zV_rt hI hK hI1 hJ3⟩
set_option maxRecDepth 100000 in
set_option maxHeartbeats 4000000 in
theorem zk19 (zn : Bool) (d L : Nat) (xs : Nat → Int32) (B : Nat × Nat) (i t : Int) (h0 : 0 ≤ i) (hi : i + 6 ≤ L) (hL : L ≤ 3072) (ht : 0 ≤ t ∧ t ≤ 40000) (o5 o6 : Option Value) {c : Nat × Nat} {m : zM} (hN : 107 ≤ c.1) (hC : c.1 < z_RO) (hB : c.1 ≤ B.1 ∧ c.2 ≤ B.2) (hV : zOP c m t) :
    ∃ (m2 : zM) (o5' o6' : Option Value), z_reach (z_sem zn (d + 60)) (some (L, xs), zn) B 1 (930, zfr i o5 o6, [], zk c m) (1687, zfr i o5' o6', [], zk c m2) ∧ zOP c m2 (t + 60) := by
  obtain ⟨hI, hH, hJ, hK⟩ := hV
  have g17 : (0 : Int) ≤ m 17 184 ∧ m 17 184 ≤ 1000000000 := hI.1 17 184
  have w17 : m 17 184 ≤ t := hH 17 (Or.inr (Or.inl rfl))
  have ix : ∀ k : Int, (0 ≤ k ∧ k ≤ 5) → vp_in (Int32.ofInt i + Int32.ofInt k) L := fun k hk => zx_ix h0 hk hi (by omega) rfl
  obtain ⟨a1, e1⟩ : ∃ q, q = (xs ((Int32.ofInt i + Int32.ofInt 1).toNatClampNeg)).toInt := ⟨_, rfl⟩
  have r1 : -2147483648 ≤ a1 ∧ a1 ≤ 2147483647 := by rw [e1]; exact ⟨Int32.le_toInt _, Int32.toInt_le _⟩
  have s1 : xs ((Int32.ofInt i + Int32.ofInt 1).toNatClampNeg) = Int32.ofInt a1 := by rw [e1]; exact zx_self _
  obtain ⟨a2, e2⟩ : ∃ q, q = (xs ((Int32.ofInt i + Int32.ofInt 2).toNatClampNeg)).toInt := ⟨_, rfl⟩
  have r2 : -2147483648 ≤ a2 ∧ a2 ≤ 2147483647 := by rw [e2]; exact ⟨Int32.le_toInt _, Int32.toInt_le _⟩
  have s2 : xs ((Int32.ofInt i + Int32.ofInt 2).toNatClampNeg) = Int32.ofInt a2 := by rw [e2]; exact zx_self _
  have p1 : z_reach (z_sem zn (d + 60)) (some (L, xs), zn) B 1 (930, zfr i o5 o6, [], zk c m) (943, zfr i o5 o6, [.int (Int32.ofInt a2), .int (Int32.ofInt a1), .ref 0], zk c m) := by
    rw [← s1, ← s2]
    exact ⟨[zo, zo, zo, zo, zo, zo, zo, zo, zo, zo, zo], _, rfl, ⟨trivial, trivial, trivial, trivial, trivial, ix 1 (by omega), trivial, trivial, trivial, trivial, ix 2 (by omega), trivial⟩⟩
  obtain ⟨v1, m1, hs1, hI1, hr1⟩ := S_X11_ahead zn (d + 53) hN hC a1 a2 m hI (by omega) (by omega) (by omega)
  have k1 : zH (t + 60) m1 := by first | exact zH_le (zH_N hH hr1) (by omega) | exact zH_le (zH_N hH hr1.2) (by omega) | exact zH_le (zH_N hH hr1.2.2) (by omega) | exact zH_le (zH_N hH hr1.2.2.2) (by omega) | exact zH_le hr1 (by omega) | exact zH_le hr1.2 (by omega) | exact zH_le hr1.2.2 (by omega) | exact (fun p hp => by have q := hr1.2 p hp (by unfold zQ at hp; omega); have w := hH p hp; omega) | exact (fun p hp => by have q := hr1.2.2 p hp (by unfold zQ at hp; omega); have w := hH p hp; omega)
  obtain ⟨hJ1, hI1'⟩ := zV_class hJ hI1
  have p2 : z_reach (z_sem zn (d + 60)) (some (L, xs), zn) B 1 (943, zfr i o5 o6, [.int (Int32.ofInt a2), .int (Int32.ofInt a1), .ref 0], zk c m) (947, zfr i o5 o6, [], zk c m1) :=
    ⟨[zc (some (.int (Int32.ofInt v1))) (zk c m1), zo], _, rfl, ⟨⟨(Nat.lt_of_lt_of_le (Nat.le_of_ble_eq_true rfl) hN), (Nat.le_of_ble_eq_true rfl)⟩, hs1, (Nat.le_of_ble_eq_true rfl), Nat.le_refl _, Nat.le_refl _, hB.1, hB.2⟩, trivial, trivial⟩
  have p3 : z_reach (z_sem zn (d + 60)) (some (L, xs), zn) B 1 (947, zfr i o5 o6, [], zk c m1) (960, zfr i o5 o6, [.int (Int32.ofInt a2), .int (Int32.ofInt a1), .ref 79], zk c m1) := by
    rw [← s1, ← s2]
    exact ⟨[zo, zo, zo, zo, zo, zo, zo, zo, zo, zo, zo], _, rfl, ⟨trivial, trivial, trivial, trivial, trivial, ix 1 (by omega), trivial, trivial, trivial, trivial, ix 2 (by omega), trivial⟩⟩
  obtain ⟨v2, m2, hs2, hJ2, hr2⟩ := S_X12_ahead zn (d + 21) hN hC a1 a2 m1 hJ1 (by omega) (by omega) (by omega)
  have p4 : z_reach (z_sem zn (d + 60)) (some (L, xs), zn) B 1 (960, zfr i o5 o6, [.int (Int32.ofInt a2), .int (Int32.ofInt a1), .ref 79], zk c m1) (1687, zfr i o5 o6, [], zk c m2) :=
    ⟨[zc (some (.int (Int32.ofInt v2))) (zk c m2), zo, zo], _, rfl, ⟨⟨(Nat.lt_of_lt_of_le (Nat.le_of_ble_eq_true rfl) hN), (Nat.le_of_ble_eq_true rfl)⟩, hs2, (Nat.le_of_ble_eq_true rfl), Nat.le_refl _, Nat.le_refl _, hB.1, hB.2⟩, trivial, trivial, trivial⟩
  have hJ3 : zJ m1 (t + 60) 0 m2 := by first | exact hJ2 | exact zJ_le hJ2 (by omega)
  obtain ⟨w1, w2, w3⟩ := zV_model (t1 := t + 60) hI1' k1 (by omega) hJ3
  exact ⟨m2, o5, o6, ((p1.trans p2).trans p3).trans p4, w1, w2, w3, zV_rt hI hK hI1 hJ3⟩
set_option maxRecDepth 100000 in
set_option maxHeartbeats 4000000 in
theorem zk20 (zn : Bool) (d L : Nat) (xs : Nat → Int32) (B : Nat × Nat) (i t : Int) (h0 : 0 ≤ i) (hi : i + 6 ≤ L) (hL : L ≤ 3072) (ht : 0 ≤ t ∧ t ≤ 40000) (o5 o6 : Option Value) {c : Nat × Nat} {m : zM} (hN : 107 ≤ c.1) (hC : c.1 < z_RO) (hB : c.1 ≤ B.1 ∧ c.2 ≤ B.2) (hV : zOP c m t) :
    ∃ (m2 : zM) (o5' o6' : Option Value), z_reach (z_sem zn (d + 60)) (some (L, xs), zn) B 1 (967, zfr i o5 o6, [], zk c m) (1687, zfr i o5' o6', [], zk c m2) ∧ zOP c m2 (t + 60) := by
  obtain ⟨hI, hH, hJ, hK⟩ := hV
  have g17 : (0 : Int) ≤ m 17 184 ∧ m 17 184 ≤ 1000000000 := hI.1 17 184
  have w17 : m 17 184 ≤ t := hH 17 (Or.inr (Or.inl rfl))
  have ix : ∀ k : Int, (0 ≤ k ∧ k ≤ 5) → vp_in (Int32.ofInt i + Int32.ofInt k) L := fun k hk => zx_ix h0 hk hi (by omega) rfl
  obtain ⟨a1, e1⟩ : ∃ q, q = (xs ((Int32.ofInt i + Int32.ofInt 1).toNatClampNeg)).toInt := ⟨_, rfl⟩
  have r1 : -2147483648 ≤ a1 ∧ a1 ≤ 2147483647 := by rw [e1]; exact ⟨Int32.le_toInt _, Int32.toInt_le _⟩
  have s1 : xs ((Int32.ofInt i + Int32.ofInt 1).toNatClampNeg) = Int32.ofInt a1 := by rw [e1]; exact zx_self _
  obtain ⟨a2, e2⟩ : ∃ q, q = (xs ((Int32.ofInt i + Int32.ofInt 2).toNatClampNeg)).toInt := ⟨_, rfl⟩
  have r2 : -2147483648 ≤ a2 ∧ a2 ≤ 2147483647 := by rw [e2]; exact ⟨Int32.le_toInt _, Int32.toInt_le _⟩
  have s2 : xs ((Int32.ofInt i + Int32.ofInt 2).toNatClampNeg) = Int32.ofInt a2 := by rw [e2]; exact zx_self _
  have p1 : z_reach (z_sem zn (d + 60)) (some (L, xs), zn) B 1 (967, zfr i o5 o6, [], zk c m) (980, zfr i o5 o6, [.int (Int32.ofInt a2), .int (Int32.ofInt a1), .ref 0], zk c m) := by
    rw [← s1, ← s2]
    exact ⟨[zo, zo, zo, zo, zo, zo, zo, zo, zo, zo, zo], _, rfl, ⟨trivial, trivial, trivial, trivial, trivial, ix 1 (by omega), trivial, trivial, trivial, trivial, ix 2 (by omega), trivial⟩⟩
  obtain ⟨v1, m1, hs1, hI1, hr1⟩ := S_X11_starves zn (d + 53) hN hC a1 a2 m hI (by omega) (by omega) (by omega)
  have k1 : zH (t + 60) m1 := by first | exact zH_le (zH_N hH hr1) (by omega) | exact zH_le (zH_N hH hr1.2) (by omega) | exact zH_le (zH_N hH hr1.2.2) (by omega) | exact zH_le (zH_N hH hr1.2.2.2) (by omega) | exact zH_le hr1 (by omega) | exact zH_le hr1.2 (by omega) | exact zH_le hr1.2.2 (by omega) | exact (fun p hp => by have q := hr1.2 p hp (by unfold zQ at hp; omega); have w := hH p hp; omega) | exact (fun p hp => by have q := hr1.2.2 p hp (by unfold zQ at hp; omega); have w := hH p hp; omega)
  obtain ⟨hJ1, hI1'⟩ := zV_class hJ hI1
  have p2 : z_reach (z_sem zn (d + 60)) (some (L, xs), zn) B 1 (980, zfr i o5 o6, [.int (Int32.ofInt a2), .int (Int32.ofInt a1), .ref 0], zk c m) (984, zfr i o5 o6, [], zk c m1) :=
    ⟨[zc (some (.int (Int32.ofInt v1))) (zk c m1), zo], _, rfl, ⟨⟨(Nat.lt_of_lt_of_le (Nat.le_of_ble_eq_true rfl) hN), (Nat.le_of_ble_eq_true rfl)⟩, hs1, (Nat.le_of_ble_eq_true rfl), Nat.le_refl _, Nat.le_refl _, hB.1, hB.2⟩, trivial, trivial⟩
  have p3 : z_reach (z_sem zn (d + 60)) (some (L, xs), zn) B 1 (984, zfr i o5 o6, [], zk c m1) (997, zfr i o5 o6, [.int (Int32.ofInt a2), .int (Int32.ofInt a1), .ref 79], zk c m1) := by
    rw [← s1, ← s2]
    exact ⟨[zo, zo, zo, zo, zo, zo, zo, zo, zo, zo, zo], _, rfl, ⟨trivial, trivial, trivial, trivial, trivial, ix 1 (by omega), trivial, trivial, trivial, trivial, ix 2 (by omega), trivial⟩⟩
  obtain ⟨v2, m2, hs2, hJ2, hr2⟩ := S_X12_starves zn (d + 20) hN hC a1 a2 m1 hJ1 (by omega) (by omega) (by omega)
  have p4 : z_reach (z_sem zn (d + 60)) (some (L, xs), zn) B 1 (997, zfr i o5 o6, [.int (Int32.ofInt a2), .int (Int32.ofInt a1), .ref 79], zk c m1) (1687, zfr i o5 o6, [], zk c m2) :=
    ⟨[zc (some (.int (Int32.ofInt v2))) (zk c m2), zo, zo], _, rfl, ⟨⟨(Nat.lt_of_lt_of_le (Nat.le_of_ble_eq_true rfl) hN), (Nat.le_of_ble_eq_true rfl)⟩, hs2, (Nat.le_of_ble_eq_true rfl), Nat.le_refl _, Nat.le_refl _, hB.1, hB.2⟩, trivial, trivial, trivial⟩
  have hJ3 : zJ m1 (t + 60) 0 m2 := by first | exact hJ2 | exact zJ_le hJ2 (by omega)
  obtain ⟨w1, w2, w3⟩ := zV_model (t1 := t + 60) hI1' k1 (by omega) hJ3
  exact ⟨m2, o5, o6, ((p1.trans p2).trans p3).trans p4, w1, w2, w3, zV_rt hI hK hI1 hJ3⟩
set_option maxRecDepth 100000 in
set_option maxHeartbeats 4000000 in
theorem zk21 (zn : Bool) (d L : Nat) (xs : Nat → Int32) (B : Nat × Nat) (i t : Int) (h0 : 0 ≤ i) (hi : i + 6 ≤ L) (hL : L ≤ 3072) (ht : 0 ≤ t ∧ t ≤ 40000) (o5 o6 : Option Value) {c : Nat × Nat} {m : zM} (hN : 107 ≤ c.1) (hC : c.1 < z_RO) (hB : c.1 ≤ B.1 ∧ c.2 ≤ B.2) (hV : zOP c m t) :
    ∃ (m2 : zM) (o5' o6' : Option Value), z_reach (z_sem zn (d + 60)) (some (L, xs), zn) B 1 (1004, zfr i o5 o6, [], zk c m) (1687, zfr i o5' o6', [], zk c m2) ∧ zOP c m2 (t + 60) := by
  obtain ⟨hI, hH, hJ, hK⟩ := hV
  have g17 : (0 : Int) ≤ m 17 184 ∧ m 17 184 ≤ 1000000000 := hI.1 17 184
  have w17 : m 17 184 ≤ t := hH 17 (Or.inr (Or.inl rfl))
  have ix : ∀ k : Int, (0 ≤ k ∧ k ≤ 5) → vp_in (Int32.ofInt i + Int32.ofInt k) L := fun k hk => zx_ix h0 hk hi (by omega) rfl
  obtain ⟨a1, e1⟩ : ∃ q, q = (xs ((Int32.ofInt i + Int32.ofInt 1).toNatClampNeg)).toInt := ⟨_, rfl⟩
  have r1 : -2147483648 ≤ a1 ∧ a1 ≤ 2147483647 := by rw [e1]; exact ⟨Int32.le_toInt _, Int32.toInt_le _⟩
  have s1 : xs ((Int32.ofInt i + Int32.ofInt 1).toNatClampNeg) = Int32.ofInt a1 := by rw [e1]; exact zx_self _
  obtain ⟨a2, e2⟩ : ∃ q, q = (xs ((Int32.ofInt i + Int32.ofInt 2).toNatClampNeg)).toInt := ⟨_, rfl⟩
  have r2 : -2147483648 ≤ a2 ∧ a2 ≤ 2147483647 := by rw [e2]; exact ⟨Int32.le_toInt _, Int32.toInt_le _⟩
  have s2 : xs ((Int32.ofInt i + Int32.ofInt 2).toNatClampNeg) = Int32.ofInt a2 := by rw [e2]; exact zx_self _
  have p1 : z_reach (z_sem zn (d + 60)) (some (L, xs), zn) B 1 (1004, zfr i o5 o6, [], zk c m) (1017, zfr i o5 o6, [.int (Int32.ofInt a2), .int (Int32.ofInt a1), .ref 0], zk c m) := by
    rw [← s1, ← s2]
    exact ⟨[zo, zo, zo, zo, zo, zo, zo, zo, zo, zo, zo], _, rfl, ⟨trivial, trivial, trivial, trivial, trivial, ix 1 (by omega), trivial, trivial, trivial, trivial, ix 2 (by omega), trivial⟩⟩
  obtain ⟨v1, m1, hs1, hI1, hr1⟩ := S_X11_wild zn (d + 53) hN hC a1 a2 m hI (by omega) (by omega) (by omega)
  have k1 : zH (t + 60) m1 := by first | exact zH_le (zH_N hH hr1) (by omega) | exact zH_le (zH_N hH hr1.2) (by omega) | exact zH_le (zH_N hH hr1.2.2) (by omega) | exact zH_le (zH_N hH hr1.2.2.2) (by omega) | exact zH_le hr1 (by omega) | exact zH_le hr1.2 (by omega) | exact zH_le hr1.2.2 (by omega) | exact (fun p hp => by have q := hr1.2 p hp (by unfold zQ at hp; omega); have w := hH p hp; omega) | exact (fun p hp => by have q := hr1.2.2 p hp (by unfold zQ at hp; omega); have w := hH p hp; omega)
  obtain ⟨hJ1, hI1'⟩ := zV_class hJ hI1
  have p2 : z_reach (z_sem zn (d + 60)) (some (L, xs), zn) B 1 (1017, zfr i o5 o6, [.int (Int32.ofInt a2), .int (Int32.ofInt a1), .ref 0], zk c m) (1021, zfr i o5 o6, [], zk c m1) :=
    ⟨[zc (some (.int (Int32.ofInt v1))) (zk c m1), zo], _, rfl, ⟨⟨(Nat.lt_of_lt_of_le (Nat.le_of_ble_eq_true rfl) hN), (Nat.le_of_ble_eq_true rfl)⟩, hs1, (Nat.le_of_ble_eq_true rfl), Nat.le_refl _, Nat.le_refl _, hB.1, hB.2⟩, trivial, trivial⟩
  have p3 : z_reach (z_sem zn (d + 60)) (some (L, xs), zn) B 1 (1021, zfr i o5 o6, [], zk c m1) (1034, zfr i o5 o6, [.int (Int32.ofInt a2), .int (Int32.ofInt a1), .ref 79], zk c m1) := by
    rw [← s1, ← s2]
    exact ⟨[zo, zo, zo, zo, zo, zo, zo, zo, zo, zo, zo], _, rfl, ⟨trivial, trivial, trivial, trivial, trivial, ix 1 (by omega), trivial, trivial, trivial, trivial, ix 2 (by omega), trivial⟩⟩
  obtain ⟨v2, m2, hs2, hJ2, hr2⟩ := S_X12_wild zn (d + 20) hN hC a1 a2 m1 hJ1 (by omega) (by omega) (by omega)
  have p4 : z_reach (z_sem zn (d + 60)) (some (L, xs), zn) B 1 (1034, zfr i o5 o6, [.int (Int32.ofInt a2), .int (Int32.ofInt a1), .ref 79], zk c m1) (1687, zfr i o5 o6, [], zk c m2) :=
    ⟨[zc (some (.int (Int32.ofInt v2))) (zk c m2), zo, zo], _, rfl, ⟨⟨(Nat.lt_of_lt_of_le (Nat.le_of_ble_eq_true rfl) hN), (Nat.le_of_ble_eq_true rfl)⟩, hs2, (Nat.le_of_ble_eq_true rfl), Nat.le_refl _, Nat.le_refl _, hB.1, hB.2⟩, trivial, trivial, trivial⟩
  have hJ3 : zJ m1 (t + 60) 0 m2 := by first | exact hJ2 | exact zJ_le hJ2 (by omega)
  obtain ⟨w1, w2, w3⟩ := zV_model (t1 := t + 60) hI1' k1 (by omega) hJ3
  exact ⟨m2, o5, o6, ((p1.trans p2).trans p3).trans p4, w1, w2, w3, zV_rt hI hK hI1 hJ3⟩
set_option maxRecDepth 100000 in
set_option maxHeartbeats 4000000 in
theorem zk22 (zn : Bool) (d L : Nat) (xs : Nat → Int32) (B : Nat × Nat) (i t : Int) (h0 : 0 ≤ i) (hi : i + 6 ≤ L) (hL : L ≤ 3072) (ht : 0 ≤ t ∧ t ≤ 40000) (o5 o6 : Option Value) {c : Nat × Nat} {m : zM} (hN : 107 ≤ c.1) (hC : c.1 < z_RO) (hB : c.1 ≤ B.1 ∧ c.2 ≤ B.2) (hV : zOP c m t) :
    ∃ (m2 : zM) (o5' o6' : Option Value), z_reach (z_sem zn (d + 60)) (some (L, xs), zn) B 1 (1041, zfr i o5 o6, [], zk c m) (1687, zfr i o5' o6', [], zk c m2) ∧ zOP c m2 (t + 60) := by
  obtain ⟨hI, hH, hJ, hK⟩ := hV
  have g17 : (0 : Int) ≤ m 17 184 ∧ m 17 184 ≤ 1000000000 := hI.1 17 184
  have w17 : m 17 184 ≤ t := hH 17 (Or.inr (Or.inl rfl))
  have ix : ∀ k : Int, (0 ≤ k ∧ k ≤ 5) → vp_in (Int32.ofInt i + Int32.ofInt k) L := fun k hk => zx_ix h0 hk hi (by omega) rfl
  have p1 : z_reach (z_sem zn (d + 60)) (some (L, xs), zn) B 1 (1041, zfr i o5 o6, [], zk c m) (1042, zfr i o5 o6, [.ref 0], zk c m) := by
    exact ⟨[zo], _, rfl, ⟨trivial, trivial⟩⟩
  obtain ⟨v1, m1, hs1, hI1, hr1⟩ := S_X11_full zn (d + 54) hN hC m hI (by omega)
  have k1 : zH (t + 60) m1 := by first | exact zH_le (zH_N hH hr1) (by omega) | exact zH_le (zH_N hH hr1.2) (by omega) | exact zH_le (zH_N hH hr1.2.2) (by omega) | exact zH_le (zH_N hH hr1.2.2.2) (by omega) | exact zH_le hr1 (by omega) | exact zH_le hr1.2 (by omega) | exact zH_le hr1.2.2 (by omega) | exact (fun p hp => by have q := hr1.2 p hp (by unfold zQ at hp; omega); have w := hH p hp; omega) | exact (fun p hp => by have q := hr1.2.2 p hp (by unfold zQ at hp; omega); have w := hH p hp; omega)
  obtain ⟨hJ1, hI1'⟩ := zV_class hJ hI1
  have p2 : z_reach (z_sem zn (d + 60)) (some (L, xs), zn) B 1 (1042, zfr i o5 o6, [.ref 0], zk c m) (1046, zfr i o5 o6, [], zk c m1) :=
    ⟨[zc (some (.int (Int32.ofInt v1))) (zk c m1), zo], _, rfl, ⟨⟨(Nat.lt_of_lt_of_le (Nat.le_of_ble_eq_true rfl) hN), (Nat.le_of_ble_eq_true rfl)⟩, hs1, (Nat.le_of_ble_eq_true rfl), Nat.le_refl _, Nat.le_refl _, hB.1, hB.2⟩, trivial, trivial⟩
  have p3 : z_reach (z_sem zn (d + 60)) (some (L, xs), zn) B 1 (1046, zfr i o5 o6, [], zk c m1) (1047, zfr i o5 o6, [.ref 79], zk c m1) := by
    exact ⟨[zo], _, rfl, ⟨trivial, trivial⟩⟩
  obtain ⟨v2, m2, hs2, hJ2, hr2⟩ := S_X12_full zn (d + 22) hN hC m1 hJ1 (by omega)
  have p4 : z_reach (z_sem zn (d + 60)) (some (L, xs), zn) B 1 (1047, zfr i o5 o6, [.ref 79], zk c m1) (1687, zfr i o5 o6, [], zk c m2) :=
    ⟨[zc (some (.int (Int32.ofInt v2))) (zk c m2), zo, zo], _, rfl, ⟨⟨(Nat.lt_of_lt_of_le (Nat.le_of_ble_eq_true rfl) hN), (Nat.le_of_ble_eq_true rfl)⟩, hs2, (Nat.le_of_ble_eq_true rfl), Nat.le_refl _, Nat.le_refl _, hB.1, hB.2⟩, trivial, trivial, trivial⟩
  have hJ3 : zJ m1 (t + 60) 0 m2 := by first | exact hJ2 | exact zJ_le hJ2 (by omega)
  obtain ⟨w1, w2, w3⟩ := zV_model (t1 := t + 60) hI1' k1 (by omega) hJ3
  exact ⟨m2, o5, o6, ((p1.trans p2).trans p3).trans p4, w1, w2, w3, zV_rt hI hK hI1 hJ3⟩
set_option maxRecDepth 100000 in
set_option maxHeartbeats 4000000 in
theorem zk23 (zn : Bool) (d L : Nat) (xs : Nat → Int32) (B : Nat × Nat) (i t : Int) (h0 : 0 ≤ i) (hi : i + 6 ≤ L) (hL : L ≤ 3072) (ht : 0 ≤ t ∧ t ≤ 40000) (o5 o6 : Option Value) {c : Nat × Nat} {m : zM} (hN : 107 ≤ c.1) (hC : c.1 < z_RO) (hB : c.1 ≤ B.1 ∧ c.2 ≤ B.2) (hV : zOP c m t) :
    ∃ (m2 : zM) (o5' o6' : Option Value), z_reach (z_sem zn (d + 60)) (some (L, xs), zn) B 1 (1054, zfr i o5 o6, [], zk c m) (1687, zfr i o5' o6', [], zk c m2) ∧ zOP c m2 (t + 60) := by
  obtain ⟨hI, hH, hJ, hK⟩ := hV
  have g17 : (0 : Int) ≤ m 17 184 ∧ m 17 184 ≤ 1000000000 := hI.1 17 184
  have w17 : m 17 184 ≤ t := hH 17 (Or.inr (Or.inl rfl))
  have ix : ∀ k : Int, (0 ≤ k ∧ k ≤ 5) → vp_in (Int32.ofInt i + Int32.ofInt k) L := fun k hk => zx_ix h0 hk hi (by omega) rfl
  obtain ⟨a1, e1⟩ : ∃ q, q = (xs ((Int32.ofInt i + Int32.ofInt 1).toNatClampNeg)).toInt := ⟨_, rfl⟩
  have r1 : -2147483648 ≤ a1 ∧ a1 ≤ 2147483647 := by rw [e1]; exact ⟨Int32.le_toInt _, Int32.toInt_le _⟩
  have s1 : xs ((Int32.ofInt i + Int32.ofInt 1).toNatClampNeg) = Int32.ofInt a1 := by rw [e1]; exact zx_self _
  obtain ⟨a2, e2⟩ : ∃ q, q = (xs ((Int32.ofInt i + Int32.ofInt 2).toNatClampNeg)).toInt := ⟨_, rfl⟩
  have r2 : -2147483648 ≤ a2 ∧ a2 ≤ 2147483647 := by rw [e2]; exact ⟨Int32.le_toInt _, Int32.toInt_le _⟩
  have s2 : xs ((Int32.ofInt i + Int32.ofInt 2).toNatClampNeg) = Int32.ofInt a2 := by rw [e2]; exact zx_self _
  have p1 : z_reach (z_sem zn (d + 60)) (some (L, xs), zn) B 1 (1054, zfr i o5 o6, [], zk c m) (1067, zfr i o5 o6, [.int (Int32.ofInt a2), .int (Int32.ofInt a1), .ref 0], zk c m) := by
    rw [← s1, ← s2]
    exact ⟨[zo, zo, zo, zo, zo, zo, zo, zo, zo, zo, zo], _, rfl, ⟨trivial, trivial, trivial, trivial, trivial, ix 1 (by omega), trivial, trivial, trivial, trivial, ix 2 (by omega), trivial⟩⟩
  obtain ⟨v1, m1, hs1, hI1, hr1⟩ := S_X11_kinds zn (d + 53) hN hC a1 a2 m hI (by omega) (by omega) (by omega)
  have k1 : zH (t + 60) m1 := by first | exact zH_le (zH_N hH hr1) (by omega) | exact zH_le (zH_N hH hr1.2) (by omega) | exact zH_le (zH_N hH hr1.2.2) (by omega) | exact zH_le (zH_N hH hr1.2.2.2) (by omega) | exact zH_le hr1 (by omega) | exact zH_le hr1.2 (by omega) | exact zH_le hr1.2.2 (by omega) | exact (fun p hp => by have q := hr1.2 p hp (by unfold zQ at hp; omega); have w := hH p hp; omega) | exact (fun p hp => by have q := hr1.2.2 p hp (by unfold zQ at hp; omega); have w := hH p hp; omega)
  obtain ⟨hJ1, hI1'⟩ := zV_class hJ hI1
  have p2 : z_reach (z_sem zn (d + 60)) (some (L, xs), zn) B 1 (1067, zfr i o5 o6, [.int (Int32.ofInt a2), .int (Int32.ofInt a1), .ref 0], zk c m) (1071, zfr i o5 o6, [], zk c m1) :=
    ⟨[zc (some (.int (Int32.ofInt v1))) (zk c m1), zo], _, rfl, ⟨⟨(Nat.lt_of_lt_of_le (Nat.le_of_ble_eq_true rfl) hN), (Nat.le_of_ble_eq_true rfl)⟩, hs1, (Nat.le_of_ble_eq_true rfl), Nat.le_refl _, Nat.le_refl _, hB.1, hB.2⟩, trivial, trivial⟩
  have p3 : z_reach (z_sem zn (d + 60)) (some (L, xs), zn) B 1 (1071, zfr i o5 o6, [], zk c m1) (1084, zfr i o5 o6, [.int (Int32.ofInt a2), .int (Int32.ofInt a1), .ref 79], zk c m1) := by
    rw [← s1, ← s2]
    exact ⟨[zo, zo, zo, zo, zo, zo, zo, zo, zo, zo, zo], _, rfl, ⟨trivial, trivial, trivial, trivial, trivial, ix 1 (by omega), trivial, trivial, trivial, trivial, ix 2 (by omega), trivial⟩⟩
  obtain ⟨v2, m2, hs2, hJ2, hr2⟩ := S_X12_kinds zn (d + 21) hN hC a1 a2 m1 hJ1 (by omega) (by omega) (by omega)
  have p4 : z_reach (z_sem zn (d + 60)) (some (L, xs), zn) B 1 (1084, zfr i o5 o6, [.int (Int32.ofInt a2), .int (Int32.ofInt a1), .ref 79], zk c m1) (1687, zfr i o5 o6, [], zk c m2) :=
    ⟨[zc (some (.int (Int32.ofInt v2))) (zk c m2), zo, zo], _, rfl, ⟨⟨(Nat.lt_of_lt_of_le (Nat.le_of_ble_eq_true rfl) hN), (Nat.le_of_ble_eq_true rfl)⟩, hs2, (Nat.le_of_ble_eq_true rfl), Nat.le_refl _, Nat.le_refl _, hB.1, hB.2⟩, trivial, trivial, trivial⟩
  have hJ3 : zJ m1 (t + 60) 0 m2 := by first | exact hJ2 | exact zJ_le hJ2 (by omega)
  obtain ⟨w1, w2, w3⟩ := zV_model (t1 := t + 60) hI1' k1 (by omega) hJ3
  exact ⟨m2, o5, o6, ((p1.trans p2).trans p3).trans p4, w1, w2, w3, zV_rt hI hK hI1 hJ3⟩
set_option maxRecDepth 100000 in
set_option maxHeartbeats 4000000 in
theorem zk24 (zn : Bool) (d L : Nat) (xs : Nat → Int32) (B : Nat × Nat) (i t : Int) (h0 : 0 ≤ i) (hi : i + 6 ≤ L) (hL : L ≤ 3072) (ht : 0 ≤ t ∧ t ≤ 40000) (o5 o6 : Option Value) {c : Nat × Nat} {m : zM} (hN : 107 ≤ c.1) (hC : c.1 < z_RO) (hB : c.1 ≤ B.1 ∧ c.2 ≤ B.2) (hV : zOP c m t) :
    ∃ (m2 : zM) (o5' o6' : Option Value), z_reach (z_sem zn (d + 60)) (some (L, xs), zn) B 1 (1091, zfr i o5 o6, [], zk c m) (1687, zfr i o5' o6', [], zk c m2) ∧ zOP c m2 (t + 60) := by
  obtain ⟨hI, hH, hJ, hK⟩ := hV
  have g17 : (0 : Int) ≤ m 17 184 ∧ m 17 184 ≤ 1000000000 := hI.1 17 184
  have w17 : m 17 184 ≤ t := hH 17 (Or.inr (Or.inl rfl))
  have ix : ∀ k : Int, (0 ≤ k ∧ k ≤ 5) → vp_in (Int32.ofInt i + Int32.ofInt k) L := fun k hk => zx_ix h0 hk hi (by omega) rfl
  obtain ⟨a1, e1⟩ : ∃ q, q = (xs ((Int32.ofInt i + Int32.ofInt 1).toNatClampNeg)).toInt := ⟨_, rfl⟩
  have r1 : -2147483648 ≤ a1 ∧ a1 ≤ 2147483647 := by rw [e1]; exact ⟨Int32.le_toInt _, Int32.toInt_le _⟩
  have s1 : xs ((Int32.ofInt i + Int32.ofInt 1).toNatClampNeg) = Int32.ofInt a1 := by rw [e1]; exact zx_self _
  obtain ⟨a2, e2⟩ : ∃ q, q = (xs ((Int32.ofInt i + Int32.ofInt 2).toNatClampNeg)).toInt := ⟨_, rfl⟩
  have r2 : -2147483648 ≤ a2 ∧ a2 ≤ 2147483647 := by rw [e2]; exact ⟨Int32.le_toInt _, Int32.toInt_le _⟩
  have s2 : xs ((Int32.ofInt i + Int32.ofInt 2).toNatClampNeg) = Int32.ofInt a2 := by rw [e2]; exact zx_self _
  have p1 : z_reach (z_sem zn (d + 60)) (some (L, xs), zn) B 1 (1091, zfr i o5 o6, [], zk c m) (1104, zfr i o5 o6, [.int (Int32.ofInt a2), .int (Int32.ofInt a1), .ref 0], zk c m) := by
    rw [← s1, ← s2]
    exact ⟨[zo, zo, zo, zo, zo, zo, zo, zo, zo, zo, zo], _, rfl, ⟨trivial, trivial, trivial, trivial, trivial, ix 1 (by omega), trivial, trivial, trivial, trivial, ix 2 (by omega), trivial⟩⟩
  obtain ⟨v1, m1, hs1, hI1, hr1⟩ := S_X11_rota zn (d + 53) hN hC a1 a2 m hI (by omega) (by omega) (by omega)
  have k1 : zH (t + 60) m1 := by first | exact zH_le (zH_N hH hr1) (by omega) | exact zH_le (zH_N hH hr1.2) (by omega) | exact zH_le (zH_N hH hr1.2.2) (by omega) | exact zH_le (zH_N hH hr1.2.2.2) (by omega) | exact zH_le hr1 (by omega) | exact zH_le hr1.2 (by omega) | exact zH_le hr1.2.2 (by omega) | exact (fun p hp => by have q := hr1.2 p hp (by unfold zQ at hp; omega); have w := hH p hp; omega) | exact (fun p hp => by have q := hr1.2.2 p hp (by unfold zQ at hp; omega); have w := hH p hp; omega)
  obtain ⟨hJ1, hI1'⟩ := zV_class hJ hI1
  have p2 : z_reach (z_sem zn (d + 60)) (some (L, xs), zn) B 1 (1104, zfr i o5 o6, [.int (Int32.ofInt a2), .int (Int32.ofInt a1), .ref 0], zk c m) (1108, zfr i o5 o6, [], zk c m1) :=
    ⟨[zc (some (.int (Int32.ofInt v1))) (zk c m1), zo], _, rfl, ⟨⟨(Nat.lt_of_lt_of_le (Nat.le_of_ble_eq_true rfl) hN), (Nat.le_of_ble_eq_true rfl)⟩, hs1, (Nat.le_of_ble_eq_true rfl), Nat.le_refl _, Nat.le_refl _, hB.1, hB.2⟩, trivial, trivial⟩
  have p3 : z_reach (z_sem zn (d + 60)) (some (L, xs), zn) B 1 (1108, zfr i o5 o6, [], zk c m1) (1121, zfr i o5 o6, [.int (Int32.ofInt a2), .int (Int32.ofInt a1), .ref 79], zk c m1) := by
    rw [← s1, ← s2]
    exact ⟨[zo, zo, zo, zo, zo, zo, zo, zo, zo, zo, zo], _, rfl, ⟨trivial, trivial, trivial, trivial, trivial, ix 1 (by omega), trivial, trivial, trivial, trivial, ix 2 (by omega), trivial⟩⟩
  obtain ⟨v2, m2, hs2, hJ2, hr2⟩ := S_X12_rota zn (d + 21) hN hC a1 a2 m1 hJ1 (by omega) (by omega) (by omega)
  have p4 : z_reach (z_sem zn (d + 60)) (some (L, xs), zn) B 1 (1121, zfr i o5 o6, [.int (Int32.ofInt a2), .int (Int32.ofInt a1), .ref 79], zk c m1) (1687, zfr i o5 o6, [], zk c m2) :=
    ⟨[zc (some (.int (Int32.ofInt v2))) (zk c m2), zo, zo], _, rfl, ⟨⟨(Nat.lt_of_lt_of_le (Nat.le_of_ble_eq_true rfl) hN), (Nat.le_of_ble_eq_true rfl)⟩, hs2, (Nat.le_of_ble_eq_true rfl), Nat.le_refl _, Nat.le_refl _, hB.1, hB.2⟩, trivial, trivial, trivial⟩
  have hJ3 : zJ m1 (t + 60) 0 m2 := by first | exact hJ2 | exact zJ_le hJ2 (by omega)
  obtain ⟨w1, w2, w3⟩ := zV_model (t1 := t + 60) hI1' k1 (by omega) hJ3
  exact ⟨m2, o5, o6, ((p1.trans p2).trans p3).trans p4, w1, w2, w3, zV_rt hI hK hI1 hJ3⟩
set_option maxRecDepth 100000 in
set_option maxHeartbeats 4000000 in
theorem zk25 (zn : Bool) (d L : Nat) (xs : Nat → Int32) (B : Nat × Nat) (i t : Int) (h0 : 0 ≤ i) (hi : i + 6 ≤ L) (hL : L ≤ 3072) (ht : 0 ≤ t ∧ t ≤ 40000) (o5 o6 : Option Value) {c : Nat × Nat} {m : zM} (hN : 107 ≤ c.1) (hC : c.1 < z_RO) (hB : c.1 ≤ B.1 ∧ c.2 ≤ B.2) (hV : zOP c m t) :
    ∃ (m2 : zM) (o5' o6' : Option Value), z_reach (z_sem zn (d + 60)) (some (L, xs), zn) B 1 (1128, zfr i o5 o6, [], zk c m) (1687, zfr i o5' o6', [], zk c m2) ∧ zOP c m2 (t + 60) := by
  obtain ⟨hI, hH, hJ, hK⟩ := hV
  have g17 : (0 : Int) ≤ m 17 184 ∧ m 17 184 ≤ 1000000000 := hI.1 17 184
  have w17 : m 17 184 ≤ t := hH 17 (Or.inr (Or.inl rfl))
  have ix : ∀ k : Int, (0 ≤ k ∧ k ≤ 5) → vp_in (Int32.ofInt i + Int32.ofInt k) L := fun k hk => zx_ix h0 hk hi (by omega) rfl
  obtain ⟨a1, e1⟩ : ∃ q, q = (xs ((Int32.ofInt i + Int32.ofInt 1).toNatClampNeg)).toInt := ⟨_, rfl⟩
  have r1 : -2147483648 ≤ a1 ∧ a1 ≤ 2147483647 := by rw [e1]; exact ⟨Int32.le_toInt _, Int32.toInt_le _⟩
  have s1 : xs ((Int32.ofInt i + Int32.ofInt 1).toNatClampNeg) = Int32.ofInt a1 := by rw [e1]; exact zx_self _
  have p1 : z_reach (z_sem zn (d + 60)) (some (L, xs), zn) B 1 (1128, zfr i o5 o6, [], zk c m) (1135, zfr i o5 o6, [.int (Int32.ofInt a1), .ref 0], zk c m) := by
    rw [← s1]
    exact ⟨[zo, zo, zo, zo, zo, zo], _, rfl, ⟨trivial, trivial, trivial, trivial, trivial, ix 1 (by omega), trivial⟩⟩
  obtain ⟨v1, m1, hs1, hI1, hr1⟩ := S_X11_fewest zn (d + 53) hN hC a1 m hI (by omega) (by omega)
  have k1 : zH (t + 60) m1 := by first | exact zH_le (zH_N hH hr1) (by omega) | exact zH_le (zH_N hH hr1.2) (by omega) | exact zH_le (zH_N hH hr1.2.2) (by omega) | exact zH_le (zH_N hH hr1.2.2.2) (by omega) | exact zH_le hr1 (by omega) | exact zH_le hr1.2 (by omega) | exact zH_le hr1.2.2 (by omega) | exact (fun p hp => by have q := hr1.2 p hp (by unfold zQ at hp; omega); have w := hH p hp; omega) | exact (fun p hp => by have q := hr1.2.2 p hp (by unfold zQ at hp; omega); have w := hH p hp; omega)
  obtain ⟨hJ1, hI1'⟩ := zV_class hJ hI1
  have p2 : z_reach (z_sem zn (d + 60)) (some (L, xs), zn) B 1 (1135, zfr i o5 o6, [.int (Int32.ofInt a1), .ref 0], zk c m) (1139, zfr i o5 o6, [], zk c m1) :=
    ⟨[zc (some (.int (Int32.ofInt v1))) (zk c m1), zo], _, rfl, ⟨⟨(Nat.lt_of_lt_of_le (Nat.le_of_ble_eq_true rfl) hN), (Nat.le_of_ble_eq_true rfl)⟩, hs1, (Nat.le_of_ble_eq_true rfl), Nat.le_refl _, Nat.le_refl _, hB.1, hB.2⟩, trivial, trivial⟩
  have p3 : z_reach (z_sem zn (d + 60)) (some (L, xs), zn) B 1 (1139, zfr i o5 o6, [], zk c m1) (1146, zfr i o5 o6, [.int (Int32.ofInt a1), .ref 79], zk c m1) := by
    rw [← s1]
    exact ⟨[zo, zo, zo, zo, zo, zo], _, rfl, ⟨trivial, trivial, trivial, trivial, trivial, ix 1 (by omega), trivial⟩⟩
  obtain ⟨v2, m2, hs2, hJ2, hr2⟩ := S_X12_fewest zn (d + 20) hN hC a1 m1 hJ1 (by omega) (by omega)
  have p4 : z_reach (z_sem zn (d + 60)) (some (L, xs), zn) B 1 (1146, zfr i o5 o6, [.int (Int32.ofInt a1), .ref 79], zk c m1) (1687, zfr i o5 o6, [], zk c m2) :=
    ⟨[zc (some (.int (Int32.ofInt v2))) (zk c m2), zo, zo], _, rfl, ⟨⟨(Nat.lt_of_lt_of_le (Nat.le_of_ble_eq_true rfl) hN), (Nat.le_of_ble_eq_true rfl)⟩, hs2, (Nat.le_of_ble_eq_true rfl), Nat.le_refl _, Nat.le_refl _, hB.1, hB.2⟩, trivial, trivial, trivial⟩
  have hJ3 : zJ m1 (t + 60) 0 m2 := by first | exact hJ2 | exact zJ_le hJ2 (by omega)
  obtain ⟨w1, w2, w3⟩ := zV_model (t1 := t + 60) hI1' k1 (by omega) hJ3
  exact ⟨m2, o5, o6, ((p1.trans p2).trans p3).trans p4, w1, w2, w3, zV_rt hI hK hI1 hJ3⟩
set_option maxRecDepth 100000 in
set_option maxHeartbeats 4000000 in
theorem zk26 (zn : Bool) (d L : Nat) (xs : Nat → Int32) (B : Nat × Nat) (i t : Int) (h0 : 0 ≤ i) (hi : i + 6 ≤ L) (hL : L ≤ 3072) (ht : 0 ≤ t ∧ t ≤ 40000) (o5 o6 : Option Value) {c : Nat × Nat} {m : zM} (hN : 107 ≤ c.1) (hC : c.1 < z_RO) (hB : c.1 ≤ B.1 ∧ c.2 ≤ B.2) (hV : zOP c m t) :
    ∃ (m2 : zM) (o5' o6' : Option Value), z_reach (z_sem zn (d + 60)) (some (L, xs), zn) B 1 (1153, zfr i o5 o6, [], zk c m) (1687, zfr i o5' o6', [], zk c m2) ∧ zOP c m2 (t + 60) := by
  obtain ⟨hI, hH, hJ, hK⟩ := hV
  have g17 : (0 : Int) ≤ m 17 184 ∧ m 17 184 ≤ 1000000000 := hI.1 17 184
  have w17 : m 17 184 ≤ t := hH 17 (Or.inr (Or.inl rfl))
  have ix : ∀ k : Int, (0 ≤ k ∧ k ≤ 5) → vp_in (Int32.ofInt i + Int32.ofInt k) L := fun k hk => zx_ix h0 hk hi (by omega) rfl
  obtain ⟨a1, e1⟩ : ∃ q, q = (xs ((Int32.ofInt i + Int32.ofInt 1).toNatClampNeg)).toInt := ⟨_, rfl⟩
  have r1 : -2147483648 ≤ a1 ∧ a1 ≤ 2147483647 := by rw [e1]; exact ⟨Int32.le_toInt _, Int32.toInt_le _⟩
  have s1 : xs ((Int32.ofInt i + Int32.ofInt 1).toNatClampNeg) = Int32.ofInt a1 := by rw [e1]; exact zx_self _
  obtain ⟨a2, e2⟩ : ∃ q, q = (xs ((Int32.ofInt i + Int32.ofInt 2).toNatClampNeg)).toInt := ⟨_, rfl⟩
  have r2 : -2147483648 ≤ a2 ∧ a2 ≤ 2147483647 := by rw [e2]; exact ⟨Int32.le_toInt _, Int32.toInt_le _⟩
  have s2 : xs ((Int32.ofInt i + Int32.ofInt 2).toNatClampNeg) = Int32.ofInt a2 := by rw [e2]; exact zx_self _
  have p1 : z_reach (z_sem zn (d + 60)) (some (L, xs), zn) B 1 (1153, zfr i o5 o6, [], zk c m) (1166, zfr i o5 o6, [.int (Int32.ofInt a2), .int (Int32.ofInt a1), .ref 0], zk c m) := by
    rw [← s1, ← s2]
    exact ⟨[zo, zo, zo, zo, zo, zo, zo, zo, zo, zo, zo], _, rfl, ⟨trivial, trivial, trivial, trivial, trivial, ix 1 (by omega), trivial, trivial, trivial, trivial, ix 2 (by omega), trivial⟩⟩
  obtain ⟨v1, m1, hs1, hI1, hr1⟩ := S_X11_best zn (d + 53) hN hC a1 a2 m hI (by omega) (by omega) (by omega)
  have k1 : zH (t + 60) m1 := by first | exact zH_le (zH_N hH hr1) (by omega) | exact zH_le (zH_N hH hr1.2) (by omega) | exact zH_le (zH_N hH hr1.2.2) (by omega) | exact zH_le (zH_N hH hr1.2.2.2) (by omega) | exact zH_le hr1 (by omega) | exact zH_le hr1.2 (by omega) | exact zH_le hr1.2.2 (by omega) | exact (fun p hp => by have q := hr1.2 p hp (by unfold zQ at hp; omega); have w := hH p hp; omega) | exact (fun p hp => by have q := hr1.2.2 p hp (by unfold zQ at hp; omega); have w := hH p hp; omega)
  obtain ⟨hJ1, hI1'⟩ := zV_class hJ hI1
  have p2 : z_reach (z_sem zn (d + 60)) (some (L, xs), zn) B 1 (1166, zfr i o5 o6, [.int (Int32.ofInt a2), .int (Int32.ofInt a1), .ref 0], zk c m) (1170, zfr i o5 o6, [], zk c m1) :=
    ⟨[zc (some (.int (Int32.ofInt v1))) (zk c m1), zo], _, rfl, ⟨⟨(Nat.lt_of_lt_of_le (Nat.le_of_ble_eq_true rfl) hN), (Nat.le_of_ble_eq_true rfl)⟩, hs1, (Nat.le_of_ble_eq_true rfl), Nat.le_refl _, Nat.le_refl _, hB.1, hB.2⟩, trivial, trivial⟩
  have p3 : z_reach (z_sem zn (d + 60)) (some (L, xs), zn) B 1 (1170, zfr i o5 o6, [], zk c m1) (1183, zfr i o5 o6, [.int (Int32.ofInt a2), .int (Int32.ofInt a1), .ref 79], zk c m1) := by
    rw [← s1, ← s2]
    exact ⟨[zo, zo, zo, zo, zo, zo, zo, zo, zo, zo, zo], _, rfl, ⟨trivial, trivial, trivial, trivial, trivial, ix 1 (by omega), trivial, trivial, trivial, trivial, ix 2 (by omega), trivial⟩⟩
  obtain ⟨v2, m2, hs2, hJ2, hr2⟩ := S_X12_best zn (d + 22) hN hC a1 a2 m1 hJ1 (by omega) (by omega) (by omega)
  have p4 : z_reach (z_sem zn (d + 60)) (some (L, xs), zn) B 1 (1183, zfr i o5 o6, [.int (Int32.ofInt a2), .int (Int32.ofInt a1), .ref 79], zk c m1) (1687, zfr i o5 o6, [], zk c m2) :=
    ⟨[zc (some (.int (Int32.ofInt v2))) (zk c m2), zo, zo], _, rfl, ⟨⟨(Nat.lt_of_lt_of_le (Nat.le_of_ble_eq_true rfl) hN), (Nat.le_of_ble_eq_true rfl)⟩, hs2, (Nat.le_of_ble_eq_true rfl), Nat.le_refl _, Nat.le_refl _, hB.1, hB.2⟩, trivial, trivial, trivial⟩
  have hJ3 : zJ m1 (t + 60) 0 m2 := by first | exact hJ2 | exact zJ_le hJ2 (by omega)
  obtain ⟨w1, w2, w3⟩ := zV_model (t1 := t + 60) hI1' k1 (by omega) hJ3
  exact ⟨m2, o5, o6, ((p1.trans p2).trans p3).trans p4, w1, w2, w3, zV_rt hI hK hI1 hJ3⟩
set_option maxRecDepth 100000 in
set_option maxHeartbeats 4000000 in
theorem zk27 (zn : Bool) (d L : Nat) (xs : Nat → Int32) (B : Nat × Nat) (i t : Int) (h0 : 0 ≤ i) (hi : i + 6 ≤ L) (hL : L ≤ 3072) (ht : 0 ≤ t ∧ t ≤ 40000) (o5 o6 : Option Value) {c : Nat × Nat} {m : zM} (hN : 107 ≤ c.1) (hC : c.1 < z_RO) (hB : c.1 ≤ B.1 ∧ c.2 ≤ B.2) (hV : zOP c m t) :
    ∃ (m2 : zM) (o5' o6' : Option Value), z_reach (z_sem zn (d + 60)) (some (L, xs), zn) B 1 (1190, zfr i o5 o6, [], zk c m) (1687, zfr i o5' o6', [], zk c m2) ∧ zOP c m2 (t + 60) := by
  obtain ⟨hI, hH, hJ, hK⟩ := hV
  have g17 : (0 : Int) ≤ m 17 184 ∧ m 17 184 ≤ 1000000000 := hI.1 17 184
  have w17 : m 17 184 ≤ t := hH 17 (Or.inr (Or.inl rfl))
  have ix : ∀ k : Int, (0 ≤ k ∧ k ≤ 5) → vp_in (Int32.ofInt i + Int32.ofInt k) L := fun k hk => zx_ix h0 hk hi (by omega) rfl
  obtain ⟨a1, e1⟩ : ∃ q, q = (xs ((Int32.ofInt i + Int32.ofInt 1).toNatClampNeg)).toInt := ⟨_, rfl⟩
  have r1 : -2147483648 ≤ a1 ∧ a1 ≤ 2147483647 := by rw [e1]; exact ⟨Int32.le_toInt _, Int32.toInt_le _⟩
  have s1 : xs ((Int32.ofInt i + Int32.ofInt 1).toNatClampNeg) = Int32.ofInt a1 := by rw [e1]; exact zx_self _
  have p1 : z_reach (z_sem zn (d + 60)) (some (L, xs), zn) B 1 (1190, zfr i o5 o6, [], zk c m) (1197, zfr i o5 o6, [.int (Int32.ofInt a1), .ref 0], zk c m) := by
    rw [← s1]
    exact ⟨[zo, zo, zo, zo, zo, zo], _, rfl, ⟨trivial, trivial, trivial, trivial, trivial, ix 1 (by omega), trivial⟩⟩
  obtain ⟨v1, hs1, hr1⟩ := S_X11_shows zn (d + 58) hN hC a1 m hI (by omega)
  obtain ⟨m1, e1⟩ : ∃ q, q = m := ⟨_, rfl⟩
  have hI1 : zI c m m1 := by rw [e1]; exact hI
  have k1 : zH (t + 60) m1 := by rw [e1]; exact zH_le hH (by omega)
  obtain ⟨hJ1, hI1'⟩ := zV_class hJ hI1
  have p2 : z_reach (z_sem zn (d + 60)) (some (L, xs), zn) B 1 (1197, zfr i o5 o6, [.int (Int32.ofInt a1), .ref 0], zk c m) (1201, zfr i o5 o6, [], zk c m1) :=
    ⟨[zc (some (.int (Int32.ofInt v1))) (zk c m1), zo], _, rfl, ⟨⟨(Nat.lt_of_lt_of_le (Nat.le_of_ble_eq_true rfl) hN), (Nat.le_of_ble_eq_true rfl)⟩, (by rw [e1]; exact hs1), (Nat.le_of_ble_eq_true rfl), Nat.le_refl _, Nat.le_refl _, hB.1, hB.2⟩, trivial, trivial⟩
  have p3 : z_reach (z_sem zn (d + 60)) (some (L, xs), zn) B 1 (1201, zfr i o5 o6, [], zk c m1) (1208, zfr i o5 o6, [.int (Int32.ofInt a1), .ref 79], zk c m1) := by
    rw [← s1]
    exact ⟨[zo, zo, zo, zo, zo, zo], _, rfl, ⟨trivial, trivial, trivial, trivial, trivial, ix 1 (by omega), trivial⟩⟩
  obtain ⟨v2, m2, hs2, hJ2, hr2⟩ := S_X12_shows zn (d + 58) hN hC a1 m1 hJ1 (by omega)
  have p4 : z_reach (z_sem zn (d + 60)) (some (L, xs), zn) B 1 (1208, zfr i o5 o6, [.int (Int32.ofInt a1), .ref 79], zk c m1) (1687, zfr i o5 o6, [], zk c m2) :=
    ⟨[zc (some (.int (Int32.ofInt v2))) (zk c m2), zo, zo], _, rfl, ⟨⟨(Nat.lt_of_lt_of_le (Nat.le_of_ble_eq_true rfl) hN), (Nat.le_of_ble_eq_true rfl)⟩, hs2, (Nat.le_of_ble_eq_true rfl), Nat.le_refl _, Nat.le_refl _, hB.1, hB.2⟩, trivial, trivial, trivial⟩
  have hJ3 : zJ m1 (t + 60) 0 m2 := by first | exact hJ2 | exact zJ_le hJ2 (by omega)
  obtain ⟨w1, w2, w3⟩ := zV_model (t1 := t + 60) hI1' k1 (by omega) hJ3
  exact ⟨m2, o5, o6, ((p1.trans p2).trans p3).trans p4, w1, w2, w3, zV_rt hI hK hI1 hJ3⟩
set_option maxRecDepth 100000 in
set_option maxHeartbeats 4000000 in
theorem zk28 (zn : Bool) (d L : Nat) (xs : Nat → Int32) (B : Nat × Nat) (i t : Int) (h0 : 0 ≤ i) (hi : i + 6 ≤ L) (hL : L ≤ 3072) (ht : 0 ≤ t ∧ t ≤ 40000) (o5 o6 : Option Value) {c : Nat × Nat} {m : zM} (hN : 107 ≤ c.1) (hC : c.1 < z_RO) (hB : c.1 ≤ B.1 ∧ c.2 ≤ B.2) (hV : zOP c m t) :
    ∃ (m2 : zM) (o5' o6' : Option Value), z_reach (z_sem zn (d + 60)) (some (L, xs), zn) B 1 (1215, zfr i o5 o6, [], zk c m) (1687, zfr i o5' o6', [], zk c m2) ∧ zOP c m2 (t + 60) := by
  obtain ⟨hI, hH, hJ, hK⟩ := hV
  have g17 : (0 : Int) ≤ m 17 184 ∧ m 17 184 ≤ 1000000000 := hI.1 17 184
  have w17 : m 17 184 ≤ t := hH 17 (Or.inr (Or.inl rfl))
  have ix : ∀ k : Int, (0 ≤ k ∧ k ≤ 5) → vp_in (Int32.ofInt i + Int32.ofInt k) L := fun k hk => zx_ix h0 hk hi (by omega) rfl
  obtain ⟨a1, e1⟩ : ∃ q, q = (xs ((Int32.ofInt i + Int32.ofInt 1).toNatClampNeg)).toInt := ⟨_, rfl⟩
  have r1 : -2147483648 ≤ a1 ∧ a1 ≤ 2147483647 := by rw [e1]; exact ⟨Int32.le_toInt _, Int32.toInt_le _⟩
  have s1 : xs ((Int32.ofInt i + Int32.ofInt 1).toNatClampNeg) = Int32.ofInt a1 := by rw [e1]; exact zx_self _
  have p1 : z_reach (z_sem zn (d + 60)) (some (L, xs), zn) B 1 (1215, zfr i o5 o6, [], zk c m) (1222, zfr i o5 o6, [.int (Int32.ofInt a1), .ref 0], zk c m) := by
    rw [← s1]
    exact ⟨[zo, zo, zo, zo, zo, zo], _, rfl, ⟨trivial, trivial, trivial, trivial, trivial, ix 1 (by omega), trivial⟩⟩
  obtain ⟨v1, hs1, hr1⟩ := S_X11_near zn (d + 59) hN hC a1 m hI (by omega)
  obtain ⟨m1, e1⟩ : ∃ q, q = m := ⟨_, rfl⟩
  have hI1 : zI c m m1 := by rw [e1]; exact hI
  have k1 : zH (t + 60) m1 := by rw [e1]; exact zH_le hH (by omega)
  obtain ⟨hJ1, hI1'⟩ := zV_class hJ hI1
  have p2 : z_reach (z_sem zn (d + 60)) (some (L, xs), zn) B 1 (1222, zfr i o5 o6, [.int (Int32.ofInt a1), .ref 0], zk c m) (1226, zfr i o5 o6, [], zk c m1) :=
    ⟨[zc (some (.int (Int32.ofInt v1))) (zk c m1), zo], _, rfl, ⟨⟨(Nat.lt_of_lt_of_le (Nat.le_of_ble_eq_true rfl) hN), (Nat.le_of_ble_eq_true rfl)⟩, (by rw [e1]; exact hs1), (Nat.le_of_ble_eq_true rfl), Nat.le_refl _, Nat.le_refl _, hB.1, hB.2⟩, trivial, trivial⟩
  have p3 : z_reach (z_sem zn (d + 60)) (some (L, xs), zn) B 1 (1226, zfr i o5 o6, [], zk c m1) (1233, zfr i o5 o6, [.int (Int32.ofInt a1), .ref 79], zk c m1) := by
    rw [← s1]
    exact ⟨[zo, zo, zo, zo, zo, zo], _, rfl, ⟨trivial, trivial, trivial, trivial, trivial, ix 1 (by omega), trivial⟩⟩
  obtain ⟨v2, m2, hs2, hJ2, hr2⟩ := S_X12_near zn (d + 58) hN hC a1 m1 hJ1 (by omega)
  have p4 : z_reach (z_sem zn (d + 60)) (some (L, xs), zn) B 1 (1233, zfr i o5 o6, [.int (Int32.ofInt a1), .ref 79], zk c m1) (1687, zfr i o5 o6, [], zk c m2) :=
    ⟨[zc (some (.int (Int32.ofInt v2))) (zk c m2), zo, zo], _, rfl, ⟨⟨(Nat.lt_of_lt_of_le (Nat.le_of_ble_eq_true rfl) hN), (Nat.le_of_ble_eq_true rfl)⟩, hs2, (Nat.le_of_ble_eq_true rfl), Nat.le_refl _, Nat.le_refl _, hB.1, hB.2⟩, trivial, trivial, trivial⟩
  have hJ3 : zJ m1 (t + 60) 0 m2 := by first | exact hJ2 | exact zJ_le hJ2 (by omega)
  obtain ⟨w1, w2, w3⟩ := zV_model (t1 := t + 60) hI1' k1 (by omega) hJ3
  exact ⟨m2, o5, o6, ((p1.trans p2).trans p3).trans p4, w1, w2, w3, zV_rt hI hK hI1 hJ3⟩
set_option maxRecDepth 100000 in
set_option maxHeartbeats 4000000 in
theorem zk29 (zn : Bool) (d L : Nat) (xs : Nat → Int32) (B : Nat × Nat) (i t : Int) (h0 : 0 ≤ i) (hi : i + 6 ≤ L) (hL : L ≤ 3072) (ht : 0 ≤ t ∧ t ≤ 40000) (o5 o6 : Option Value) {c : Nat × Nat} {m : zM} (hN : 107 ≤ c.1) (hC : c.1 < z_RO) (hB : c.1 ≤ B.1 ∧ c.2 ≤ B.2) (hV : zOP c m t) :
    ∃ (m2 : zM) (o5' o6' : Option Value), z_reach (z_sem zn (d + 60)) (some (L, xs), zn) B 1 (1240, zfr i o5 o6, [], zk c m) (1687, zfr i o5' o6', [], zk c m2) ∧ zOP c m2 (t + 60) := by
  obtain ⟨hI, hH, hJ, hK⟩ := hV
  have g17 : (0 : Int) ≤ m 17 184 ∧ m 17 184 ≤ 1000000000 := hI.1 17 184
  have w17 : m 17 184 ≤ t := hH 17 (Or.inr (Or.inl rfl))
  have ix : ∀ k : Int, (0 ≤ k ∧ k ≤ 5) → vp_in (Int32.ofInt i + Int32.ofInt k) L := fun k hk => zx_ix h0 hk hi (by omega) rfl
  have p1 : z_reach (z_sem zn (d + 60)) (some (L, xs), zn) B 1 (1240, zfr i o5 o6, [], zk c m) (1241, zfr i o5 o6, [.ref 0], zk c m) := by
    exact ⟨[zo], _, rfl, ⟨trivial, trivial⟩⟩
  obtain ⟨v1, hs1, hr1⟩ := S_X11_middle zn (d + 57) hN hC m hI
  obtain ⟨m1, e1⟩ : ∃ q, q = m := ⟨_, rfl⟩
  have hI1 : zI c m m1 := by rw [e1]; exact hI
  have k1 : zH (t + 60) m1 := by rw [e1]; exact zH_le hH (by omega)
  obtain ⟨hJ1, hI1'⟩ := zV_class hJ hI1
  have p2 : z_reach (z_sem zn (d + 60)) (some (L, xs), zn) B 1 (1241, zfr i o5 o6, [.ref 0], zk c m) (1245, zfr i o5 o6, [], zk c m1) :=
    ⟨[zc (some (.int (Int32.ofInt v1))) (zk c m1), zo], _, rfl, ⟨⟨(Nat.lt_of_lt_of_le (Nat.le_of_ble_eq_true rfl) hN), (Nat.le_of_ble_eq_true rfl)⟩, (by rw [e1]; exact hs1), (Nat.le_of_ble_eq_true rfl), Nat.le_refl _, Nat.le_refl _, hB.1, hB.2⟩, trivial, trivial⟩
  have p3 : z_reach (z_sem zn (d + 60)) (some (L, xs), zn) B 1 (1245, zfr i o5 o6, [], zk c m1) (1246, zfr i o5 o6, [.ref 79], zk c m1) := by
    exact ⟨[zo], _, rfl, ⟨trivial, trivial⟩⟩
  obtain ⟨v2, m2, hs2, hJ2, hr2⟩ := S_X12_middle zn (d + 58) hN hC m1 hJ1
  have p4 : z_reach (z_sem zn (d + 60)) (some (L, xs), zn) B 1 (1246, zfr i o5 o6, [.ref 79], zk c m1) (1687, zfr i o5 o6, [], zk c m2) :=
    ⟨[zc (some (.int (Int32.ofInt v2))) (zk c m2), zo, zo], _, rfl, ⟨⟨(Nat.lt_of_lt_of_le (Nat.le_of_ble_eq_true rfl) hN), (Nat.le_of_ble_eq_true rfl)⟩, hs2, (Nat.le_of_ble_eq_true rfl), Nat.le_refl _, Nat.le_refl _, hB.1, hB.2⟩, trivial, trivial, trivial⟩
  have hJ3 : zJ m1 (t + 60) 0 m2 := by first | exact hJ2 | exact zJ_le hJ2 (by omega)
  obtain ⟨w1, w2, w3⟩ := zV_model (t1 := t + 60) hI1' k1 (by omega) hJ3
  exact ⟨m2, o5, o6, ((p1.trans p2).trans p3).trans p4, w1, w2, w3, zV_rt hI hK hI1 hJ3⟩
set_option maxRecDepth 100000 in
set_option maxHeartbeats 4000000 in
theorem zk30 (zn : Bool) (d L : Nat) (xs : Nat → Int32) (B : Nat × Nat) (i t : Int) (h0 : 0 ≤ i) (hi : i + 6 ≤ L) (hL : L ≤ 3072) (ht : 0 ≤ t ∧ t ≤ 40000) (o5 o6 : Option Value) {c : Nat × Nat} {m : zM} (hN : 107 ≤ c.1) (hC : c.1 < z_RO) (hB : c.1 ≤ B.1 ∧ c.2 ≤ B.2) (hV : zOP c m t) :
    ∃ (m2 : zM) (o5' o6' : Option Value), z_reach (z_sem zn (d + 60)) (some (L, xs), zn) B 1 (1253, zfr i o5 o6, [], zk c m) (1687, zfr i o5' o6', [], zk c m2) ∧ zOP c m2 (t + 60) := by
  obtain ⟨hI, hH, hJ, hK⟩ := hV
  have g17 : (0 : Int) ≤ m 17 184 ∧ m 17 184 ≤ 1000000000 := hI.1 17 184
  have w17 : m 17 184 ≤ t := hH 17 (Or.inr (Or.inl rfl))
  have ix : ∀ k : Int, (0 ≤ k ∧ k ≤ 5) → vp_in (Int32.ofInt i + Int32.ofInt k) L := fun k hk => zx_ix h0 hk hi (by omega) rfl
  obtain ⟨a1, e1⟩ : ∃ q, q = (xs ((Int32.ofInt i + Int32.ofInt 1).toNatClampNeg)).toInt := ⟨_, rfl⟩
  have r1 : -2147483648 ≤ a1 ∧ a1 ≤ 2147483647 := by rw [e1]; exact ⟨Int32.le_toInt _, Int32.toInt_le _⟩
  have s1 : xs ((Int32.ofInt i + Int32.ofInt 1).toNatClampNeg) = Int32.ofInt a1 := by rw [e1]; exact zx_self _
  have p1 : z_reach (z_sem zn (d + 60)) (some (L, xs), zn) B 1 (1253, zfr i o5 o6, [], zk c m) (1260, zfr i o5 o6, [.int (Int32.ofInt a1), .ref 0], zk c m) := by
    rw [← s1]
    exact ⟨[zo, zo, zo, zo, zo, zo], _, rfl, ⟨trivial, trivial, trivial, trivial, trivial, ix 1 (by omega), trivial⟩⟩
  obtain ⟨v1, hs1, hr1⟩ := S_X11_ring zn (d + 58) hN hC a1 m hI (by omega)
  obtain ⟨m1, e1⟩ : ∃ q, q = m := ⟨_, rfl⟩
  have hI1 : zI c m m1 := by rw [e1]; exact hI
  have k1 : zH (t + 60) m1 := by rw [e1]; exact zH_le hH (by omega)
  obtain ⟨hJ1, hI1'⟩ := zV_class hJ hI1
  have p2 : z_reach (z_sem zn (d + 60)) (some (L, xs), zn) B 1 (1260, zfr i o5 o6, [.int (Int32.ofInt a1), .ref 0], zk c m) (1264, zfr i o5 o6, [], zk c m1) :=
    ⟨[zc (some (.int (Int32.ofInt v1))) (zk c m1), zo], _, rfl, ⟨⟨(Nat.lt_of_lt_of_le (Nat.le_of_ble_eq_true rfl) hN), (Nat.le_of_ble_eq_true rfl)⟩, (by rw [e1]; exact hs1), (Nat.le_of_ble_eq_true rfl), Nat.le_refl _, Nat.le_refl _, hB.1, hB.2⟩, trivial, trivial⟩
  have p3 : z_reach (z_sem zn (d + 60)) (some (L, xs), zn) B 1 (1264, zfr i o5 o6, [], zk c m1) (1271, zfr i o5 o6, [.int (Int32.ofInt a1), .ref 79], zk c m1) := by
    rw [← s1]
    exact ⟨[zo, zo, zo, zo, zo, zo], _, rfl, ⟨trivial, trivial, trivial, trivial, trivial, ix 1 (by omega), trivial⟩⟩
  obtain ⟨v2, m2, hs2, hJ2, hr2⟩ := S_X12_ring zn (d + 58) hN hC a1 m1 hJ1 (by omega)
  have p4 : z_reach (z_sem zn (d + 60)) (some (L, xs), zn) B 1 (1271, zfr i o5 o6, [.int (Int32.ofInt a1), .ref 79], zk c m1) (1687, zfr i o5 o6, [], zk c m2) :=
    ⟨[zc (some (.int (Int32.ofInt v2))) (zk c m2), zo, zo], _, rfl, ⟨⟨(Nat.lt_of_lt_of_le (Nat.le_of_ble_eq_true rfl) hN), (Nat.le_of_ble_eq_true rfl)⟩, hs2, (Nat.le_of_ble_eq_true rfl), Nat.le_refl _, Nat.le_refl _, hB.1, hB.2⟩, trivial, trivial, trivial⟩
  have hJ3 : zJ m1 (t + 60) 0 m2 := by first | exact hJ2 | exact zJ_le hJ2 (by omega)
  obtain ⟨w1, w2, w3⟩ := zV_model (t1 := t + 60) hI1' k1 (by omega) hJ3
  exact ⟨m2, o5, o6, ((p1.trans p2).trans p3).trans p4, w1, w2, w3, zV_rt hI hK hI1 hJ3⟩
set_option maxRecDepth 100000 in
set_option maxHeartbeats 4000000 in
theorem zk31 (zn : Bool) (d L : Nat) (xs : Nat → Int32) (B : Nat × Nat) (i t : Int) (h0 : 0 ≤ i) (hi : i + 6 ≤ L) (hL : L ≤ 3072) (ht : 0 ≤ t ∧ t ≤ 40000) (o5 o6 : Option Value) {c : Nat × Nat} {m : zM} (hN : 107 ≤ c.1) (hC : c.1 < z_RO) (hB : c.1 ≤ B.1 ∧ c.2 ≤ B.2) (hV : zOP c m t) :
    ∃ (m2 : zM) (o5' o6' : Option Value), z_reach (z_sem zn (d + 60)) (some (L, xs), zn) B 1 (1278, zfr i o5 o6, [], zk c m) (1687, zfr i o5' o6', [], zk c m2) ∧ zOP c m2 (t + 60) := by
  obtain ⟨hI, hH, hJ, hK⟩ := hV
  have g17 : (0 : Int) ≤ m 17 184 ∧ m 17 184 ≤ 1000000000 := hI.1 17 184
  have w17 : m 17 184 ≤ t := hH 17 (Or.inr (Or.inl rfl))
  have ix : ∀ k : Int, (0 ≤ k ∧ k ≤ 5) → vp_in (Int32.ofInt i + Int32.ofInt k) L := fun k hk => zx_ix h0 hk hi (by omega) rfl
  have p1 : z_reach (z_sem zn (d + 60)) (some (L, xs), zn) B 1 (1278, zfr i o5 o6, [], zk c m) (1279, zfr i o5 o6, [.ref 0], zk c m) := by
    exact ⟨[zo], _, rfl, ⟨trivial, trivial⟩⟩
  obtain ⟨v1, hs1, hr1⟩ := S_X11_still zn (d + 58) hN hC m hI
  obtain ⟨m1, e1⟩ : ∃ q, q = m := ⟨_, rfl⟩
  have hI1 : zI c m m1 := by rw [e1]; exact hI
  have k1 : zH (t + 60) m1 := by rw [e1]; exact zH_le hH (by omega)
  obtain ⟨hJ1, hI1'⟩ := zV_class hJ hI1
  have p2 : z_reach (z_sem zn (d + 60)) (some (L, xs), zn) B 1 (1279, zfr i o5 o6, [.ref 0], zk c m) (1283, zfr i o5 o6, [], zk c m1) :=
    ⟨[zc (some (.int (Int32.ofInt v1))) (zk c m1), zo], _, rfl, ⟨⟨(Nat.lt_of_lt_of_le (Nat.le_of_ble_eq_true rfl) hN), (Nat.le_of_ble_eq_true rfl)⟩, (by rw [e1]; exact hs1), (Nat.le_of_ble_eq_true rfl), Nat.le_refl _, Nat.le_refl _, hB.1, hB.2⟩, trivial, trivial⟩
  have p3 : z_reach (z_sem zn (d + 60)) (some (L, xs), zn) B 1 (1283, zfr i o5 o6, [], zk c m1) (1284, zfr i o5 o6, [.ref 79], zk c m1) := by
    exact ⟨[zo], _, rfl, ⟨trivial, trivial⟩⟩
  obtain ⟨v2, m2, hs2, hJ2, hr2⟩ := S_X12_still zn (d + 57) hN hC m1 hJ1
  have p4 : z_reach (z_sem zn (d + 60)) (some (L, xs), zn) B 1 (1284, zfr i o5 o6, [.ref 79], zk c m1) (1687, zfr i o5 o6, [], zk c m2) :=
    ⟨[zc (some (.int (Int32.ofInt v2))) (zk c m2), zo, zo], _, rfl, ⟨⟨(Nat.lt_of_lt_of_le (Nat.le_of_ble_eq_true rfl) hN), (Nat.le_of_ble_eq_true rfl)⟩, hs2, (Nat.le_of_ble_eq_true rfl), Nat.le_refl _, Nat.le_refl _, hB.1, hB.2⟩, trivial, trivial, trivial⟩
  have hJ3 : zJ m1 (t + 60) 0 m2 := by first | exact hJ2 | exact zJ_le hJ2 (by omega)
  obtain ⟨w1, w2, w3⟩ := zV_model (t1 := t + 60) hI1' k1 (by omega) hJ3
  exact ⟨m2, o5, o6, ((p1.trans p2).trans p3).trans p4, w1, w2, w3, zV_rt hI hK hI1 hJ3⟩
set_option maxRecDepth 100000 in
set_option maxHeartbeats 4000000 in
theorem zk32 (zn : Bool) (d L : Nat) (xs : Nat → Int32) (B : Nat × Nat) (i t : Int) (h0 : 0 ≤ i) (hi : i + 6 ≤ L) (hL : L ≤ 3072) (ht : 0 ≤ t ∧ t ≤ 40000) (o5 o6 : Option Value) {c : Nat × Nat} {m : zM} (hN : 107 ≤ c.1) (hC : c.1 < z_RO) (hB : c.1 ≤ B.1 ∧ c.2 ≤ B.2) (hV : zOP c m t) :
    ∃ (m2 : zM) (o5' o6' : Option Value), z_reach (z_sem zn (d + 60)) (some (L, xs), zn) B 1 (1291, zfr i o5 o6, [], zk c m) (1687, zfr i o5' o6', [], zk c m2) ∧ zOP c m2 (t + 60) := by
  obtain ⟨hI, hH, hJ, hK⟩ := hV
  have g17 : (0 : Int) ≤ m 17 184 ∧ m 17 184 ≤ 1000000000 := hI.1 17 184
  have w17 : m 17 184 ≤ t := hH 17 (Or.inr (Or.inl rfl))
  have ix : ∀ k : Int, (0 ≤ k ∧ k ≤ 5) → vp_in (Int32.ofInt i + Int32.ofInt k) L := fun k hk => zx_ix h0 hk hi (by omega) rfl
  obtain ⟨a1, e1⟩ : ∃ q, q = (xs ((Int32.ofInt i + Int32.ofInt 1).toNatClampNeg)).toInt := ⟨_, rfl⟩
  have r1 : -2147483648 ≤ a1 ∧ a1 ≤ 2147483647 := by rw [e1]; exact ⟨Int32.le_toInt _, Int32.toInt_le _⟩
  have s1 : xs ((Int32.ofInt i + Int32.ofInt 1).toNatClampNeg) = Int32.ofInt a1 := by rw [e1]; exact zx_self _
  have p1 : z_reach (z_sem zn (d + 60)) (some (L, xs), zn) B 1 (1291, zfr i o5 o6, [], zk c m) (1298, zfr i o5 o6, [.int (Int32.ofInt a1), .ref 0], zk c m) := by
    rw [← s1]
    exact ⟨[zo, zo, zo, zo, zo, zo], _, rfl, ⟨trivial, trivial, trivial, trivial, trivial, ix 1 (by omega), trivial⟩⟩
  obtain ⟨v1, hs1, hr1⟩ := S_X11_deaths zn (d + 58) hN hC a1 m hI (by omega)
  obtain ⟨m1, e1⟩ : ∃ q, q = m := ⟨_, rfl⟩
  have hI1 : zI c m m1 := by rw [e1]; exact hI
  have k1 : zH (t + 60) m1 := by rw [e1]; exact zH_le hH (by omega)
  obtain ⟨hJ1, hI1'⟩ := zV_class hJ hI1
  have p2 : z_reach (z_sem zn (d + 60)) (some (L, xs), zn) B 1 (1298, zfr i o5 o6, [.int (Int32.ofInt a1), .ref 0], zk c m) (1302, zfr i o5 o6, [], zk c m1) :=
    ⟨[zc (some (.int (Int32.ofInt v1))) (zk c m1), zo], _, rfl, ⟨⟨(Nat.lt_of_lt_of_le (Nat.le_of_ble_eq_true rfl) hN), (Nat.le_of_ble_eq_true rfl)⟩, (by rw [e1]; exact hs1), (Nat.le_of_ble_eq_true rfl), Nat.le_refl _, Nat.le_refl _, hB.1, hB.2⟩, trivial, trivial⟩
  have p3 : z_reach (z_sem zn (d + 60)) (some (L, xs), zn) B 1 (1302, zfr i o5 o6, [], zk c m1) (1309, zfr i o5 o6, [.int (Int32.ofInt a1), .ref 79], zk c m1) := by
    rw [← s1]
    exact ⟨[zo, zo, zo, zo, zo, zo], _, rfl, ⟨trivial, trivial, trivial, trivial, trivial, ix 1 (by omega), trivial⟩⟩
  obtain ⟨v2, m2, hs2, hJ2, hr2⟩ := S_X12_deaths zn (d + 57) hN hC a1 m1 hJ1 (by omega)
  have p4 : z_reach (z_sem zn (d + 60)) (some (L, xs), zn) B 1 (1309, zfr i o5 o6, [.int (Int32.ofInt a1), .ref 79], zk c m1) (1687, zfr i o5 o6, [], zk c m2) :=
    ⟨[zc (some (.int (Int32.ofInt v2))) (zk c m2), zo, zo], _, rfl, ⟨⟨(Nat.lt_of_lt_of_le (Nat.le_of_ble_eq_true rfl) hN), (Nat.le_of_ble_eq_true rfl)⟩, hs2, (Nat.le_of_ble_eq_true rfl), Nat.le_refl _, Nat.le_refl _, hB.1, hB.2⟩, trivial, trivial, trivial⟩
  have hJ3 : zJ m1 (t + 60) 0 m2 := by first | exact hJ2 | exact zJ_le hJ2 (by omega)
  obtain ⟨w1, w2, w3⟩ := zV_model (t1 := t + 60) hI1' k1 (by omega) hJ3
  exact ⟨m2, o5, o6, ((p1.trans p2).trans p3).trans p4, w1, w2, w3, zV_rt hI hK hI1 hJ3⟩
set_option maxRecDepth 100000 in
set_option maxHeartbeats 4000000 in
theorem zk34 (zn : Bool) (d L : Nat) (xs : Nat → Int32) (B : Nat × Nat) (i t : Int) (h0 : 0 ≤ i) (hi : i + 6 ≤ L) (hL : L ≤ 3072) (ht : 0 ≤ t ∧ t ≤ 40000) (o5 o6 : Option Value) {c : Nat × Nat} {m : zM} (hN : 107 ≤ c.1) (hC : c.1 < z_RO) (hB : c.1 ≤ B.1 ∧ c.2 ≤ B.2) (hV : zOP c m t) :
    ∃ (m2 : zM) (o5' o6' : Option Value), z_reach (z_sem zn (d + 60)) (some (L, xs), zn) B 1 (1353, zfr i o5 o6, [], zk c m) (1687, zfr i o5' o6', [], zk c m2) ∧ zOP c m2 (t + 60) := by
  obtain ⟨hI, hH, hJ, hK⟩ := hV
  have g17 : (0 : Int) ≤ m 17 184 ∧ m 17 184 ≤ 1000000000 := hI.1 17 184
  have w17 : m 17 184 ≤ t := hH 17 (Or.inr (Or.inl rfl))
  have ix : ∀ k : Int, (0 ≤ k ∧ k ≤ 5) → vp_in (Int32.ofInt i + Int32.ofInt k) L := fun k hk => zx_ix h0 hk hi (by omega) rfl
  obtain ⟨a1, e1⟩ : ∃ q, q = (xs ((Int32.ofInt i + Int32.ofInt 1).toNatClampNeg)).toInt := ⟨_, rfl⟩
  have r1 : -2147483648 ≤ a1 ∧ a1 ≤ 2147483647 := by rw [e1]; exact ⟨Int32.le_toInt _, Int32.toInt_le _⟩
  have s1 : xs ((Int32.ofInt i + Int32.ofInt 1).toNatClampNeg) = Int32.ofInt a1 := by rw [e1]; exact zx_self _
  obtain ⟨a2, e2⟩ : ∃ q, q = (xs ((Int32.ofInt i + Int32.ofInt 2).toNatClampNeg)).toInt := ⟨_, rfl⟩
  have r2 : -2147483648 ≤ a2 ∧ a2 ≤ 2147483647 := by rw [e2]; exact ⟨Int32.le_toInt _, Int32.toInt_le _⟩
  have s2 : xs ((Int32.ofInt i + Int32.ofInt 2).toNatClampNeg) = Int32.ofInt a2 := by rw [e2]; exact zx_self _
  obtain ⟨a3, e3⟩ : ∃ q, q = (xs ((Int32.ofInt i + Int32.ofInt 3).toNatClampNeg)).toInt := ⟨_, rfl⟩
  have r3 : -2147483648 ≤ a3 ∧ a3 ≤ 2147483647 := by rw [e3]; exact ⟨Int32.le_toInt _, Int32.toInt_le _⟩
  have s3 : xs ((Int32.ofInt i + Int32.ofInt 3).toNatClampNeg) = Int32.ofInt a3 := by rw [e3]; exact zx_self _
  have p1 : z_reach (z_sem zn (d + 60)) (some (L, xs), zn) B 1 (1353, zfr i o5 o6, [], zk c m) (1372, zfr i o5 o6, [.int (Int32.ofInt a3), .int (Int32.ofInt a2), .int (Int32.ofInt a1), .ref 0], zk c m) := by
    rw [← s1, ← s2, ← s3]
    exact ⟨[zo, zo, zo, zo, zo, zo, zo, zo, zo, zo, zo, zo, zo, zo, zo, zo], _, rfl, ⟨trivial, trivial, trivial, trivial, trivial, ix 1 (by omega), trivial, trivial, trivial, trivial, ix 2 (by omega), trivial, trivial, trivial, trivial, ix 3 (by omega), trivial⟩⟩
  obtain ⟨v1, m1, hs1, hI1, hr1⟩ := S_X11_thief zn (d + 53) hN hC a1 a2 a3 m hI (by omega) (by omega) (by omega) (by omega)
  have k1 : zH (t + 60) m1 := by first | exact zH_le (zH_N hH hr1) (by omega) | exact zH_le (zH_N hH hr1.2) (by omega) | exact zH_le (zH_N hH hr1.2.2) (by omega) | exact zH_le (zH_N hH hr1.2.2.2) (by omega) | exact zH_le hr1 (by omega) | exact zH_le hr1.2 (by omega) | exact zH_le hr1.2.2 (by omega) | exact (fun p hp => by have q := hr1.2 p hp (by unfold zQ at hp; omega); have w := hH p hp; omega) | exact (fun p hp => by have q := hr1.2.2 p hp (by unfold zQ at hp; omega); have w := hH p hp; omega)
  obtain ⟨hJ1, hI1'⟩ := zV_class hJ hI1
  have p2 : z_reach (z_sem zn (d + 60)) (some (L, xs), zn) B 1 (1372, zfr i o5 o6, [.int (Int32.ofInt a3), .int (Int32.ofInt a2), .int (Int32.ofInt a1), .ref 0], zk c m) (1376, zfr i o5 o6, [], zk c m1) :=
    ⟨[zc (some (.int (Int32.ofInt v1))) (zk c m1), zo], _, rfl, ⟨⟨(Nat.lt_of_lt_of_le (Nat.le_of_ble_eq_true rfl) hN), (Nat.le_of_ble_eq_true rfl)⟩, hs1, (Nat.le_of_ble_eq_true rfl), Nat.le_refl _, Nat.le_refl _, hB.1, hB.2⟩, trivial, trivial⟩
  have p3 : z_reach (z_sem zn (d + 60)) (some (L, xs), zn) B 1 (1376, zfr i o5 o6, [], zk c m1) (1395, zfr i o5 o6, [.int (Int32.ofInt a3), .int (Int32.ofInt a2), .int (Int32.ofInt a1), .ref 79], zk c m1) := by
    rw [← s1, ← s2, ← s3]
    exact ⟨[zo, zo, zo, zo, zo, zo, zo, zo, zo, zo, zo, zo, zo, zo, zo, zo], _, rfl, ⟨trivial, trivial, trivial, trivial, trivial, ix 1 (by omega), trivial, trivial, trivial, trivial, ix 2 (by omega), trivial, trivial, trivial, trivial, ix 3 (by omega), trivial⟩⟩
  obtain ⟨v2, m2, hs2, hJ2, hr2⟩ := S_X12_thief zn (d + 21) hN hC a1 a2 a3 m1 hJ1 (by omega) (by omega) (by omega) (by omega)
  have p4 : z_reach (z_sem zn (d + 60)) (some (L, xs), zn) B 1 (1395, zfr i o5 o6, [.int (Int32.ofInt a3), .int (Int32.ofInt a2), .int (Int32.ofInt a1), .ref 79], zk c m1) (1687, zfr i o5 o6, [], zk c m2) :=
    ⟨[zc (some (.int (Int32.ofInt v2))) (zk c m2), zo, zo], _, rfl, ⟨⟨(Nat.lt_of_lt_of_le (Nat.le_of_ble_eq_true rfl) hN), (Nat.le_of_ble_eq_true rfl)⟩, hs2, (Nat.le_of_ble_eq_true rfl), Nat.le_refl _, Nat.le_refl _, hB.1, hB.2⟩, trivial, trivial, trivial⟩
  have hJ3 : zJ m1 (t + 60) 0 m2 := by first | exact hJ2 | exact zJ_le hJ2 (by omega)
  obtain ⟨w1, w2, w3⟩ := zV_model (t1 := t + 60) hI1' k1 (by omega) hJ3
  exact ⟨m2, o5, o6, ((p1.trans p2).trans p3).trans p4, w1, w2, w3, zV_rt hI hK hI1 hJ3⟩
set_option maxRecDepth 100000 in
set_option maxHeartbeats 4000000 in
theorem zk35 (zn : Bool) (d L : Nat) (xs : Nat → Int32) (B : Nat × Nat) (i t : Int) (h0 : 0 ≤ i) (hi : i + 6 ≤ L) (hL : L ≤ 3072) (ht : 0 ≤ t ∧ t ≤ 40000) (o5 o6 : Option Value) {c : Nat × Nat} {m : zM} (hN : 107 ≤ c.1) (hC : c.1 < z_RO) (hB : c.1 ≤ B.1 ∧ c.2 ≤ B.2) (hV : zOP c m t) :
    ∃ (m2 : zM) (o5' o6' : Option Value), z_reach (z_sem zn (d + 60)) (some (L, xs), zn) B 1 (1402, zfr i o5 o6, [], zk c m) (1687, zfr i o5' o6', [], zk c m2) ∧ zOP c m2 (t + 60) := by
  obtain ⟨hI, hH, hJ, hK⟩ := hV
  have g17 : (0 : Int) ≤ m 17 184 ∧ m 17 184 ≤ 1000000000 := hI.1 17 184
  have w17 : m 17 184 ≤ t := hH 17 (Or.inr (Or.inl rfl))
  have ix : ∀ k : Int, (0 ≤ k ∧ k ≤ 5) → vp_in (Int32.ofInt i + Int32.ofInt k) L := fun k hk => zx_ix h0 hk hi (by omega) rfl
  obtain ⟨a1, e1⟩ : ∃ q, q = (xs ((Int32.ofInt i + Int32.ofInt 1).toNatClampNeg)).toInt := ⟨_, rfl⟩
  have r1 : -2147483648 ≤ a1 ∧ a1 ≤ 2147483647 := by rw [e1]; exact ⟨Int32.le_toInt _, Int32.toInt_le _⟩
  have s1 : xs ((Int32.ofInt i + Int32.ofInt 1).toNatClampNeg) = Int32.ofInt a1 := by rw [e1]; exact zx_self _
  obtain ⟨a2, e2⟩ : ∃ q, q = (xs ((Int32.ofInt i + Int32.ofInt 2).toNatClampNeg)).toInt := ⟨_, rfl⟩
  have r2 : -2147483648 ≤ a2 ∧ a2 ≤ 2147483647 := by rw [e2]; exact ⟨Int32.le_toInt _, Int32.toInt_le _⟩
  have s2 : xs ((Int32.ofInt i + Int32.ofInt 2).toNatClampNeg) = Int32.ofInt a2 := by rw [e2]; exact zx_self _
  obtain ⟨a3, e3⟩ : ∃ q, q = (xs ((Int32.ofInt i + Int32.ofInt 3).toNatClampNeg)).toInt := ⟨_, rfl⟩
  have r3 : -2147483648 ≤ a3 ∧ a3 ≤ 2147483647 := by rw [e3]; exact ⟨Int32.le_toInt _, Int32.toInt_le _⟩
  have s3 : xs ((Int32.ofInt i + Int32.ofInt 3).toNatClampNeg) = Int32.ofInt a3 := by rw [e3]; exact zx_self _
  obtain ⟨a4, e4⟩ : ∃ q, q = (xs ((Int32.ofInt i + Int32.ofInt 4).toNatClampNeg)).toInt := ⟨_, rfl⟩
  have r4 : -2147483648 ≤ a4 ∧ a4 ≤ 2147483647 := by rw [e4]; exact ⟨Int32.le_toInt _, Int32.toInt_le _⟩
  have s4 : xs ((Int32.ofInt i + Int32.ofInt 4).toNatClampNeg) = Int32.ofInt a4 := by rw [e4]; exact zx_self _
  obtain ⟨a5, e5⟩ : ∃ q, q = (xs ((Int32.ofInt i + Int32.ofInt 5).toNatClampNeg)).toInt := ⟨_, rfl⟩
  have r5 : -2147483648 ≤ a5 ∧ a5 ≤ 2147483647 := by rw [e5]; exact ⟨Int32.le_toInt _, Int32.toInt_le _⟩
  have s5 : xs ((Int32.ofInt i + Int32.ofInt 5).toNatClampNeg) = Int32.ofInt a5 := by rw [e5]; exact zx_self _
  have p1 : z_reach (z_sem zn (d + 60)) (some (L, xs), zn) B 1 (1402, zfr i o5 o6, [], zk c m) (1433, zfr i o5 o6, [.int (Int32.ofInt a5), .int (Int32.ofInt a4), .int (Int32.ofInt a3), .int (Int32.ofInt a2), .int (Int32.ofInt a1), .ref 0], zk c m) := by
    rw [← s1, ← s2, ← s3, ← s4, ← s5]
    exact ⟨[zo, zo, zo, zo, zo, zo, zo, zo, zo, zo, zo, zo, zo, zo, zo, zo, zo, zo, zo, zo, zo, zo, zo, zo, zo, zo], _, rfl, ⟨trivial, trivial, trivial, trivial, trivial, ix 1 (by omega), trivial, trivial, trivial, trivial, ix 2 (by omega), trivial, trivial, trivial, trivial, ix 3 (by omega), trivial, trivial, trivial, trivial, ix 4 (by omega), trivial, trivial, trivial, trivial, ix 5 (by omega), trivial⟩⟩
  obtain ⟨v1, m1, hs1, hI1, hr1⟩ := S_X11_lures zn (d + 54) hN hC a1 a2 a3 a4 a5 m hI (by omega) (by omega) (by omega) (by omega) (by omega) (by omega)
  have k1 : zH (t + 60) m1 := by first | exact zH_le (zH_N hH hr1) (by omega) | exact zH_le (zH_N hH hr1.2) (by omega) | exact zH_le (zH_N hH hr1.2.2) (by omega) | exact zH_le (zH_N hH hr1.2.2.2) (by omega) | exact zH_le hr1 (by omega) | exact zH_le hr1.2 (by omega) | exact zH_le hr1.2.2 (by omega) | exact (fun p hp => by have q := hr1.2 p hp (by unfold zQ at hp; omega); have w := hH p hp; omega) | exact (fun p hp => by have q := hr1.2.2 p hp (by unfold zQ at hp; omega); have w := hH p hp; omega)
  obtain ⟨hJ1, hI1'⟩ := zV_class hJ hI1
  have p2 : z_reach (z_sem zn (d + 60)) (some (L, xs), zn) B 1 (1433, zfr i o5 o6, [.int (Int32.ofInt a5), .int (Int32.ofInt a4), .int (Int32.ofInt a3), .int (Int32.ofInt a2), .int (Int32.ofInt a1), .ref 0], zk c m) (1437, zfr i o5 o6, [], zk c m1) :=
    ⟨[zc (some (.int (Int32.ofInt v1))) (zk c m1), zo], _, rfl, ⟨⟨(Nat.lt_of_lt_of_le (Nat.le_of_ble_eq_true rfl) hN), (Nat.le_of_ble_eq_true rfl)⟩, hs1, (Nat.le_of_ble_eq_true rfl), Nat.le_refl _, Nat.le_refl _, hB.1, hB.2⟩, trivial, trivial⟩
  have p3 : z_reach (z_sem zn (d + 60)) (some (L, xs), zn) B 1 (1437, zfr i o5 o6, [], zk c m1) (1468, zfr i o5 o6, [.int (Int32.ofInt a5), .int (Int32.ofInt a4), .int (Int32.ofInt a3), .int (Int32.ofInt a2), .int (Int32.ofInt a1), .ref 79], zk c m1) := by
    rw [← s1, ← s2, ← s3, ← s4, ← s5]
    exact ⟨[zo, zo, zo, zo, zo, zo, zo, zo, zo, zo, zo, zo, zo, zo, zo, zo, zo, zo, zo, zo, zo, zo, zo, zo, zo, zo], _, rfl, ⟨trivial, trivial, trivial, trivial, trivial, ix 1 (by omega), trivial, trivial, trivial, trivial, ix 2 (by omega), trivial, trivial, trivial, trivial, ix 3 (by omega), trivial, trivial, trivial, trivial, ix 4 (by omega), trivial, trivial, trivial, trivial, ix 5 (by omega), trivial⟩⟩
  obtain ⟨v2, m2, hs2, hJ2, hr2⟩ := S_X12_lures zn (d + 21) hN hC a1 a2 a3 a4 a5 m1 hJ1 (by omega) (by omega) (by omega) (by omega) (by omega) (by omega)
  have p4 : z_reach (z_sem zn (d + 60)) (some (L, xs), zn) B 1 (1468, zfr i o5 o6, [.int (Int32.ofInt a5), .int (Int32.ofInt a4), .int (Int32.ofInt a3), .int (Int32.ofInt a2), .int (Int32.ofInt a1), .ref 79], zk c m1) (1687, zfr i o5 o6, [], zk c m2) :=
    ⟨[zc (some (.int (Int32.ofInt v2))) (zk c m2), zo, zo], _, rfl, ⟨⟨(Nat.lt_of_lt_of_le (Nat.le_of_ble_eq_true rfl) hN), (Nat.le_of_ble_eq_true rfl)⟩, hs2, (Nat.le_of_ble_eq_true rfl), Nat.le_refl _, Nat.le_refl _, hB.1, hB.2⟩, trivial, trivial, trivial⟩
  have hJ3 : zJ m1 (t + 60) 0 m2 := by first | exact hJ2 | exact zJ_le hJ2 (by omega)
  obtain ⟨w1, w2, w3⟩ := zV_model (t1 := t + 60) hI1' k1 (by omega) hJ3
  exact ⟨m2, o5, o6, ((p1.trans p2).trans p3).trans p4, w1, w2, w3, zV_rt hI hK hI1 hJ3⟩
set_option maxRecDepth 100000 in
set_option maxHeartbeats 4000000 in
theorem zk36 (zn : Bool) (d L : Nat) (xs : Nat → Int32) (B : Nat × Nat) (i t : Int) (h0 : 0 ≤ i) (hi : i + 6 ≤ L) (hL : L ≤ 3072) (ht : 0 ≤ t ∧ t ≤ 40000) (o5 o6 : Option Value) {c : Nat × Nat} {m : zM} (hN : 107 ≤ c.1) (hC : c.1 < z_RO) (hB : c.1 ≤ B.1 ∧ c.2 ≤ B.2) (hV : zOP c m t) :
    ∃ (m2 : zM) (o5' o6' : Option Value), z_reach (z_sem zn (d + 60)) (some (L, xs), zn) B 1 (1475, zfr i o5 o6, [], zk c m) (1687, zfr i o5' o6', [], zk c m2) ∧ zOP c m2 (t + 60) := by
  obtain ⟨hI, hH, hJ, hK⟩ := hV
  have g17 : (0 : Int) ≤ m 17 184 ∧ m 17 184 ≤ 1000000000 := hI.1 17 184
  have w17 : m 17 184 ≤ t := hH 17 (Or.inr (Or.inl rfl))
  have ix : ∀ k : Int, (0 ≤ k ∧ k ≤ 5) → vp_in (Int32.ofInt i + Int32.ofInt k) L := fun k hk => zx_ix h0 hk hi (by omega) rfl
  obtain ⟨a1, e1⟩ : ∃ q, q = (xs ((Int32.ofInt i + Int32.ofInt 1).toNatClampNeg)).toInt := ⟨_, rfl⟩
  have r1 : -2147483648 ≤ a1 ∧ a1 ≤ 2147483647 := by rw [e1]; exact ⟨Int32.le_toInt _, Int32.toInt_le _⟩
  have s1 : xs ((Int32.ofInt i + Int32.ofInt 1).toNatClampNeg) = Int32.ofInt a1 := by rw [e1]; exact zx_self _
  have p1 : z_reach (z_sem zn (d + 60)) (some (L, xs), zn) B 1 (1475, zfr i o5 o6, [], zk c m) (1482, zfr i o5 o6, [.int (Int32.ofInt a1), .ref 0], zk c m) := by
    rw [← s1]
    exact ⟨[zo, zo, zo, zo, zo, zo], _, rfl, ⟨trivial, trivial, trivial, trivial, trivial, ix 1 (by omega), trivial⟩⟩
  obtain ⟨v1, m1, hs1, hI1, hr1⟩ := S_X11_later zn (d + 53) hN hC a1 m hI (by omega) (by omega)
  have k1 : zH (t + 60) m1 := by first | exact zH_le (zH_N hH hr1) (by omega) | exact zH_le (zH_N hH hr1.2) (by omega) | exact zH_le (zH_N hH hr1.2.2) (by omega) | exact zH_le (zH_N hH hr1.2.2.2) (by omega) | exact zH_le hr1 (by omega) | exact zH_le hr1.2 (by omega) | exact zH_le hr1.2.2 (by omega) | exact (fun p hp => by have q := hr1.2 p hp (by unfold zQ at hp; omega); have w := hH p hp; omega) | exact (fun p hp => by have q := hr1.2.2 p hp (by unfold zQ at hp; omega); have w := hH p hp; omega)
  obtain ⟨hJ1, hI1'⟩ := zV_class hJ hI1
  have p2 : z_reach (z_sem zn (d + 60)) (some (L, xs), zn) B 1 (1482, zfr i o5 o6, [.int (Int32.ofInt a1), .ref 0], zk c m) (1486, zfr i o5 o6, [], zk c m1) :=
    ⟨[zc (some (.int (Int32.ofInt v1))) (zk c m1), zo], _, rfl, ⟨⟨(Nat.lt_of_lt_of_le (Nat.le_of_ble_eq_true rfl) hN), (Nat.le_of_ble_eq_true rfl)⟩, hs1, (Nat.le_of_ble_eq_true rfl), Nat.le_refl _, Nat.le_refl _, hB.1, hB.2⟩, trivial, trivial⟩
  have p3 : z_reach (z_sem zn (d + 60)) (some (L, xs), zn) B 1 (1486, zfr i o5 o6, [], zk c m1) (1493, zfr i o5 o6, [.int (Int32.ofInt a1), .ref 79], zk c m1) := by
    rw [← s1]
    exact ⟨[zo, zo, zo, zo, zo, zo], _, rfl, ⟨trivial, trivial, trivial, trivial, trivial, ix 1 (by omega), trivial⟩⟩
  obtain ⟨v2, m2, hs2, hJ2, hr2⟩ := S_X12_later zn (d + 20) hN hC a1 m1 hJ1 (by omega) (by omega)
  have p4 : z_reach (z_sem zn (d + 60)) (some (L, xs), zn) B 1 (1493, zfr i o5 o6, [.int (Int32.ofInt a1), .ref 79], zk c m1) (1687, zfr i o5 o6, [], zk c m2) :=
    ⟨[zc (some (.int (Int32.ofInt v2))) (zk c m2), zo, zo], _, rfl, ⟨⟨(Nat.lt_of_lt_of_le (Nat.le_of_ble_eq_true rfl) hN), (Nat.le_of_ble_eq_true rfl)⟩, hs2, (Nat.le_of_ble_eq_true rfl), Nat.le_refl _, Nat.le_refl _, hB.1, hB.2⟩, trivial, trivial, trivial⟩
  have hJ3 : zJ m1 (t + 60) 0 m2 := by first | exact hJ2 | exact zJ_le hJ2 (by omega)
  obtain ⟨w1, w2, w3⟩ := zV_model (t1 := t + 60) hI1' k1 (by omega) hJ3
  exact ⟨m2, o5, o6, ((p1.trans p2).trans p3).trans p4, w1, w2, w3, zV_rt hI hK hI1 hJ3⟩
set_option maxRecDepth 100000 in
set_option maxHeartbeats 4000000 in
theorem zk37 (zn : Bool) (d L : Nat) (xs : Nat → Int32) (B : Nat × Nat) (i t : Int) (h0 : 0 ≤ i) (hi : i + 6 ≤ L) (hL : L ≤ 3072) (ht : 0 ≤ t ∧ t ≤ 40000) (o5 o6 : Option Value) {c : Nat × Nat} {m : zM} (hN : 107 ≤ c.1) (hC : c.1 < z_RO) (hB : c.1 ≤ B.1 ∧ c.2 ≤ B.2) (hV : zOP c m t) :
    ∃ (m2 : zM) (o5' o6' : Option Value), z_reach (z_sem zn (d + 60)) (some (L, xs), zn) B 1 (1500, zfr i o5 o6, [], zk c m) (1687, zfr i o5' o6', [], zk c m2) ∧ zOP c m2 (t + 60) := by
  obtain ⟨hI, hH, hJ, hK⟩ := hV
  have g17 : (0 : Int) ≤ m 17 184 ∧ m 17 184 ≤ 1000000000 := hI.1 17 184
  have w17 : m 17 184 ≤ t := hH 17 (Or.inr (Or.inl rfl))
  have ix : ∀ k : Int, (0 ≤ k ∧ k ≤ 5) → vp_in (Int32.ofInt i + Int32.ofInt k) L := fun k hk => zx_ix h0 hk hi (by omega) rfl
  obtain ⟨a1, e1⟩ : ∃ q, q = (xs ((Int32.ofInt i + Int32.ofInt 1).toNatClampNeg)).toInt := ⟨_, rfl⟩
  have r1 : -2147483648 ≤ a1 ∧ a1 ≤ 2147483647 := by rw [e1]; exact ⟨Int32.le_toInt _, Int32.toInt_le _⟩
  have s1 : xs ((Int32.ofInt i + Int32.ofInt 1).toNatClampNeg) = Int32.ofInt a1 := by rw [e1]; exact zx_self _
  obtain ⟨a2, e2⟩ : ∃ q, q = (xs ((Int32.ofInt i + Int32.ofInt 2).toNatClampNeg)).toInt := ⟨_, rfl⟩
  have r2 : -2147483648 ≤ a2 ∧ a2 ≤ 2147483647 := by rw [e2]; exact ⟨Int32.le_toInt _, Int32.toInt_le _⟩
  have s2 : xs ((Int32.ofInt i + Int32.ofInt 2).toNatClampNeg) = Int32.ofInt a2 := by rw [e2]; exact zx_self _
  have p1 : z_reach (z_sem zn (d + 60)) (some (L, xs), zn) B 1 (1500, zfr i o5 o6, [], zk c m) (1513, zfr i o5 o6, [.int (Int32.ofInt a2), .int (Int32.ofInt a1), .ref 0], zk c m) := by
    rw [← s1, ← s2]
    exact ⟨[zo, zo, zo, zo, zo, zo, zo, zo, zo, zo, zo], _, rfl, ⟨trivial, trivial, trivial, trivial, trivial, ix 1 (by omega), trivial, trivial, trivial, trivial, ix 2 (by omega), trivial⟩⟩
  obtain ⟨v1, m1, hs1, hI1, hr1⟩ := S_X11_spared zn (d + 53) hN hC a1 a2 m hI (by omega) (by omega) (by omega)
  have k1 : zH (t + 60) m1 := by first | exact zH_le (zH_N hH hr1) (by omega) | exact zH_le (zH_N hH hr1.2) (by omega) | exact zH_le (zH_N hH hr1.2.2) (by omega) | exact zH_le (zH_N hH hr1.2.2.2) (by omega) | exact zH_le hr1 (by omega) | exact zH_le hr1.2 (by omega) | exact zH_le hr1.2.2 (by omega) | exact (fun p hp => by have q := hr1.2 p hp (by unfold zQ at hp; omega); have w := hH p hp; omega) | exact (fun p hp => by have q := hr1.2.2 p hp (by unfold zQ at hp; omega); have w := hH p hp; omega)
  obtain ⟨hJ1, hI1'⟩ := zV_class hJ hI1
  have p2 : z_reach (z_sem zn (d + 60)) (some (L, xs), zn) B 1 (1513, zfr i o5 o6, [.int (Int32.ofInt a2), .int (Int32.ofInt a1), .ref 0], zk c m) (1517, zfr i o5 o6, [], zk c m1) :=
    ⟨[zc (some (.int (Int32.ofInt v1))) (zk c m1), zo], _, rfl, ⟨⟨(Nat.lt_of_lt_of_le (Nat.le_of_ble_eq_true rfl) hN), (Nat.le_of_ble_eq_true rfl)⟩, hs1, (Nat.le_of_ble_eq_true rfl), Nat.le_refl _, Nat.le_refl _, hB.1, hB.2⟩, trivial, trivial⟩
  have p3 : z_reach (z_sem zn (d + 60)) (some (L, xs), zn) B 1 (1517, zfr i o5 o6, [], zk c m1) (1530, zfr i o5 o6, [.int (Int32.ofInt a2), .int (Int32.ofInt a1), .ref 79], zk c m1) := by
    rw [← s1, ← s2]
    exact ⟨[zo, zo, zo, zo, zo, zo, zo, zo, zo, zo, zo], _, rfl, ⟨trivial, trivial, trivial, trivial, trivial, ix 1 (by omega), trivial, trivial, trivial, trivial, ix 2 (by omega), trivial⟩⟩
  obtain ⟨v2, m2, hs2, hJ2, hr2⟩ := S_X12_spared zn (d + 22) hN hC a1 a2 m1 hJ1 (by omega) (by omega) (by omega)
  have p4 : z_reach (z_sem zn (d + 60)) (some (L, xs), zn) B 1 (1530, zfr i o5 o6, [.int (Int32.ofInt a2), .int (Int32.ofInt a1), .ref 79], zk c m1) (1687, zfr i o5 o6, [], zk c m2) :=
    ⟨[zc (some (.int (Int32.ofInt v2))) (zk c m2), zo, zo], _, rfl, ⟨⟨(Nat.lt_of_lt_of_le (Nat.le_of_ble_eq_true rfl) hN), (Nat.le_of_ble_eq_true rfl)⟩, hs2, (Nat.le_of_ble_eq_true rfl), Nat.le_refl _, Nat.le_refl _, hB.1, hB.2⟩, trivial, trivial, trivial⟩
  have hJ3 : zJ m1 (t + 60) 0 m2 := by first | exact hJ2 | exact zJ_le hJ2 (by omega)
  obtain ⟨w1, w2, w3⟩ := zV_model (t1 := t + 60) hI1' k1 (by omega) hJ3
  exact ⟨m2, o5, o6, ((p1.trans p2).trans p3).trans p4, w1, w2, w3, zV_rt hI hK hI1 hJ3⟩
set_option maxRecDepth 100000 in
set_option maxHeartbeats 4000000 in
theorem zk38 (zn : Bool) (d L : Nat) (xs : Nat → Int32) (B : Nat × Nat) (i t : Int) (h0 : 0 ≤ i) (hi : i + 6 ≤ L) (hL : L ≤ 3072) (ht : 0 ≤ t ∧ t ≤ 40000) (o5 o6 : Option Value) {c : Nat × Nat} {m : zM} (hN : 107 ≤ c.1) (hC : c.1 < z_RO) (hB : c.1 ≤ B.1 ∧ c.2 ≤ B.2) (hV : zOP c m t) :
    ∃ (m2 : zM) (o5' o6' : Option Value), z_reach (z_sem zn (d + 60)) (some (L, xs), zn) B 1 (1537, zfr i o5 o6, [], zk c m) (1687, zfr i o5' o6', [], zk c m2) ∧ zOP c m2 (t + 60) := by
  obtain ⟨hI, hH, hJ, hK⟩ := hV
  have g17 : (0 : Int) ≤ m 17 184 ∧ m 17 184 ≤ 1000000000 := hI.1 17 184
  have w17 : m 17 184 ≤ t := hH 17 (Or.inr (Or.inl rfl))
  have ix : ∀ k : Int, (0 ≤ k ∧ k ≤ 5) → vp_in (Int32.ofInt i + Int32.ofInt k) L := fun k hk => zx_ix h0 hk hi (by omega) rfl
  obtain ⟨a1, e1⟩ : ∃ q, q = (xs ((Int32.ofInt i + Int32.ofInt 1).toNatClampNeg)).toInt := ⟨_, rfl⟩
  have r1 : -2147483648 ≤ a1 ∧ a1 ≤ 2147483647 := by rw [e1]; exact ⟨Int32.le_toInt _, Int32.toInt_le _⟩
  have s1 : xs ((Int32.ofInt i + Int32.ofInt 1).toNatClampNeg) = Int32.ofInt a1 := by rw [e1]; exact zx_self _
  obtain ⟨a2, e2⟩ : ∃ q, q = (xs ((Int32.ofInt i + Int32.ofInt 2).toNatClampNeg)).toInt := ⟨_, rfl⟩
  have r2 : -2147483648 ≤ a2 ∧ a2 ≤ 2147483647 := by rw [e2]; exact ⟨Int32.le_toInt _, Int32.toInt_le _⟩
  have s2 : xs ((Int32.ofInt i + Int32.ofInt 2).toNatClampNeg) = Int32.ofInt a2 := by rw [e2]; exact zx_self _
  have p1 : z_reach (z_sem zn (d + 60)) (some (L, xs), zn) B 1 (1537, zfr i o5 o6, [], zk c m) (1550, zfr i o5 o6, [.int (Int32.ofInt a2), .int (Int32.ofInt a1), .ref 0], zk c m) := by
    rw [← s1, ← s2]
    exact ⟨[zo, zo, zo, zo, zo, zo, zo, zo, zo, zo, zo], _, rfl, ⟨trivial, trivial, trivial, trivial, trivial, ix 1 (by omega), trivial, trivial, trivial, trivial, ix 2 (by omega), trivial⟩⟩
  obtain ⟨v1, hs1, hr1⟩ := S_X11_seen zn (d + 58) hN hC a1 a2 m hI (by omega) (by omega)
  obtain ⟨m1, e1⟩ : ∃ q, q = m := ⟨_, rfl⟩
  have hI1 : zI c m m1 := by rw [e1]; exact hI
  have k1 : zH (t + 60) m1 := by rw [e1]; exact zH_le hH (by omega)
  obtain ⟨hJ1, hI1'⟩ := zV_class hJ hI1
  have p2 : z_reach (z_sem zn (d + 60)) (some (L, xs), zn) B 1 (1550, zfr i o5 o6, [.int (Int32.ofInt a2), .int (Int32.ofInt a1), .ref 0], zk c m) (1554, zfr i o5 o6, [], zk c m1) :=
    ⟨[zc (some (.int (Int32.ofInt v1))) (zk c m1), zo], _, rfl, ⟨⟨(Nat.lt_of_lt_of_le (Nat.le_of_ble_eq_true rfl) hN), (Nat.le_of_ble_eq_true rfl)⟩, (by rw [e1]; exact hs1), (Nat.le_of_ble_eq_true rfl), Nat.le_refl _, Nat.le_refl _, hB.1, hB.2⟩, trivial, trivial⟩
  have p3 : z_reach (z_sem zn (d + 60)) (some (L, xs), zn) B 1 (1554, zfr i o5 o6, [], zk c m1) (1567, zfr i o5 o6, [.int (Int32.ofInt a2), .int (Int32.ofInt a1), .ref 79], zk c m1) := by
    rw [← s1, ← s2]
    exact ⟨[zo, zo, zo, zo, zo, zo, zo, zo, zo, zo, zo], _, rfl, ⟨trivial, trivial, trivial, trivial, trivial, ix 1 (by omega), trivial, trivial, trivial, trivial, ix 2 (by omega), trivial⟩⟩
  obtain ⟨v2, m2, hs2, hJ2, hr2⟩ := S_X12_seen zn (d + 56) hN hC a1 a2 m1 hJ1 (by omega) (by omega)
  have p4 : z_reach (z_sem zn (d + 60)) (some (L, xs), zn) B 1 (1567, zfr i o5 o6, [.int (Int32.ofInt a2), .int (Int32.ofInt a1), .ref 79], zk c m1) (1687, zfr i o5 o6, [], zk c m2) :=
    ⟨[zc (some (.int (Int32.ofInt v2))) (zk c m2), zo, zo], _, rfl, ⟨⟨(Nat.lt_of_lt_of_le (Nat.le_of_ble_eq_true rfl) hN), (Nat.le_of_ble_eq_true rfl)⟩, hs2, (Nat.le_of_ble_eq_true rfl), Nat.le_refl _, Nat.le_refl _, hB.1, hB.2⟩, trivial, trivial, trivial⟩
  have hJ3 : zJ m1 (t + 60) 0 m2 := by first | exact hJ2 | exact zJ_le hJ2 (by omega)
  obtain ⟨w1, w2, w3⟩ := zV_model (t1 := t + 60) hI1' k1 (by omega) hJ3
  exact ⟨m2, o5, o6, ((p1.trans p2).trans p3).trans p4, w1, w2, w3, zV_rt hI hK hI1 hJ3⟩
set_option maxRecDepth 100000 in
set_option maxHeartbeats 4000000 in
theorem zk39 (zn : Bool) (d L : Nat) (xs : Nat → Int32) (B : Nat × Nat) (i t : Int) (h0 : 0 ≤ i) (hi : i + 6 ≤ L) (hL : L ≤ 3072) (ht : 0 ≤ t ∧ t ≤ 40000) (o5 o6 : Option Value) {c : Nat × Nat} {m : zM} (hN : 107 ≤ c.1) (hC : c.1 < z_RO) (hB : c.1 ≤ B.1 ∧ c.2 ≤ B.2) (hV : zOP c m t) :
    ∃ (m2 : zM) (o5' o6' : Option Value), z_reach (z_sem zn (d + 60)) (some (L, xs), zn) B 1 (1574, zfr i o5 o6, [], zk c m) (1687, zfr i o5' o6', [], zk c m2) ∧ zOP c m2 (t + 60) := by
  obtain ⟨hI, hH, hJ, hK⟩ := hV
  have g17 : (0 : Int) ≤ m 17 184 ∧ m 17 184 ≤ 1000000000 := hI.1 17 184
  have w17 : m 17 184 ≤ t := hH 17 (Or.inr (Or.inl rfl))
  have ix : ∀ k : Int, (0 ≤ k ∧ k ≤ 5) → vp_in (Int32.ofInt i + Int32.ofInt k) L := fun k hk => zx_ix h0 hk hi (by omega) rfl
  obtain ⟨a1, e1⟩ : ∃ q, q = (xs ((Int32.ofInt i + Int32.ofInt 1).toNatClampNeg)).toInt := ⟨_, rfl⟩
  have r1 : -2147483648 ≤ a1 ∧ a1 ≤ 2147483647 := by rw [e1]; exact ⟨Int32.le_toInt _, Int32.toInt_le _⟩
  have s1 : xs ((Int32.ofInt i + Int32.ofInt 1).toNatClampNeg) = Int32.ofInt a1 := by rw [e1]; exact zx_self _
  have p1 : z_reach (z_sem zn (d + 60)) (some (L, xs), zn) B 1 (1574, zfr i o5 o6, [], zk c m) (1581, zfr i o5 o6, [.int (Int32.ofInt a1), .ref 0], zk c m) := by
    rw [← s1]
    exact ⟨[zo, zo, zo, zo, zo, zo], _, rfl, ⟨trivial, trivial, trivial, trivial, trivial, ix 1 (by omega), trivial⟩⟩
  obtain ⟨v1, m1, hs1, hI1, hr1⟩ := S_X11_looks zn (d + 54) hN hC a1 m hI (by omega)
  have k1 : zH (t + 60) m1 := by first | exact zH_le (zH_N hH hr1) (by omega) | exact zH_le (zH_N hH hr1.2) (by omega) | exact zH_le (zH_N hH hr1.2.2) (by omega) | exact zH_le (zH_N hH hr1.2.2.2) (by omega) | exact zH_le hr1 (by omega) | exact zH_le hr1.2 (by omega) | exact zH_le hr1.2.2 (by omega) | exact (fun p hp => by have q := hr1.2 p hp (by unfold zQ at hp; omega); have w := hH p hp; omega) | exact (fun p hp => by have q := hr1.2.2 p hp (by unfold zQ at hp; omega); have w := hH p hp; omega)
  obtain ⟨hJ1, hI1'⟩ := zV_class hJ hI1
  have p2 : z_reach (z_sem zn (d + 60)) (some (L, xs), zn) B 1 (1581, zfr i o5 o6, [.int (Int32.ofInt a1), .ref 0], zk c m) (1585, zfr i o5 o6, [], zk c m1) :=
    ⟨[zc (some (.int (Int32.ofInt v1))) (zk c m1), zo], _, rfl, ⟨⟨(Nat.lt_of_lt_of_le (Nat.le_of_ble_eq_true rfl) hN), (Nat.le_of_ble_eq_true rfl)⟩, hs1, (Nat.le_of_ble_eq_true rfl), Nat.le_refl _, Nat.le_refl _, hB.1, hB.2⟩, trivial, trivial⟩
  have p3 : z_reach (z_sem zn (d + 60)) (some (L, xs), zn) B 1 (1585, zfr i o5 o6, [], zk c m1) (1592, zfr i o5 o6, [.int (Int32.ofInt a1), .ref 79], zk c m1) := by
    rw [← s1]
    exact ⟨[zo, zo, zo, zo, zo, zo], _, rfl, ⟨trivial, trivial, trivial, trivial, trivial, ix 1 (by omega), trivial⟩⟩
  obtain ⟨v2, m2, hs2, hJ2, hr2⟩ := S_X12_looks zn (d + 24) hN hC a1 m1 hJ1 (by omega)
  have p4 : z_reach (z_sem zn (d + 60)) (some (L, xs), zn) B 1 (1592, zfr i o5 o6, [.int (Int32.ofInt a1), .ref 79], zk c m1) (1687, zfr i o5 o6, [], zk c m2) :=
    ⟨[zc (some (.int (Int32.ofInt v2))) (zk c m2), zo, zo], _, rfl, ⟨⟨(Nat.lt_of_lt_of_le (Nat.le_of_ble_eq_true rfl) hN), (Nat.le_of_ble_eq_true rfl)⟩, hs2, (Nat.le_of_ble_eq_true rfl), Nat.le_refl _, Nat.le_refl _, hB.1, hB.2⟩, trivial, trivial, trivial⟩
  have hJ3 : zJ m1 (t + 60) 0 m2 := by first | exact hJ2 | exact zJ_le hJ2 (by omega)
  obtain ⟨w1, w2, w3⟩ := zV_model (t1 := t + 60) hI1' k1 (by omega) hJ3
  exact ⟨m2, o5, o6, ((p1.trans p2).trans p3).trans p4, w1, w2, w3, zV_rt hI hK hI1 hJ3⟩
set_option maxRecDepth 100000 in
set_option maxHeartbeats 4000000 in
theorem zk40 (zn : Bool) (d L : Nat) (xs : Nat → Int32) (B : Nat × Nat) (i t : Int) (h0 : 0 ≤ i) (hi : i + 6 ≤ L) (hL : L ≤ 3072) (ht : 0 ≤ t ∧ t ≤ 40000) (o5 o6 : Option Value) {c : Nat × Nat} {m : zM} (hN : 107 ≤ c.1) (hC : c.1 < z_RO) (hB : c.1 ≤ B.1 ∧ c.2 ≤ B.2) (hV : zOP c m t) :
    ∃ (m2 : zM) (o5' o6' : Option Value), z_reach (z_sem zn (d + 60)) (some (L, xs), zn) B 1 (1599, zfr i o5 o6, [], zk c m) (1687, zfr i o5' o6', [], zk c m2) ∧ zOP c m2 (t + 60) := by
  obtain ⟨hI, hH, hJ, hK⟩ := hV
  have g17 : (0 : Int) ≤ m 17 184 ∧ m 17 184 ≤ 1000000000 := hI.1 17 184
  have w17 : m 17 184 ≤ t := hH 17 (Or.inr (Or.inl rfl))
  have ix : ∀ k : Int, (0 ≤ k ∧ k ≤ 5) → vp_in (Int32.ofInt i + Int32.ofInt k) L := fun k hk => zx_ix h0 hk hi (by omega) rfl
  obtain ⟨a1, e1⟩ : ∃ q, q = (xs ((Int32.ofInt i + Int32.ofInt 1).toNatClampNeg)).toInt := ⟨_, rfl⟩
  have r1 : -2147483648 ≤ a1 ∧ a1 ≤ 2147483647 := by rw [e1]; exact ⟨Int32.le_toInt _, Int32.toInt_le _⟩
  have s1 : xs ((Int32.ofInt i + Int32.ofInt 1).toNatClampNeg) = Int32.ofInt a1 := by rw [e1]; exact zx_self _
  obtain ⟨a2, e2⟩ : ∃ q, q = (xs ((Int32.ofInt i + Int32.ofInt 2).toNatClampNeg)).toInt := ⟨_, rfl⟩
  have r2 : -2147483648 ≤ a2 ∧ a2 ≤ 2147483647 := by rw [e2]; exact ⟨Int32.le_toInt _, Int32.toInt_le _⟩
  have s2 : xs ((Int32.ofInt i + Int32.ofInt 2).toNatClampNeg) = Int32.ofInt a2 := by rw [e2]; exact zx_self _
  have p1 : z_reach (z_sem zn (d + 60)) (some (L, xs), zn) B 1 (1599, zfr i o5 o6, [], zk c m) (1612, zfr i o5 o6, [.int (Int32.ofInt a2), .int (Int32.ofInt a1), .ref 0], zk c m) := by
    rw [← s1, ← s2]
    exact ⟨[zo, zo, zo, zo, zo, zo, zo, zo, zo, zo, zo], _, rfl, ⟨trivial, trivial, trivial, trivial, trivial, ix 1 (by omega), trivial, trivial, trivial, trivial, ix 2 (by omega), trivial⟩⟩
  obtain ⟨v1, hs1, hr1⟩ := S_X11_child zn (d + 57) hN hC a1 a2 m hI (by omega) (by omega)
  obtain ⟨m1, e1⟩ : ∃ q, q = m := ⟨_, rfl⟩
  have hI1 : zI c m m1 := by rw [e1]; exact hI
  have k1 : zH (t + 60) m1 := by rw [e1]; exact zH_le hH (by omega)
  obtain ⟨hJ1, hI1'⟩ := zV_class hJ hI1
  have p2 : z_reach (z_sem zn (d + 60)) (some (L, xs), zn) B 1 (1612, zfr i o5 o6, [.int (Int32.ofInt a2), .int (Int32.ofInt a1), .ref 0], zk c m) (1616, zfr i o5 o6, [], zk c m1) :=
    ⟨[zc (some (.int (Int32.ofInt v1))) (zk c m1), zo], _, rfl, ⟨⟨(Nat.lt_of_lt_of_le (Nat.le_of_ble_eq_true rfl) hN), (Nat.le_of_ble_eq_true rfl)⟩, (by rw [e1]; exact hs1), (Nat.le_of_ble_eq_true rfl), Nat.le_refl _, Nat.le_refl _, hB.1, hB.2⟩, trivial, trivial⟩
  have p3 : z_reach (z_sem zn (d + 60)) (some (L, xs), zn) B 1 (1616, zfr i o5 o6, [], zk c m1) (1629, zfr i o5 o6, [.int (Int32.ofInt a2), .int (Int32.ofInt a1), .ref 79], zk c m1) := by
    rw [← s1, ← s2]
    exact ⟨[zo, zo, zo, zo, zo, zo, zo, zo, zo, zo, zo], _, rfl, ⟨trivial, trivial, trivial, trivial, trivial, ix 1 (by omega), trivial, trivial, trivial, trivial, ix 2 (by omega), trivial⟩⟩
  obtain ⟨v2, m2, hs2, hJ2, hr2⟩ := S_X12_child zn (d + 58) hN hC a1 a2 m1 hJ1 (by omega) (by omega)
  have p4 : z_reach (z_sem zn (d + 60)) (some (L, xs), zn) B 1 (1629, zfr i o5 o6, [.int (Int32.ofInt a2), .int (Int32.ofInt a1), .ref 79], zk c m1) (1687, zfr i o5 o6, [], zk c m2) :=
    ⟨[zc (some (.int (Int32.ofInt v2))) (zk c m2), zo, zo], _, rfl, ⟨⟨(Nat.lt_of_lt_of_le (Nat.le_of_ble_eq_true rfl) hN), (Nat.le_of_ble_eq_true rfl)⟩, hs2, (Nat.le_of_ble_eq_true rfl), Nat.le_refl _, Nat.le_refl _, hB.1, hB.2⟩, trivial, trivial, trivial⟩
  have hJ3 : zJ m1 (t + 60) 0 m2 := by first | exact hJ2 | exact zJ_le hJ2 (by omega)
  obtain ⟨w1, w2, w3⟩ := zV_model (t1 := t + 60) hI1' k1 (by omega) hJ3
  exact ⟨m2, o5, o6, ((p1.trans p2).trans p3).trans p4, w1, w2, w3, zV_rt hI hK hI1 hJ3⟩
set_option maxRecDepth 100000 in
set_option maxHeartbeats 4000000 in
theorem zk41 (zn : Bool) (d L : Nat) (xs : Nat → Int32) (B : Nat × Nat) (i t : Int) (h0 : 0 ≤ i) (hi : i + 6 ≤ L) (hL : L ≤ 3072) (ht : 0 ≤ t ∧ t ≤ 40000) (o5 o6 : Option Value) {c : Nat × Nat} {m : zM} (hN : 107 ≤ c.1) (hC : c.1 < z_RO) (hB : c.1 ≤ B.1 ∧ c.2 ≤ B.2) (hV : zOP c m t) :
    ∃ (m2 : zM) (o5' o6' : Option Value), z_reach (z_sem zn (d + 60)) (some (L, xs), zn) B 1 (1636, zfr i o5 o6, [], zk c m) (1687, zfr i o5' o6', [], zk c m2) ∧ zOP c m2 (t + 60) := by
  obtain ⟨hI, hH, hJ, hK⟩ := hV
  have g17 : (0 : Int) ≤ m 17 184 ∧ m 17 184 ≤ 1000000000 := hI.1 17 184
  have w17 : m 17 184 ≤ t := hH 17 (Or.inr (Or.inl rfl))
  have ix : ∀ k : Int, (0 ≤ k ∧ k ≤ 5) → vp_in (Int32.ofInt i + Int32.ofInt k) L := fun k hk => zx_ix h0 hk hi (by omega) rfl
  have p1 : z_reach (z_sem zn (d + 60)) (some (L, xs), zn) B 1 (1636, zfr i o5 o6, [], zk c m) (1637, zfr i o5 o6, [.ref 0], zk c m) := by
    exact ⟨[zo], _, rfl, ⟨trivial, trivial⟩⟩
  obtain ⟨v1, m1, hs1, hI1, hr1⟩ := S_X11_image zn (d + 58) hN hC t m hI (by omega) hH
  have k1 : zH (t + 60) m1 := by first | exact zH_le (zH_N hH hr1) (by omega) | exact zH_le (zH_N hH hr1.2) (by omega) | exact zH_le (zH_N hH hr1.2.2) (by omega) | exact zH_le (zH_N hH hr1.2.2.2) (by omega) | exact zH_le hr1 (by omega) | exact zH_le hr1.2 (by omega) | exact zH_le hr1.2.2 (by omega) | exact (fun p hp => by have q := hr1.2 p hp (by unfold zQ at hp; omega); have w := hH p hp; omega) | exact (fun p hp => by have q := hr1.2.2 p hp (by unfold zQ at hp; omega); have w := hH p hp; omega)
  obtain ⟨hJ1, hI1'⟩ := zV_class hJ hI1
  have p2 : z_reach (z_sem zn (d + 60)) (some (L, xs), zn) B 1 (1637, zfr i o5 o6, [.ref 0], zk c m) (1641, zfr i o5 o6, [], zk c m1) :=
    ⟨[zc (some (.int (Int32.ofInt v1))) (zk c m1), zo], _, rfl, ⟨⟨(Nat.lt_of_lt_of_le (Nat.le_of_ble_eq_true rfl) hN), (Nat.le_of_ble_eq_true rfl)⟩, hs1, (Nat.le_of_ble_eq_true rfl), Nat.le_refl _, Nat.le_refl _, hB.1, hB.2⟩, trivial, trivial⟩
  have p3 : z_reach (z_sem zn (d + 60)) (some (L, xs), zn) B 1 (1641, zfr i o5 o6, [], zk c m1) (1642, zfr i o5 o6, [.ref 79], zk c m1) := by
    exact ⟨[zo], _, rfl, ⟨trivial, trivial⟩⟩
  obtain ⟨v2, m2, hs2, hJ2, hr2⟩ := S_X12_image zn (d + 58) hN hC m1 hJ1
  have p4 : z_reach (z_sem zn (d + 60)) (some (L, xs), zn) B 1 (1642, zfr i o5 o6, [.ref 79], zk c m1) (1687, zfr i o5 o6, [], zk c m2) :=
    ⟨[zc (some (.int (Int32.ofInt v2))) (zk c m2), zo, zo], _, rfl, ⟨⟨(Nat.lt_of_lt_of_le (Nat.le_of_ble_eq_true rfl) hN), (Nat.le_of_ble_eq_true rfl)⟩, hs2, (Nat.le_of_ble_eq_true rfl), Nat.le_refl _, Nat.le_refl _, hB.1, hB.2⟩, trivial, trivial, trivial⟩
  have hJ3 : zJ m1 (t + 60) 0 m2 := by first | exact hJ2 | exact zJ_le hJ2 (by omega)
  obtain ⟨w1, w2, w3⟩ := zV_model (t1 := t + 60) hI1' k1 (by omega) hJ3
  exact ⟨m2, o5, o6, ((p1.trans p2).trans p3).trans p4, w1, w2, w3, zV_rt hI hK hI1 hJ3⟩
set_option maxRecDepth 100000 in
set_option maxHeartbeats 4000000 in
theorem zk42 (zn : Bool) (d L : Nat) (xs : Nat → Int32) (B : Nat × Nat) (i t : Int) (h0 : 0 ≤ i) (hi : i + 6 ≤ L) (hL : L ≤ 3072) (ht : 0 ≤ t ∧ t ≤ 40000) (o5 o6 : Option Value) {c : Nat × Nat} {m : zM} (hN : 107 ≤ c.1) (hC : c.1 < z_RO) (hB : c.1 ≤ B.1 ∧ c.2 ≤ B.2) (hV : zOP c m t) :
    ∃ (m2 : zM) (o5' o6' : Option Value), z_reach (z_sem zn (d + 60)) (some (L, xs), zn) B 1 (1649, zfr i o5 o6, [], zk c m) (1687, zfr i o5' o6', [], zk c m2) ∧ zOP c m2 (t + 60) := by
  obtain ⟨hI, hH, hJ, hK⟩ := hV
  have g17 : (0 : Int) ≤ m 17 184 ∧ m 17 184 ≤ 1000000000 := hI.1 17 184
  have w17 : m 17 184 ≤ t := hH 17 (Or.inr (Or.inl rfl))
  have ix : ∀ k : Int, (0 ≤ k ∧ k ≤ 5) → vp_in (Int32.ofInt i + Int32.ofInt k) L := fun k hk => zx_ix h0 hk hi (by omega) rfl
  have p1 : z_reach (z_sem zn (d + 60)) (some (L, xs), zn) B 1 (1649, zfr i o5 o6, [], zk c m) (1650, zfr i o5 o6, [.ref 0], zk c m) := by
    exact ⟨[zo], _, rfl, ⟨trivial, trivial⟩⟩
  obtain ⟨v1, m1, hs1, hI1, hr1⟩ := S_X11_back zn (d + 58) hN hC t m hI (by omega) hH
  have k1 : zH (t + 60) m1 := by first | exact zH_le (zH_N hH hr1) (by omega) | exact zH_le (zH_N hH hr1.2) (by omega) | exact zH_le (zH_N hH hr1.2.2) (by omega) | exact zH_le (zH_N hH hr1.2.2.2) (by omega) | exact zH_le hr1 (by omega) | exact zH_le hr1.2 (by omega) | exact zH_le hr1.2.2 (by omega) | exact (fun p hp => by have q := hr1.2 p hp (by unfold zQ at hp; omega); have w := hH p hp; omega) | exact (fun p hp => by have q := hr1.2.2 p hp (by unfold zQ at hp; omega); have w := hH p hp; omega)
  obtain ⟨hJ1, hI1'⟩ := zV_class hJ hI1
  have p2 : z_reach (z_sem zn (d + 60)) (some (L, xs), zn) B 1 (1650, zfr i o5 o6, [.ref 0], zk c m) (1654, zfr i o5 o6, [], zk c m1) :=
    ⟨[zc (some (.int (Int32.ofInt v1))) (zk c m1), zo], _, rfl, ⟨⟨(Nat.lt_of_lt_of_le (Nat.le_of_ble_eq_true rfl) hN), (Nat.le_of_ble_eq_true rfl)⟩, hs1, (Nat.le_of_ble_eq_true rfl), Nat.le_refl _, Nat.le_refl _, hB.1, hB.2⟩, trivial, trivial⟩
  have p3 : z_reach (z_sem zn (d + 60)) (some (L, xs), zn) B 1 (1654, zfr i o5 o6, [], zk c m1) (1655, zfr i o5 o6, [.ref 79], zk c m1) := by
    exact ⟨[zo], _, rfl, ⟨trivial, trivial⟩⟩
  obtain ⟨v2, m2, hs2, hJ2, hr2⟩ := S_X12_back zn (d + 58) hN hC m1 hJ1
  have p4 : z_reach (z_sem zn (d + 60)) (some (L, xs), zn) B 1 (1655, zfr i o5 o6, [.ref 79], zk c m1) (1687, zfr i o5 o6, [], zk c m2) :=
    ⟨[zc (some (.int (Int32.ofInt v2))) (zk c m2), zo, zo], _, rfl, ⟨⟨(Nat.lt_of_lt_of_le (Nat.le_of_ble_eq_true rfl) hN), (Nat.le_of_ble_eq_true rfl)⟩, hs2, (Nat.le_of_ble_eq_true rfl), Nat.le_refl _, Nat.le_refl _, hB.1, hB.2⟩, trivial, trivial, trivial⟩
  have hJ3 : zJ m1 (t + 60) 0 m2 := by first | exact hJ2 | exact zJ_le hJ2 (by omega)
  obtain ⟨w1, w2, w3⟩ := zV_model (t1 := t + 60) hI1' k1 (by omega) hJ3
  exact ⟨m2, o5, o6, ((p1.trans p2).trans p3).trans p4, w1, w2, w3, zV_rt hI hK hI1 hJ3⟩
set_option maxRecDepth 100000 in
set_option maxHeartbeats 4000000 in
theorem zk43 (zn : Bool) (d L : Nat) (xs : Nat → Int32) (B : Nat × Nat) (i t : Int) (h0 : 0 ≤ i) (hi : i + 6 ≤ L) (hL : L ≤ 3072) (ht : 0 ≤ t ∧ t ≤ 40000) (o5 o6 : Option Value) {c : Nat × Nat} {m : zM} (hN : 107 ≤ c.1) (hC : c.1 < z_RO) (hB : c.1 ≤ B.1 ∧ c.2 ≤ B.2) (hV : zOP c m t) :
    ∃ (m2 : zM) (o5' o6' : Option Value), z_reach (z_sem zn (d + 60)) (some (L, xs), zn) B 1 (1662, zfr i o5 o6, [], zk c m) (1687, zfr i o5' o6', [], zk c m2) ∧ zOP c m2 (t + 60) := by
  obtain ⟨hI, hH, hJ, hK⟩ := hV
  have g17 : (0 : Int) ≤ m 17 184 ∧ m 17 184 ≤ 1000000000 := hI.1 17 184
  have w17 : m 17 184 ≤ t := hH 17 (Or.inr (Or.inl rfl))
  have ix : ∀ k : Int, (0 ≤ k ∧ k ≤ 5) → vp_in (Int32.ofInt i + Int32.ofInt k) L := fun k hk => zx_ix h0 hk hi (by omega) rfl
  obtain ⟨a1, e1⟩ : ∃ q, q = (xs ((Int32.ofInt i + Int32.ofInt 1).toNatClampNeg)).toInt := ⟨_, rfl⟩
  have r1 : -2147483648 ≤ a1 ∧ a1 ≤ 2147483647 := by rw [e1]; exact ⟨Int32.le_toInt _, Int32.toInt_le _⟩
  have s1 : xs ((Int32.ofInt i + Int32.ofInt 1).toNatClampNeg) = Int32.ofInt a1 := by rw [e1]; exact zx_self _
  have p1 : z_reach (z_sem zn (d + 60)) (some (L, xs), zn) B 1 (1662, zfr i o5 o6, [], zk c m) (1669, zfr i o5 o6, [.int (Int32.ofInt a1), .ref 0], zk c m) := by
    rw [← s1]
    exact ⟨[zo, zo, zo, zo, zo, zo], _, rfl, ⟨trivial, trivial, trivial, trivial, trivial, ix 1 (by omega), trivial⟩⟩
  obtain ⟨v1, hs1, hr1⟩ := S_X11_count zn (d + 57) hN hC a1 m hI (by omega)
  obtain ⟨m1, e1⟩ : ∃ q, q = m := ⟨_, rfl⟩
  have hI1 : zI c m m1 := by rw [e1]; exact hI
  have k1 : zH (t + 60) m1 := by rw [e1]; exact zH_le hH (by omega)
  obtain ⟨hJ1, hI1'⟩ := zV_class hJ hI1
  have p2 : z_reach (z_sem zn (d + 60)) (some (L, xs), zn) B 1 (1669, zfr i o5 o6, [.int (Int32.ofInt a1), .ref 0], zk c m) (1673, zfr i o5 o6, [], zk c m1) :=
    ⟨[zc (some (.int (Int32.ofInt v1))) (zk c m1), zo], _, rfl, ⟨⟨(Nat.lt_of_lt_of_le (Nat.le_of_ble_eq_true rfl) hN), (Nat.le_of_ble_eq_true rfl)⟩, (by rw [e1]; exact hs1), (Nat.le_of_ble_eq_true rfl), Nat.le_refl _, Nat.le_refl _, hB.1, hB.2⟩, trivial, trivial⟩
  have p3 : z_reach (z_sem zn (d + 60)) (some (L, xs), zn) B 1 (1673, zfr i o5 o6, [], zk c m1) (1680, zfr i o5 o6, [.int (Int32.ofInt a1), .ref 79], zk c m1) := by
    rw [← s1]
    exact ⟨[zo, zo, zo, zo, zo, zo], _, rfl, ⟨trivial, trivial, trivial, trivial, trivial, ix 1 (by omega), trivial⟩⟩
  obtain ⟨v2, m2, hs2, hJ2, hr2⟩ := S_X12_count zn (d + 58) hN hC a1 m1 hJ1 (by omega)
  have p4 : z_reach (z_sem zn (d + 60)) (some (L, xs), zn) B 1 (1680, zfr i o5 o6, [.int (Int32.ofInt a1), .ref 79], zk c m1) (1687, zfr i o5 o6, [], zk c m2) :=
    ⟨[zc (some (.int (Int32.ofInt v2))) (zk c m2), zo, zo], _, rfl, ⟨⟨(Nat.lt_of_lt_of_le (Nat.le_of_ble_eq_true rfl) hN), (Nat.le_of_ble_eq_true rfl)⟩, hs2, (Nat.le_of_ble_eq_true rfl), Nat.le_refl _, Nat.le_refl _, hB.1, hB.2⟩, trivial, trivial, trivial⟩
  have hJ3 : zJ m1 (t + 60) 0 m2 := by first | exact hJ2 | exact zJ_le hJ2 (by omega)
  obtain ⟨w1, w2, w3⟩ := zV_model (t1 := t + 60) hI1' k1 (by omega) hJ3
  exact ⟨m2, o5, o6, ((p1.trans p2).trans p3).trans p4, w1, w2, w3, zV_rt hI hK hI1 hJ3⟩
