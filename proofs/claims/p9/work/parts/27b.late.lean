/-! THE LAW'S CASES that write what is kept, or are compared (wip/tools/gw5/law5.py) -/
set_option maxRecDepth 100000 in
set_option maxHeartbeats 4000000 in
theorem zk0 (zn : Bool) (d L : Nat) (xs : Nat → Int32) (B : Nat × Nat) (i t : Int) (h0 : 0 ≤ i) (hi : i + 6 ≤ L) (hL : L ≤ 3072) (ht : 0 ≤ t ∧ t ≤ 40000) (o5 o6 : Option Value) {c : Nat × Nat} {m : zM} (hN : 107 ≤ c.1) (hC : c.1 < z_RO) (hB : c.1 ≤ B.1 ∧ c.2 ≤ B.2) (hV : zOP c m t) :
    ∃ (m2 : zM) (o5' o6' : Option Value), z_reach (z_sem zn (d + 60)) (some (L, xs), zn) B 1 (232, zfr i o5 o6, [], zk c m) (1687, zfr i o5' o6', [], zk c m2) ∧ zOP c m2 (t + 60) := by
  obtain ⟨hI, hH, hJ, hK⟩ := hV
  have hB1 := hB
  have ix : ∀ k : Int, (0 ≤ k ∧ k ≤ 5) → vp_in (Int32.ofInt i + Int32.ofInt k) L := fun k hk => zx_ix h0 hk hi (by omega) rfl
  obtain ⟨a1, e1⟩ : ∃ q, q = (xs ((Int32.ofInt i + Int32.ofInt 1).toNatClampNeg)).toInt := ⟨_, rfl⟩
  have r1 : -2147483648 ≤ a1 ∧ a1 ≤ 2147483647 := by rw [e1]; exact ⟨Int32.le_toInt _, Int32.toInt_le _⟩
  have s1 : xs ((Int32.ofInt i + Int32.ofInt 1).toNatClampNeg) = Int32.ofInt a1 := by rw [e1]; exact zx_self _
  obtain ⟨a2, e2⟩ : ∃ q, q = (xs ((Int32.ofInt i + Int32.ofInt 2).toNatClampNeg)).toInt := ⟨_, rfl⟩
  have r2 : -2147483648 ≤ a2 ∧ a2 ≤ 2147483647 := by rw [e2]; exact ⟨Int32.le_toInt _, Int32.toInt_le _⟩
  have s2 : xs ((Int32.ofInt i + Int32.ofInt 2).toNatClampNeg) = Int32.ofInt a2 := by rw [e2]; exact zx_self _
  obtain ⟨a3, e3⟩ : ∃ q, q = (xs ((Int32.ofInt i + Int32.ofInt 3).toNatClampNeg)).toInt := ⟨_, rfl⟩
  have r3 : -2147483648 ≤ a3 ∧ a3 ≤ 2147483647 := by rw [e3]; exact ⟨Int32.le_toInt _, Int32.toInt_le _⟩
  have s3 : xs ((Int32.ofInt i + Int32.ofInt 3).toNatClampNeg) = Int32.ofInt a3 := by rw [e3]; exact zx_self _
  obtain ⟨a4, e4⟩ : ∃ q, q = (xs ((Int32.ofInt i + Int32.ofInt 4).toNatClampNeg)).toInt := ⟨_, rfl⟩
  have r4 : -2147483648 ≤ a4 ∧ a4 ≤ 2147483647 := by rw [e4]; exact ⟨Int32.le_toInt _, Int32.toInt_le _⟩
  have s4 : xs ((Int32.ofInt i + Int32.ofInt 4).toNatClampNeg) = Int32.ofInt a4 := by rw [e4]; exact zx_self _
  obtain ⟨a5, e5⟩ : ∃ q, q = (xs ((Int32.ofInt i + Int32.ofInt 5).toNatClampNeg)).toInt := ⟨_, rfl⟩
  have r5 : -2147483648 ≤ a5 ∧ a5 ≤ 2147483647 := by rw [e5]; exact ⟨Int32.le_toInt _, Int32.toInt_le _⟩
  have s5 : xs ((Int32.ofInt i + Int32.ofInt 5).toNatClampNeg) = Int32.ofInt a5 := by rw [e5]; exact zx_self _
  have p1 : z_reach (z_sem zn (d + 60)) (some (L, xs), zn) B 1 (232, zfr i o5 o6, [], zk c m) (263, zfr i o5 o6, [.int (Int32.ofInt a5), .int (Int32.ofInt a4), .int (Int32.ofInt a3), .int (Int32.ofInt a2), .int (Int32.ofInt a1), .ref 0], zk c m) := by
    rw [← s1, ← s2, ← s3, ← s4, ← s5]
    exact ⟨[zo, zo, zo, zo, zo, zo, zo, zo, zo, zo, zo, zo, zo, zo, zo, zo, zo, zo, zo, zo, zo, zo, zo, zo, zo, zo], _, rfl, ⟨trivial, trivial, trivial, trivial, trivial, ix 1 (by omega), trivial, trivial, trivial, trivial, ix 2 (by omega), trivial, trivial, trivial, trivial, ix 3 (by omega), trivial, trivial, trivial, trivial, ix 4 (by omega), trivial, trivial, trivial, trivial, ix 5 (by omega), trivial⟩⟩
  obtain ⟨v1, m1, hs1, hI1, c_q, c_f0, c_f1, c_t, c_kN, c_kD⟩ := S_X11_feed zn (d + 58) hN hC a1 a2 a3 a4 a5 m hI (by omega) (by omega) (by omega) (by omega) (by omega)
  have hK1 := hK.2.1
  have hK3 := hK.2.2.2.1
  have hK4 := hK.2.2.2.2.1
  have hK5 := hK.2.2.2.2.2
  have g4 : ∀ p i, 79 ≤ p → p ≤ 105 → m1 p i = m p i := fun p i a b => c_kD p i (by omega)
  have hJ1 := zV_classF hJ hI1.1 g4
  have g6 := g4 79 6 (by omega) (by omega)
  have g26 := g4 79 26 (by omega) (by omega)
  have g53 := g4 79 53 (by omega) (by omega)
  have g34 := g4 79 34 (by omega) (by omega)
  obtain ⟨v2, m2, hs2, hJ2, m_q, m_f0, m_f1, m_t, m_kY, m_kD⟩ := S_X12_feed zn (d + 58) hN hC a1 a2 a3 a4 a5 m1 hJ1 (by omega) (by omega) (by omega) (by omega) (by omega)
  obtain ⟨hR, hE⟩ := zRT_feed hK c_t c_kD m_t m_kD
  have p2 : z_reach (z_sem zn (d + 60)) (some (L, xs), zn) B 1 (263, zfr i o5 o6, [.int (Int32.ofInt a5), .int (Int32.ofInt a4), .int (Int32.ofInt a3), .int (Int32.ofInt a2), .int (Int32.ofInt a1), .ref 0], zk c m) (267, zfr i o5 o6, [], zk c m1) :=
    ⟨[zc (some (.int (Int32.ofInt v1))) (zk c m1), zo], _, rfl, ⟨⟨⟨(Nat.lt_of_lt_of_le (Nat.le_of_ble_eq_true rfl) hN), (Nat.le_of_ble_eq_true rfl)⟩, hs1, (Nat.le_of_ble_eq_true rfl), Nat.le_refl _, Nat.le_refl _, hB1.1, hB1.2⟩, trivial, trivial⟩⟩
  have p3 : z_reach (z_sem zn (d + 60)) (some (L, xs), zn) B 1 (267, zfr i o5 o6, [], zk c m1) (298, zfr i o5 o6, [.int (Int32.ofInt a5), .int (Int32.ofInt a4), .int (Int32.ofInt a3), .int (Int32.ofInt a2), .int (Int32.ofInt a1), .ref 79], zk c m1) := by
    rw [← s1, ← s2, ← s3, ← s4, ← s5]
    exact ⟨[zo, zo, zo, zo, zo, zo, zo, zo, zo, zo, zo, zo, zo, zo, zo, zo, zo, zo, zo, zo, zo, zo, zo, zo, zo, zo], _, rfl, ⟨trivial, trivial, trivial, trivial, trivial, ix 1 (by omega), trivial, trivial, trivial, trivial, ix 2 (by omega), trivial, trivial, trivial, trivial, ix 3 (by omega), trivial, trivial, trivial, trivial, ix 4 (by omega), trivial, trivial, trivial, trivial, ix 5 (by omega), trivial⟩⟩
  have p4 : z_reach (z_sem zn (d + 60)) (some (L, xs), zn) B 1 (298, zfr i o5 o6, [.int (Int32.ofInt a5), .int (Int32.ofInt a4), .int (Int32.ofInt a3), .int (Int32.ofInt a2), .int (Int32.ofInt a1), .ref 79], zk c m1) (1687, zfr i o5 o6, [], zk c m2) :=
    ⟨[zc (some (.int (Int32.ofInt v2))) (zk c m2), zo, zo], _, rfl, ⟨⟨⟨(Nat.lt_of_lt_of_le (Nat.le_of_ble_eq_true rfl) hN), (Nat.le_of_ble_eq_true rfl)⟩, hs2, (Nat.le_of_ble_eq_true rfl), Nat.le_refl _, Nat.le_refl _, hB1.1, hB1.2⟩, trivial, trivial, trivial⟩⟩
  obtain ⟨w1, w2⟩ := zV_modelF hI1 (zH_N hH c_kN) hJ2.1 (fun p i q => m_kD p i (by omega))
  exact ⟨m2, o5, o6, ((p1.trans p2).trans p3).trans p4, w1, zH_le w2 (by omega), zJ_le hJ2 (by omega), hR⟩
set_option maxRecDepth 100000 in
set_option maxHeartbeats 4000000 in
theorem zk1 (zn : Bool) (d L : Nat) (xs : Nat → Int32) (B : Nat × Nat) (i t : Int) (h0 : 0 ≤ i) (hi : i + 6 ≤ L) (hL : L ≤ 3072) (ht : 0 ≤ t ∧ t ≤ 40000) (o5 o6 : Option Value) {c : Nat × Nat} {m : zM} (hN : 107 ≤ c.1) (hC : c.1 < z_RO) (hB : c.1 ≤ B.1 ∧ c.2 ≤ B.2) (hV : zOP c m t) :
    ∃ (m2 : zM) (o5' o6' : Option Value), z_reach (z_sem zn (d + 60)) (some (L, xs), zn) B 1 (305, zfr i o5 o6, [], zk c m) (1687, zfr i o5' o6', [], zk c m2) ∧ zOP c m2 (t + 60) := by
  obtain ⟨hI, hH, hJ, hK⟩ := hV
  have hB1 := hB
  have ix : ∀ k : Int, (0 ≤ k ∧ k ≤ 5) → vp_in (Int32.ofInt i + Int32.ofInt k) L := fun k hk => zx_ix h0 hk hi (by omega) rfl
  obtain ⟨a1, e1⟩ : ∃ q, q = (xs ((Int32.ofInt i + Int32.ofInt 1).toNatClampNeg)).toInt := ⟨_, rfl⟩
  have r1 : -2147483648 ≤ a1 ∧ a1 ≤ 2147483647 := by rw [e1]; exact ⟨Int32.le_toInt _, Int32.toInt_le _⟩
  have s1 : xs ((Int32.ofInt i + Int32.ofInt 1).toNatClampNeg) = Int32.ofInt a1 := by rw [e1]; exact zx_self _
  have p1 : z_reach (z_sem zn (d + 60)) (some (L, xs), zn) B 1 (305, zfr i o5 o6, [], zk c m) (312, zfr i o5 o6, [.int (Int32.ofInt a1), .ref 0], zk c m) := by
    rw [← s1]
    exact ⟨[zo, zo, zo, zo, zo, zo], _, rfl, ⟨trivial, trivial, trivial, trivial, trivial, ix 1 (by omega), trivial⟩⟩
  obtain ⟨v1, m1, hs1, hI1, c_z, c_f0, c_f1, c_kN, c_kD⟩ := S_X11_end zn (d + 59) hN hC a1 m hI (by omega)
  have hK1 := hK.2.1
  have hK3 := hK.2.2.2.1
  have hK4 := hK.2.2.2.2.1
  have hK5 := hK.2.2.2.2.2
  have g4 : ∀ p i, 79 ≤ p → p ≤ 105 → m1 p i = m p i := fun p i a b => c_kD p i (by omega)
  have hJ1 := zV_classF hJ hI1.1 g4
  have g6 := g4 79 6 (by omega) (by omega)
  have g26 := g4 79 26 (by omega) (by omega)
  have g53 := g4 79 53 (by omega) (by omega)
  have g34 := g4 79 34 (by omega) (by omega)
  obtain ⟨v2, m2, hs2, hJ2, m_z, m_f0, m_f1, m_kY, m_kD⟩ := S_X12_end zn (d + 59) hN hC a1 m1 hJ1 (by omega)
  have hR := zRT_end hK c_kD m_kD (by omega)
  have p2 : z_reach (z_sem zn (d + 60)) (some (L, xs), zn) B 1 (312, zfr i o5 o6, [.int (Int32.ofInt a1), .ref 0], zk c m) (316, zfr i o5 o6, [], zk c m1) :=
    ⟨[zc (some (.int (Int32.ofInt v1))) (zk c m1), zo], _, rfl, ⟨⟨⟨(Nat.lt_of_lt_of_le (Nat.le_of_ble_eq_true rfl) hN), (Nat.le_of_ble_eq_true rfl)⟩, hs1, (Nat.le_of_ble_eq_true rfl), Nat.le_refl _, Nat.le_refl _, hB1.1, hB1.2⟩, trivial, trivial⟩⟩
  have p3 : z_reach (z_sem zn (d + 60)) (some (L, xs), zn) B 1 (316, zfr i o5 o6, [], zk c m1) (323, zfr i o5 o6, [.int (Int32.ofInt a1), .ref 79], zk c m1) := by
    rw [← s1]
    exact ⟨[zo, zo, zo, zo, zo, zo], _, rfl, ⟨trivial, trivial, trivial, trivial, trivial, ix 1 (by omega), trivial⟩⟩
  have p4 : z_reach (z_sem zn (d + 60)) (some (L, xs), zn) B 1 (323, zfr i o5 o6, [.int (Int32.ofInt a1), .ref 79], zk c m1) (1687, zfr i o5 o6, [], zk c m2) :=
    ⟨[zc (some (.int (Int32.ofInt v2))) (zk c m2), zo, zo], _, rfl, ⟨⟨⟨(Nat.lt_of_lt_of_le (Nat.le_of_ble_eq_true rfl) hN), (Nat.le_of_ble_eq_true rfl)⟩, hs2, (Nat.le_of_ble_eq_true rfl), Nat.le_refl _, Nat.le_refl _, hB1.1, hB1.2⟩, trivial, trivial, trivial⟩⟩
  obtain ⟨w1, w2⟩ := zV_modelF hI1 (zH_N hH c_kN) hJ2.1 (fun p i q => m_kD p i (by omega))
  exact ⟨m2, o5, o6, ((p1.trans p2).trans p3).trans p4, w1, zH_le w2 (by omega), zJ_le hJ2 (by omega), hR⟩
set_option maxRecDepth 100000 in
set_option maxHeartbeats 4000000 in
theorem zk8 (zn : Bool) (d L : Nat) (xs : Nat → Int32) (B : Nat × Nat) (i t : Int) (h0 : 0 ≤ i) (hi : i + 6 ≤ L) (hL : L ≤ 3072) (ht : 0 ≤ t ∧ t ≤ 40000) (o5 o6 : Option Value) {c : Nat × Nat} {m : zM} (hN : 107 ≤ c.1) (hC : c.1 < z_RO) (hB : c.1 ≤ B.1 ∧ c.2 ≤ B.2) (hV : zOP c m t) :
    ∃ (m2 : zM) (o5' o6' : Option Value), z_reach (z_sem zn (d + 60)) (some (L, xs), zn) B 1 (507, zfr i o5 o6, [], zk c m) (1687, zfr i o5' o6', [], zk c m2) ∧ zOP c m2 (t + 60) := by
  obtain ⟨hI, hH, hJ, hK⟩ := hV
  have hB1 := hB
  have ix : ∀ k : Int, (0 ≤ k ∧ k ≤ 5) → vp_in (Int32.ofInt i + Int32.ofInt k) L := fun k hk => zx_ix h0 hk hi (by omega) rfl
  obtain ⟨a1, e1⟩ : ∃ q, q = (xs ((Int32.ofInt i + Int32.ofInt 1).toNatClampNeg)).toInt := ⟨_, rfl⟩
  have r1 : -2147483648 ≤ a1 ∧ a1 ≤ 2147483647 := by rw [e1]; exact ⟨Int32.le_toInt _, Int32.toInt_le _⟩
  have s1 : xs ((Int32.ofInt i + Int32.ofInt 1).toNatClampNeg) = Int32.ofInt a1 := by rw [e1]; exact zx_self _
  have p1 : z_reach (z_sem zn (d + 60)) (some (L, xs), zn) B 1 (507, zfr i o5 o6, [], zk c m) (514, zfr i o5 o6, [.int (Int32.ofInt a1), .ref 0], zk c m) := by
    rw [← s1]
    exact ⟨[zo, zo, zo, zo, zo, zo], _, rfl, ⟨trivial, trivial, trivial, trivial, trivial, ix 1 (by omega), trivial⟩⟩
  obtain ⟨v1, m1, hs1, hI1, c_cr, c_fr, c_kN⟩ := S_X11_crowd zn (d + 59) hN hC a1 m hI (by omega)
  have hK1 := hK.2.1
  have hK3 := hK.2.2.2.1
  have hK4 := hK.2.2.2.2.1
  have hK5 := hK.2.2.2.2.2
  have g4 : ∀ p i, 79 ≤ p → p ≤ 105 → m1 p i = m p i := fun p i a b => c_fr p i (by omega)
  have hJ1 := zV_classF hJ hI1.1 g4
  have g6 := g4 79 6 (by omega) (by omega)
  have g26 := g4 79 26 (by omega) (by omega)
  have g53 := g4 79 53 (by omega) (by omega)
  have g34 := g4 79 34 (by omega) (by omega)
  obtain ⟨v2, m2, hs2, hJ2, m_cr, m_fr⟩ := S_X12_crowd zn (d + 58) hN hC a1 m1 hJ1 (by omega)
  have hK0 := hK.1
  have hR := zRT_crowd hK c_fr m_fr (by omega)
  have p2 : z_reach (z_sem zn (d + 60)) (some (L, xs), zn) B 1 (514, zfr i o5 o6, [.int (Int32.ofInt a1), .ref 0], zk c m) (518, zfr i o5 o6, [], zk c m1) :=
    ⟨[zc (some (.int (Int32.ofInt v1))) (zk c m1), zo], _, rfl, ⟨⟨⟨(Nat.lt_of_lt_of_le (Nat.le_of_ble_eq_true rfl) hN), (Nat.le_of_ble_eq_true rfl)⟩, hs1, (Nat.le_of_ble_eq_true rfl), Nat.le_refl _, Nat.le_refl _, hB1.1, hB1.2⟩, trivial, trivial⟩⟩
  have p3 : z_reach (z_sem zn (d + 60)) (some (L, xs), zn) B 1 (518, zfr i o5 o6, [], zk c m1) (525, zfr i o5 o6, [.int (Int32.ofInt a1), .ref 79], zk c m1) := by
    rw [← s1]
    exact ⟨[zo, zo, zo, zo, zo, zo], _, rfl, ⟨trivial, trivial, trivial, trivial, trivial, ix 1 (by omega), trivial⟩⟩
  have p4 : z_reach (z_sem zn (d + 60)) (some (L, xs), zn) B 1 (525, zfr i o5 o6, [.int (Int32.ofInt a1), .ref 79], zk c m1) (1687, zfr i o5 o6, [], zk c m2) :=
    ⟨[zc (some (.int (Int32.ofInt v2))) (zk c m2), zo, zo], _, rfl, ⟨⟨⟨(Nat.lt_of_lt_of_le (Nat.le_of_ble_eq_true rfl) hN), (Nat.le_of_ble_eq_true rfl)⟩, hs2, (Nat.le_of_ble_eq_true rfl), Nat.le_refl _, Nat.le_refl _, hB1.1, hB1.2⟩, trivial, trivial, trivial⟩⟩
  obtain ⟨w1, w2⟩ := zV_modelF hI1 (zH_N hH c_kN) hJ2.1 (fun p i q => m_fr p i (by omega))
  exact ⟨m2, o5, o6, ((p1.trans p2).trans p3).trans p4, w1, zH_le w2 (by omega), zJ_le hJ2 (by omega), hR⟩
set_option maxRecDepth 100000 in
set_option maxHeartbeats 4000000 in
theorem zk33 (zn : Bool) (d L : Nat) (xs : Nat → Int32) (B : Nat × Nat) (i t : Int) (h0 : 0 ≤ i) (hi : i + 6 ≤ L) (hL : L ≤ 3072) (ht : 0 ≤ t ∧ t ≤ 40000) (o5 o6 : Option Value) {c : Nat × Nat} {m : zM} (hN : 107 ≤ c.1) (hC : c.1 < z_RO) (hB : c.1 ≤ B.1 ∧ c.2 ≤ B.2) (hV : zOP c m t) :
    ∃ (m2 : zM) (o5' o6' : Option Value), z_reach (z_sem zn (d + 60)) (some (L, xs), zn) B 1 (1316, zfr i o5 o6, [], zk c m) (1687, zfr i o5' o6', [], zk c m2) ∧ zOP c m2 (t + 60) := by
  obtain ⟨hI, hH, hJ, hK⟩ := hV
  have hB1 := hB
  have ix : ∀ k : Int, (0 ≤ k ∧ k ≤ 5) → vp_in (Int32.ofInt i + Int32.ofInt k) L := fun k hk => zx_ix h0 hk hi (by omega) rfl
  obtain ⟨a1, e1⟩ : ∃ q, q = (xs ((Int32.ofInt i + Int32.ofInt 1).toNatClampNeg)).toInt := ⟨_, rfl⟩
  have r1 : -2147483648 ≤ a1 ∧ a1 ≤ 2147483647 := by rw [e1]; exact ⟨Int32.le_toInt _, Int32.toInt_le _⟩
  have s1 : xs ((Int32.ofInt i + Int32.ofInt 1).toNatClampNeg) = Int32.ofInt a1 := by rw [e1]; exact zx_self _
  obtain ⟨a2, e2⟩ : ∃ q, q = (xs ((Int32.ofInt i + Int32.ofInt 2).toNatClampNeg)).toInt := ⟨_, rfl⟩
  have r2 : -2147483648 ≤ a2 ∧ a2 ≤ 2147483647 := by rw [e2]; exact ⟨Int32.le_toInt _, Int32.toInt_le _⟩
  have s2 : xs ((Int32.ofInt i + Int32.ofInt 2).toNatClampNeg) = Int32.ofInt a2 := by rw [e2]; exact zx_self _
  have p1 : z_reach (z_sem zn (d + 60)) (some (L, xs), zn) B 1 (1316, zfr i o5 o6, [], zk c m) (1329, zfr i o5 o6, [.int (Int32.ofInt a2), .int (Int32.ofInt a1), .ref 0], zk c m) := by
    rw [← s1, ← s2]
    exact ⟨[zo, zo, zo, zo, zo, zo, zo, zo, zo, zo, zo], _, rfl, ⟨trivial, trivial, trivial, trivial, trivial, ix 1 (by omega), trivial, trivial, trivial, trivial, ix 2 (by omega), trivial⟩⟩
  obtain ⟨v1, m1, hs1, hI1, c_q, c_f0, c_f1, c_kN, c_kD⟩ := S_X11_hear zn (d + 58) hN hC a1 a2 m hI (by omega) (by omega)
  have hK1 := hK.2.1
  have hK3 := hK.2.2.2.1
  have hK4 := hK.2.2.2.2.1
  have hK5 := hK.2.2.2.2.2
  have g4 : ∀ p i, 79 ≤ p → p ≤ 105 → m1 p i = m p i := fun p i a b => c_kD p i (by omega)
  have hJ1 := zV_classF hJ hI1.1 g4
  have g6 := g4 79 6 (by omega) (by omega)
  have g26 := g4 79 26 (by omega) (by omega)
  have g53 := g4 79 53 (by omega) (by omega)
  have g34 := g4 79 34 (by omega) (by omega)
  obtain ⟨v2, m2, hs2, hJ2, m_q, m_f0, m_f1, m_kY, m_kD⟩ := S_X12_hear zn (d + 58) hN hC a1 a2 m1 hJ1 (by omega) (by omega)
  have hR := zRT_hear hK c_kD m_kD (by omega)
  have p2 : z_reach (z_sem zn (d + 60)) (some (L, xs), zn) B 1 (1329, zfr i o5 o6, [.int (Int32.ofInt a2), .int (Int32.ofInt a1), .ref 0], zk c m) (1333, zfr i o5 o6, [], zk c m1) :=
    ⟨[zc (some (.int (Int32.ofInt v1))) (zk c m1), zo], _, rfl, ⟨⟨⟨(Nat.lt_of_lt_of_le (Nat.le_of_ble_eq_true rfl) hN), (Nat.le_of_ble_eq_true rfl)⟩, hs1, (Nat.le_of_ble_eq_true rfl), Nat.le_refl _, Nat.le_refl _, hB1.1, hB1.2⟩, trivial, trivial⟩⟩
  have p3 : z_reach (z_sem zn (d + 60)) (some (L, xs), zn) B 1 (1333, zfr i o5 o6, [], zk c m1) (1346, zfr i o5 o6, [.int (Int32.ofInt a2), .int (Int32.ofInt a1), .ref 79], zk c m1) := by
    rw [← s1, ← s2]
    exact ⟨[zo, zo, zo, zo, zo, zo, zo, zo, zo, zo, zo], _, rfl, ⟨trivial, trivial, trivial, trivial, trivial, ix 1 (by omega), trivial, trivial, trivial, trivial, ix 2 (by omega), trivial⟩⟩
  have p4 : z_reach (z_sem zn (d + 60)) (some (L, xs), zn) B 1 (1346, zfr i o5 o6, [.int (Int32.ofInt a2), .int (Int32.ofInt a1), .ref 79], zk c m1) (1687, zfr i o5 o6, [], zk c m2) :=
    ⟨[zc (some (.int (Int32.ofInt v2))) (zk c m2), zo, zo], _, rfl, ⟨⟨⟨(Nat.lt_of_lt_of_le (Nat.le_of_ble_eq_true rfl) hN), (Nat.le_of_ble_eq_true rfl)⟩, hs2, (Nat.le_of_ble_eq_true rfl), Nat.le_refl _, Nat.le_refl _, hB1.1, hB1.2⟩, trivial, trivial, trivial⟩⟩
  obtain ⟨w1, w2⟩ := zV_modelF hI1 (zH_N hH c_kN) hJ2.1 (fun p i q => m_kD p i (by omega))
  exact ⟨m2, o5, o6, ((p1.trans p2).trans p3).trans p4, w1, zH_le w2 (by omega), zJ_le hJ2 (by omega), hR⟩
set_option maxRecDepth 100000 in
set_option maxHeartbeats 4000000 in
theorem zk7 (zn : Bool) (d L : Nat) (xs : Nat → Int32) (B : Nat × Nat) (i t : Int) (h0 : 0 ≤ i) (hi : i + 6 ≤ L) (hL : L ≤ 3072) (ht : 0 ≤ t ∧ t ≤ 40000) (o5 o6 : Option Value) {c : Nat × Nat} {m : zM} (hN : 107 ≤ c.1) (hC : c.1 < z_RO) (hB : c.1 ≤ B.1 ∧ c.2 ≤ B.2) (hV : zOP c m t) :
    ∃ (m2 : zM) (o5' o6' : Option Value), z_reach (z_sem zn (d + 60)) (some (L, xs), zn) B 1 (482, zfr i o5 o6, [], zk c m) (1687, zfr i o5' o6', [], zk c m2) ∧ zOP c m2 (t + 60) := by
  obtain ⟨hI, hH, hJ, hK⟩ := hV
  have hB1 := hB
  have ix : ∀ k : Int, (0 ≤ k ∧ k ≤ 5) → vp_in (Int32.ofInt i + Int32.ofInt k) L := fun k hk => zx_ix h0 hk hi (by omega) rfl
  obtain ⟨a1, e1⟩ : ∃ q, q = (xs ((Int32.ofInt i + Int32.ofInt 1).toNatClampNeg)).toInt := ⟨_, rfl⟩
  have r1 : -2147483648 ≤ a1 ∧ a1 ≤ 2147483647 := by rw [e1]; exact ⟨Int32.le_toInt _, Int32.toInt_le _⟩
  have s1 : xs ((Int32.ofInt i + Int32.ofInt 1).toNatClampNeg) = Int32.ofInt a1 := by rw [e1]; exact zx_self _
  have p1 : z_reach (z_sem zn (d + 60)) (some (L, xs), zn) B 1 (482, zfr i o5 o6, [], zk c m) (489, zfr i o5 o6, [.int (Int32.ofInt a1), .ref 0], zk c m) := by
    rw [← s1]
    exact ⟨[zo, zo, zo, zo, zo, zo], _, rfl, ⟨trivial, trivial, trivial, trivial, trivial, ix 1 (by omega), trivial⟩⟩
  obtain ⟨v1, m1, hs1, hI1, c_q, c_f, c_e, c_kN⟩ := S_X11_taste_F zn (d + 59) hN hC a1 m hI (by omega)
  have hK1 := hK.2.1
  have hK3 := hK.2.2.2.1
  have hK4 := hK.2.2.2.2.1
  have hK5 := hK.2.2.2.2.2
  obtain ⟨hJ1, hI1'⟩ := zV_class hJ hI1
  have gQ : ∀ p i, zQk p i → m1 p i = m p i := hI1.2.2.2.2
  have g6 := gQ 79 6 (by unfold zQk; omega)
  have g7 := gQ 79 7 (by unfold zQk; omega)
  obtain ⟨v2, m2, hs2, hJ2, m_z, m_f, m_kY⟩ := S_X12_taste_F zn (d + 58) hN hC a1 m1 hJ1 (by omega)
  have hv : v1 = v2 := by omega
  have p2 : z_reach (z_sem zn (d + 60)) (some (L, xs), zn) B 1 (489, zfr i o5 o6, [.int (Int32.ofInt a1), .ref 0], zk c m) (492, zfr i o5 o6, [.int (Int32.ofInt v1)], zk c m1) :=
    ⟨[zc (some (.int (Int32.ofInt v1))) (zk c m1)], _, rfl, ⟨⟨⟨(Nat.lt_of_lt_of_le (Nat.le_of_ble_eq_true rfl) hN), (Nat.le_of_ble_eq_true rfl)⟩, hs1, (Nat.le_of_ble_eq_true rfl), Nat.le_refl _, Nat.le_refl _, hB1.1, hB1.2⟩, trivial⟩⟩
  have p3 : z_reach (z_sem zn (d + 60)) (some (L, xs), zn) B 1 (492, zfr i o5 o6, [.int (Int32.ofInt v1)], zk c m1) (499, zfr i o5 o6, [.int (Int32.ofInt a1), .ref 79, .int (Int32.ofInt v1)], zk c m1) := by
    rw [← s1]
    exact ⟨[zo, zo, zo, zo, zo, zo], _, rfl, ⟨trivial, trivial, trivial, trivial, trivial, ix 1 (by omega), trivial⟩⟩
  have p4 : z_reach (z_sem zn (d + 60)) (some (L, xs), zn) B 1 (499, zfr i o5 o6, [.int (Int32.ofInt a1), .ref 79, .int (Int32.ofInt v1)], zk c m1) (1687, zfr i o5 o6, [], zk c m2) := by
    rw [hv]
    exact ⟨[zc (some (.int (Int32.ofInt v2))) (zk c m2), zt], _, rfl, ⟨⟨⟨(Nat.lt_of_lt_of_le (Nat.le_of_ble_eq_true rfl) hN), (Nat.le_of_ble_eq_true rfl)⟩, hs2, (Nat.le_of_ble_eq_true rfl), Nat.le_refl _, Nat.le_refl _, hB1.1, hB1.2⟩, zbt rfl, trivial⟩⟩
  obtain ⟨w1, w2, w3⟩ := zV_model (t1 := t + 60) hI1' (zH_N hH c_kN) (by omega) (zJ_le hJ2 (by omega))
  exact ⟨m2, o5, o6, ((p1.trans p2).trans p3).trans p4, w1, w2, w3, zV_rt hI hK hI1 hJ2⟩
