/-! THE LAW'S CASES 3 and 10, its switch, its head and end (wip/tools/gw/end10.py) -/
set_option maxRecDepth 100000 in
set_option maxHeartbeats 4000000 in
theorem zk10 (zn : Bool) (d L : Nat) (xs : Nat → Int32) (B : Nat × Nat) (i t : Int) (h0 : 0 ≤ i) (hi : i + 6 ≤ L) (hL : L ≤ 3072) (ht : 0 ≤ t ∧ t ≤ 40000) (o5 o6 : Option Value) {c : Nat × Nat} {m : zM} (hN : 107 ≤ c.1) (hC : c.1 < z_RO) (hB : c.1 ≤ B.1 ∧ c.2 ≤ B.2) (hV : zOP c m t) :
    ∃ (m2 : zM) (o5' o6' : Option Value), z_reach (z_sem zn (d + 60)) (some (L, xs), zn) B 1 (557, zfr i o5 o6, [], zk c m) (1687, zfr i o5' o6', [], zk c m2) ∧ zOP c m2 (t + 60) := by
  obtain ⟨hI, hH, hJ, hK⟩ := hV
  have ix : ∀ k : Int, (0 ≤ k ∧ k ≤ 5) → vp_in (Int32.ofInt i + Int32.ofInt k) L := fun k hk => zx_ix h0 hk hi (by omega) rfl
  obtain ⟨a1, e1⟩ : ∃ q, q = (xs ((Int32.ofInt i + Int32.ofInt 1).toNatClampNeg)).toInt := ⟨_, rfl⟩
  have r1 : -2147483648 ≤ a1 ∧ a1 ≤ 2147483647 := by rw [e1]; exact ⟨Int32.le_toInt _, Int32.toInt_le _⟩
  have s1 : xs ((Int32.ofInt i + Int32.ofInt 1).toNatClampNeg) = Int32.ofInt a1 := by rw [e1]; exact zx_self _
  obtain ⟨w1, p1⟩ : ∃ w : Int64, z_reach (z_sem zn (d + 60)) (some (L, xs), zn) B 1 (557, zfr i o5 o6, [], zk c m) (586, zfr i o5 o6, [.long w, .int (Int32.ofInt a1), .ref 0], zk c m) := by
    rw [← s1]
    exact ⟨_, [zo, zo, zo, zo, zo, zo, zo, zo, zo, zo, zo, zo, zo, zo, zo, zo, zo, zo, zo, zo, zo, zo, zo], _, rfl, ⟨trivial, trivial, trivial, trivial, trivial, ix 1 (by omega), trivial, trivial, trivial, trivial, ix 2 (by omega), trivial, trivial, trivial, trivial, trivial, trivial, trivial, ix 3 (by omega), trivial, trivial, trivial, trivial, trivial⟩⟩
  obtain ⟨q1, f1, g1, l1⟩ : ∃ q : Int, w1 = Int64.ofInt q ∧ -9223372036854775808 ≤ q ∧ q ≤ 9223372036854775807 := ⟨w1.toInt, (Int64.ofInt_toInt w1).symm, by have h := Int64.le_toInt w1; omega, by have h := Int64.toInt_lt w1; omega⟩
  rw [f1] at p1
  obtain ⟨v1, m1, hs1, hI1, -, k1⟩ := S_X11_crowds zn (d + 54) hN hC a1 q1 t m hI r1 ⟨g1, l1⟩ (by omega) hH (by omega)
  obtain ⟨hJ1, hI1'⟩ := zV_class hJ hI1
  have p2 : z_reach (z_sem zn (d + 60)) (some (L, xs), zn) B 1 (586, zfr i o5 o6, [.long (Int64.ofInt q1), .int (Int32.ofInt a1), .ref 0], zk c m) (590, zfr i o5 o6, [], zk c m1) :=
    ⟨[zc (some (.int (Int32.ofInt v1))) (zk c m1), zo], _, rfl, ⟨⟨(Nat.lt_of_lt_of_le (Nat.le_of_ble_eq_true rfl) hN), (Nat.le_of_ble_eq_true rfl)⟩, hs1, (Nat.le_of_ble_eq_true rfl), Nat.le_refl _, Nat.le_refl _, hB.1, hB.2⟩, trivial, trivial⟩
  obtain ⟨w3, p3⟩ : ∃ w : Int64, z_reach (z_sem zn (d + 60)) (some (L, xs), zn) B 1 (590, zfr i o5 o6, [], zk c m1) (619, zfr i o5 o6, [.long w, .int (Int32.ofInt a1), .ref 79], zk c m1) := by
    rw [← s1]
    exact ⟨_, [zo, zo, zo, zo, zo, zo, zo, zo, zo, zo, zo, zo, zo, zo, zo, zo, zo, zo, zo, zo, zo, zo, zo], _, rfl, ⟨trivial, trivial, trivial, trivial, trivial, ix 1 (by omega), trivial, trivial, trivial, trivial, ix 2 (by omega), trivial, trivial, trivial, trivial, trivial, trivial, trivial, ix 3 (by omega), trivial, trivial, trivial, trivial, trivial⟩⟩
  obtain ⟨q3, f3, g3, l3⟩ : ∃ q : Int, w3 = Int64.ofInt q ∧ -9223372036854775808 ≤ q ∧ q ≤ 9223372036854775807 := ⟨w3.toInt, (Int64.ofInt_toInt w3).symm, by have h := Int64.le_toInt w3; omega, by have h := Int64.toInt_lt w3; omega⟩
  rw [f3] at p3
  obtain ⟨v2, m2, hs2, hJ2, -⟩ := S_X12_crowds zn (d + 22) hN hC a1 q3 m1 hJ1 r1 ⟨g3, l3⟩ (by omega)
  have p4 : z_reach (z_sem zn (d + 60)) (some (L, xs), zn) B 1 (619, zfr i o5 o6, [.long (Int64.ofInt q3), .int (Int32.ofInt a1), .ref 79], zk c m1) (1687, zfr i o5 o6, [], zk c m2) :=
    ⟨[zc (some (.int (Int32.ofInt v2))) (zk c m2), zo, zo], _, rfl, ⟨⟨(Nat.lt_of_lt_of_le (Nat.le_of_ble_eq_true rfl) hN), (Nat.le_of_ble_eq_true rfl)⟩, hs2, (Nat.le_of_ble_eq_true rfl), Nat.le_refl _, Nat.le_refl _, hB.1, hB.2⟩, trivial, trivial, trivial⟩
  have hJ3 : zJ m1 (t + 60) 0 m2 := hJ2
  obtain ⟨y1, y2, y3⟩ := zV_model (t1 := t + 60) hI1' k1 (by omega) hJ3
  exact ⟨m2, o5, o6, ((p1.trans p2).trans p3).trans p4, y1, y2, y3, zV_rt hI hK hI1 hJ3⟩
set_option maxRecDepth 100000 in
set_option maxHeartbeats 4000000 in
theorem zk3 (zn : Bool) (d L : Nat) (xs : Nat → Int32) (B : Nat × Nat) (i t : Int) (h0 : 0 ≤ i) (hi : i + 6 ≤ L) (hL : L ≤ 3072) (ht : 0 ≤ t ∧ t ≤ 40000) (o5 o6 : Option Value) {c : Nat × Nat} {m : zM} (hN : 107 ≤ c.1) (hC : c.1 < z_RO) (hB : 200 ≤ B.1 ∧ c.2 + 282 ≤ B.2) (hV : zOP c m t) :
    ∃ (c1 : Nat × Nat) (m2 : zM) (o5' o6' : Option Value), (107 ≤ c1.1 ∧ c1.1 ≤ 123 ∧ c1.2 ≤ c.2 + 282) ∧ z_reach (z_sem zn (d + 60)) (some (L, xs), zn) B 1 (355, zfr i o5 o6, [], zk c m) (1687, zfr i o5' o6', [], zk c1 m2) ∧ zOP c1 m2 (t + 60) := by
  obtain ⟨hI, hH, hJ, hK⟩ := hV
  have ix : ∀ k : Int, (0 ≤ k ∧ k ≤ 5) → vp_in (Int32.ofInt i + Int32.ofInt k) L := fun k hk => zx_ix h0 hk hi (by omega) rfl
  obtain ⟨a1, e1⟩ : ∃ q, q = (xs ((Int32.ofInt i + Int32.ofInt 1).toNatClampNeg)).toInt := ⟨_, rfl⟩
  have r1 : -2147483648 ≤ a1 ∧ a1 ≤ 2147483647 := by rw [e1]; exact ⟨Int32.le_toInt _, Int32.toInt_le _⟩
  have s1 : xs ((Int32.ofInt i + Int32.ofInt 1).toNatClampNeg) = Int32.ofInt a1 := by rw [e1]; exact zx_self _
  obtain ⟨v1, m1, c1, hs1, hI1, hH1, n1, n2, n3, n4, gF, T0, T1, T2⟩ : ∃ (v1 : Int) (m1 : zM) (c1 : Nat × Nat), z_sem zn (d + 60) 180 [.ref 0, .int (Int32.ofInt a1)] (zk c m) (some (.int (Int32.ofInt v1))) (zk c1 m1) ∧ zI c1 m1 m1 ∧ zH t m1 ∧ 107 ≤ c1.1 ∧ c.1 ≤ c1.1 ∧ c.2 ≤ c1.2 ∧ c1.2 ≤ c.2 + 282 ∧
      (∀ p i, zQk p i → (p ≠ 1 ∨ i ≠ 1) → (p ≠ 75 ∨ i ≠ 5) → (p ≠ 0 ∨ i ≠ 12) → m1 p i = m p i) ∧ (a1 = 0 ∧ zhF (m 2) (m 1 1) = -1 → v1 = (zhs (m 2) (m 1 1)).2.2 79 29 ∧ m1 1 1 = 0 ∧ m1 75 5 = 0 ∧ m1 0 12 = 1 ∧ m1 0 13 = m 0 13) ∧
      (a1 = 1 ∧ m 0 13 < 4 ∧ zt_fault (m 2) (m 1 1) = -1 → v1 = m 0 13 ∧ m1 1 1 = 0 ∧ m1 75 5 = m 75 5 ∧ m1 0 12 = m 0 12 ∧ m1 0 13 = m 0 13 + 1) ∧
      (¬ (a1 = 0 ∧ zhF (m 2) (m 1 1) = -1) ∧ ¬ (a1 = 1 ∧ m 0 13 < 4 ∧ zt_fault (m 2) (m 1 1) = -1) → v1 = -1 ∧ m1 1 1 = m 1 1 ∧ m1 75 5 = m 75 5 ∧ m1 0 12 = m 0 12 ∧ m1 0 13 = m 0 13) := by
    by_cases e : a1 = 1
    · rw [e]
      obtain ⟨r, m1, c1, hs, hI1, hh, ⟨b1, b2, b3, b4⟩, gF, gP, gN⟩ := S_X11_text_1 zn (d + 23) hN t m hI (by omega) hH
      have g5 := gF 75 5 (by unfold zQk; omega) (by omega)
      have g12 := gF 0 12 (by unfold zQk; omega) (by omega)
      refine ⟨r, m1, c1, hs, hI1, hh, b1, b2, b3, b4, fun p i q w _ _ => gF p i q w, fun q => by omega, fun q => ?_, fun q => ?_⟩
      · have g := gP q.2
        omega
      · have g := gN (fun z => q.2 ⟨rfl, z⟩)
        omega
    · obtain ⟨r, m1, hs, hI1, c_q, c_f0, c_f1, c_kH, c_kD⟩ := S_X11_text_0 zn (d + 51) hN hC a1 t m hI (by omega) (by omega) hH e
      have e13 : m1 0 13 = m 0 13 := by
        have a := hI1.2.2.1
        have b := hI.2.2.1
        omega
      refine ⟨r, m1, c, hs, hI1, c_kH, hN, Nat.le_refl _, Nat.le_refl _, by omega, fun p i q w1 w2 w3 => c_kD p i (by unfold zQk at q; omega), fun q => ?_, fun q => absurd q.1 e, fun q => ?_⟩
      · have g := c_f0 q
        omega
      · have g := c_f1 (by omega)
        omega
  have n5 : (0 : Int) ≤ m1 0 13 ∧ m1 0 13 ≤ 4 := hI1.1 0 13
  have n6 : 107 + 4 * m1 0 13 = (c1.1 : Int) := hI1.2.2.1
  have hRO : z_RO = 1000000 := rfl
  have hB1 : c1.1 ≤ B.1 ∧ c1.2 ≤ B.2 := ⟨by omega, by omega⟩
  have hC1 : c1.1 < z_RO := by omega
  have g4 : ∀ p i, 79 ≤ p → p ≤ 105 → m1 p i = m p i := fun p i a b => gF p i (Or.inl ⟨a, b⟩) (by omega) (by omega) (by omega)
  have hJ1 := zV_classF hJ hI1.1 g4
  have g7 := g4 79 7 (by omega) (by omega)
  have g26 := g4 79 26 (by omega) (by omega)
  have g53 := g4 79 53 (by omega) (by omega)
  obtain ⟨v2, m2, hs2, hJ2, m_q, m_f0, m_f1, m_f2, m_kD⟩ := S_X12_text zn (d + 26) n1 hC1 a1 m1 hJ1 (by omega) (by omega)
  have eT : zbT m1 = m 2 := (zbT_r (funext fun i => g4 80 i (by omega) (by omega))).trans hK.2.2.1.symm
  have e6 : m1 79 6 = m 1 1 := (g4 79 6 (by omega) (by omega)).trans hK.2.1.symm
  rw [eT, e6] at m_f0 m_f1 m_f2
  have hK3 := hK.2.2.2.1
  have hK4 := hK.2.2.2.2.1
  have hK5 := hK.2.2.2.2.2
  obtain ⟨hv, x1, x2, x3, x4⟩ : v1 = v2 ∧ m1 1 1 = m2 79 6 ∧ m1 0 13 = m2 79 7 ∧ (m1 0 12 = 1 ↔ 0 < m2 79 26) ∧ m1 75 5 = m2 79 53 := by
    by_cases u : a1 = 0 ∧ zhF (m 2) (m 1 1) = -1
    · have u1 := T0 u
      have u2 := m_f0 u
      omega
    · by_cases w : a1 = 1 ∧ m 0 13 < 4 ∧ zt_fault (m 2) (m 1 1) = -1
      · have u1 := T1 w
        have u2 := m_f1 ⟨w.1, w.2.2, by omega⟩
        omega
      · have u1 := T2 ⟨u, w⟩
        have u2 := m_f2 ⟨u, fun z => w ⟨z.1, by omega, z.2.1⟩⟩
        omega
  have hR := zRT_text hK gF m_kD x1 x2 x3 x4
  have p1 : z_reach (z_sem zn (d + 60)) (some (L, xs), zn) B 1 (355, zfr i o5 o6, [], zk c m) (362, zfr i o5 o6, [.int (Int32.ofInt a1), .ref 0], zk c m) := by
    rw [← s1]
    exact ⟨[zo, zo, zo, zo, zo, zo], _, rfl, ⟨trivial, trivial, trivial, trivial, trivial, ix 1 (by omega), trivial⟩⟩
  have p2 : z_reach (z_sem zn (d + 60)) (some (L, xs), zn) B 1 (362, zfr i o5 o6, [.int (Int32.ofInt a1), .ref 0], zk c m) (366, zfr i o5 o6, [], zk c1 m1) :=
    ⟨[zc (some (.int (Int32.ofInt v1))) (zk c1 m1), zo], _, rfl, ⟨⟨⟨(Nat.lt_of_lt_of_le (Nat.le_of_ble_eq_true rfl) hN), (Nat.le_of_ble_eq_true rfl)⟩, hs1, (Nat.le_of_ble_eq_true rfl), n2, n3, hB1.1, hB1.2⟩, trivial, trivial⟩⟩
  have p3 : z_reach (z_sem zn (d + 60)) (some (L, xs), zn) B 1 (366, zfr i o5 o6, [], zk c1 m1) (373, zfr i o5 o6, [.int (Int32.ofInt a1), .ref 79], zk c1 m1) := by
    rw [← s1]
    exact ⟨[zo, zo, zo, zo, zo, zo], _, rfl, ⟨trivial, trivial, trivial, trivial, trivial, ix 1 (by omega), trivial⟩⟩
  have p4 : z_reach (z_sem zn (d + 60)) (some (L, xs), zn) B 1 (373, zfr i o5 o6, [.int (Int32.ofInt a1), .ref 79], zk c1 m1) (1687, zfr i o5 o6, [], zk c1 m2) :=
    ⟨[zc (some (.int (Int32.ofInt v2))) (zk c1 m2), zo, zo], _, rfl, ⟨⟨⟨(Nat.lt_of_lt_of_le (Nat.le_of_ble_eq_true rfl) n1), (Nat.le_of_ble_eq_true rfl)⟩, hs2, (Nat.le_of_ble_eq_true rfl), Nat.le_refl _, Nat.le_refl _, hB1.1, hB1.2⟩, trivial, trivial, trivial⟩⟩
  obtain ⟨w1, w2⟩ := zV_modelF hI1 hH1 hJ2.1 (fun p i q => m_kD p i (by omega))
  exact ⟨c1, m2, o5, o6, ⟨n1, by omega, n4⟩, ((p1.trans p2).trans p3).trans p4, w1, zH_le w2 (by omega), zJ_le hJ2 (by omega), hR⟩
