/-! THE LAW'S CASE 8: the two crowds -/
theorem zV_classF {m m1 : zM} {t : Int} (hJ : zJ m t 0 m) (hB : zB m1) (g4 : ∀ p i, 79 ≤ p → p ≤ 105 → m1 p i = m p i) : zJ m1 t 0 m1 := by
  obtain ⟨-, -, j1, j2, l1, l2, l3⟩ := hJ
  have f : ∀ i, m1 79 i = m 79 i := fun i => g4 79 i (by omega) (by omega)
  refine ⟨hB, fun _ _ _ => rfl, ?_, ?_, ?_, ?_, ?_⟩
  · unfold zTB at j1 ⊢; rw [f, f]; exact j1
  · rw [f, f]; exact j2
  · exact l1.imp id (Or.imp id fun q => zqP_cg q fun j => g4 92 j (by omega) (by omega))
  · exact l2.imp id fun q => zqP_cg q fun j => g4 105 j (by omega) (by omega)
  · refine l3.imp id (Or.imp id fun q => ⟨fun k hk => zqP_cg (q.1 k hk) fun j => g4 98 _ (by omega) (by omega), ?_⟩)
    have q2 := q.2
    rw [zcn_cg g4, f, f]
    exact q2
theorem zV_modelF {c : Nat × Nat} {m m1 : zM} {t : Int} (hI : zI c m m) (hH : zH t m) (hB : zB m1) (fr : ∀ p i, (p < 79 ∨ 105 < p) → m1 p i = m p i) : zI c m1 m1 ∧ zH t m1 := by
  obtain ⟨-, g1, g2, g3, -, -⟩ := hI
  have f : ∀ p i, p < 79 → m1 p i = m p i := fun p i h => fr p i (Or.inl h)
  refine ⟨⟨hB, ?_, ?_, ?_, fun _ _ _ _ => rfl, rfl⟩, ?_⟩
  · rw [f 18 1 (by omega)]; exact g1
  · rw [f 0 13 (by omega)]; exact g2
  · intro j hj
    rw [f 0 13 (by omega)] at hj
    rw [f 12 j (by omega)]; exact g3 j hj
  · intro p hp
    have h1 : p < 79 ∨ 105 < p := by unfold zQ at hp; omega
    rw [fr p 184 h1]
    exact hH p hp
set_option maxRecDepth 100000 in
set_option maxHeartbeats 4000000 in
theorem zk8 (zn : Bool) (d L : Nat) (xs : Nat → Int32) (B : Nat × Nat) (i t : Int) (h0 : 0 ≤ i) (hi : i + 6 ≤ L) (hL : L ≤ 3072) (ht : 0 ≤ t ∧ t ≤ 40000) (o5 o6 : Option Value) {c : Nat × Nat} {m : zM} (hN : 107 ≤ c.1) (hC : c.1 < z_RO) (hB : c.1 ≤ B.1 ∧ c.2 ≤ B.2) (hV : zOP c m t) :
    ∃ (m2 : zM) (o5' o6' : Option Value), z_reach (z_sem zn (d + 60)) (some (L, xs), zn) B 1 (507, zfr i o5 o6, [], zk c m) (1687, zfr i o5' o6', [], zk c m2) ∧ zOP c m2 (t + 60) := by
  obtain ⟨hI, hH, hJ, hK⟩ := hV
  have ix : ∀ k : Int, (0 ≤ k ∧ k ≤ 5) → vp_in (Int32.ofInt i + Int32.ofInt k) L := fun k hk => zx_ix h0 hk hi (by omega) rfl
  obtain ⟨a1, e1⟩ : ∃ q, q = (xs ((Int32.ofInt i + Int32.ofInt 1).toNatClampNeg)).toInt := ⟨_, rfl⟩
  have r1 : -2147483648 ≤ a1 ∧ a1 ≤ 2147483647 := by rw [e1]; exact ⟨Int32.le_toInt _, Int32.toInt_le _⟩
  have s1 : xs ((Int32.ofInt i + Int32.ofInt 1).toNatClampNeg) = Int32.ofInt a1 := by rw [e1]; exact zx_self _
  have p1 : z_reach (z_sem zn (d + 60)) (some (L, xs), zn) B 1 (507, zfr i o5 o6, [], zk c m) (514, zfr i o5 o6, [.int (Int32.ofInt a1), .ref 0], zk c m) := by
    rw [← s1]
    exact ⟨[zo, zo, zo, zo, zo, zo], _, rfl, ⟨trivial, trivial, trivial, trivial, trivial, ix 1 (by omega), trivial⟩⟩
  obtain ⟨v1, m1, hs1, hI1, q1, g4, k1⟩ := S_X11_crowd zn (d + 59) hN hC a1 m hI r1
  have p2 : z_reach (z_sem zn (d + 60)) (some (L, xs), zn) B 1 (514, zfr i o5 o6, [.int (Int32.ofInt a1), .ref 0], zk c m) (517, zfr i o5 o6, [.int (Int32.ofInt v1)], zk c m1) :=
    ⟨[zc (some (.int (Int32.ofInt v1))) (zk c m1)], _, rfl, ⟨⟨(Nat.lt_of_lt_of_le (Nat.le_of_ble_eq_true rfl) hN), (Nat.le_of_ble_eq_true rfl)⟩, hs1, (Nat.le_of_ble_eq_true rfl), Nat.le_refl _, Nat.le_refl _, hB.1, hB.2⟩, trivial⟩
  have p3 : z_reach (z_sem zn (d + 60)) (some (L, xs), zn) B 1 (517, zfr i o5 o6, [.int (Int32.ofInt v1)], zk c m1) (524, zfr i o5 o6, [.int (Int32.ofInt a1), .ref 79, .int (Int32.ofInt v1)], zk c m1) := by
    rw [← s1]
    exact ⟨[zo, zo, zo, zo, zo, zo], _, rfl, ⟨trivial, trivial, trivial, trivial, trivial, ix 1 (by omega), trivial⟩⟩
  have hJ1 := zV_classF hJ hI1.1 g4
  obtain ⟨v2, m2, hs2, hJ2, q2, fr⟩ := S_X12_crowd zn (d + 58) hN hC a1 m1 hJ1 r1
  have f34 : m1 79 34 = m 79 34 := g4 79 34 (by omega) (by omega)
  have f68 : m2 68 0 = m1 68 0 := fr 68 0 (by omega)
  have hv : v1 = v2 := by omega
  subst hv
  have p4 : z_reach (z_sem zn (d + 60)) (some (L, xs), zn) B 1 (524, zfr i o5 o6, [.int (Int32.ofInt a1), .ref 79, .int (Int32.ofInt v1)], zk c m1) (1687, zfr i o5 o6, [], zk c m2) :=
    ⟨[zc (some (.int (Int32.ofInt v1))) (zk c m2), zt], _, rfl, ⟨⟨(Nat.lt_of_lt_of_le (Nat.le_of_ble_eq_true rfl) hN), (Nat.le_of_ble_eq_true rfl)⟩, hs2, (Nat.le_of_ble_eq_true rfl), Nat.le_refl _, Nat.le_refl _, hB.1, hB.2⟩, zbt rfl, trivial⟩
  obtain ⟨w1, w2⟩ := zV_modelF hI1 (zH_N hH k1) hJ2.1 fr
  exact ⟨m2, o5, o6, ((p1.trans p2).trans p3).trans p4, w1, zH_le w2 (by omega), zJ_le hJ2 (by omega), by omega⟩
