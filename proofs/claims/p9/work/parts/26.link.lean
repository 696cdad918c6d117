/-! FROM THE CLASS'S INVARIANT TO THE MODEL'S AND BACK; what both keep alike -/
theorem zcn_cg {m m1 : zM} (h : ∀ p i, 79 ≤ p → p ≤ 105 → m1 p i = m p i) : ∀ k, zcn m1 k = zcn m k := by
  intro k
  induction k with
  | zero => rfl
  | succ k ih =>
    show zcn m1 k + m1 100 k = zcn m k + m 100 k
    rw [ih, h 100 k (by omega) (by omega)]
theorem zqP_cg {r r1 : Nat → Int} {t : Int} (h : zqP r t) (e : ∀ j, r1 j = r j) : zqP r1 t := zqP_eq h fun j _ => e j
/-- what leaves the model's cells as they are -/
theorem zV_classF {m m1 : zM} {t : Int} (hJ : zJ m t 0 m) (hB : zB m1) (g4 : ∀ p i, 79 ≤ p → p ≤ 105 → m1 p i = m p i) : zJ m1 t 0 m1 := by
  obtain ⟨-, -, j1, j2, l1, l2, l3⟩ := hJ
  have f : ∀ i, m1 79 i = m 79 i := fun i => g4 79 i (by omega) (by omega)
  refine ⟨hB, fun _ _ _ => rfl, ?_, ?_, ?_, ?_, ?_⟩
  · unfold zTB at j1 ⊢; rw [f, f]; exact j1
  · rw [f, f]; exact j2
  · exact l1.imp id (Or.imp id fun q => zqP_cg q fun j => g4 92 j (by omega) (by omega))
  · exact l2.imp id fun q => zqP_cg q fun j => g4 105 j (by omega) (by omega)
  · refine l3.imp id (Or.imp id fun q => ⟨fun k hk => zqP_cg (q.1 k hk) fun j => g4 98 _ (by omega) (by omega), ?_⟩)
    have q2 := q.2
    rw [zcn_cg g4, f, f]
    exact q2
/-- what a method of the class leaves -/
theorem zV_class {c1 : Nat × Nat} {m m1 : zM} {t : Int} (hJ : zJ m t 0 m) (hI : zI c1 m m1) : zJ m1 t 0 m1 ∧ zI c1 m1 m1 := by
  obtain ⟨hB, g1, g2, g3, g4⟩ := hI
  exact ⟨zV_classF hJ hB (fun p i a b => g4 p i (Or.inl ⟨a, b⟩)), hB, g1, g2, g3, fun _ _ _ => rfl⟩
/-- what leaves the class's cells as they are -/
theorem zV_modelF {c : Nat × Nat} {m m1 : zM} {t : Int} (hI : zI c m m) (hH : zH t m) (hB : zB m1) (fr : ∀ p i, (p < 79 ∨ 105 < p) → m1 p i = m p i) : zI c m1 m1 ∧ zH t m1 := by
  obtain ⟨-, g1, g2, g3, -⟩ := hI
  have f : ∀ p i, p < 79 → m1 p i = m p i := fun p i h => fr p i (Or.inl h)
  refine ⟨⟨hB, ?_, ?_, ?_, fun _ _ _ => rfl⟩, ?_⟩
  · rw [f 18 1 (by omega)]; exact g1
  · rw [f 0 13 (by omega)]; exact g2
  · intro j hj
    rw [f 0 13 (by omega)] at hj
    rw [f 12 j (by omega)]; exact g3 j hj
  · intro p hp
    have h1 : p < 79 ∨ 105 < p := by unfold zQ at hp; omega
    rw [fr p 184 h1]
    exact hH p hp
/-- what a method of the model leaves -/
theorem zV_model {c : Nat × Nat} {m m1 : zM} {t t1 : Int} (hI : zI c m m) (hH : zH t m) (ht : t ≤ t1) (hJ : zJ m t1 0 m1) : zI c m1 m1 ∧ zH t1 m1 ∧ zJ m1 t1 0 m1 := by
  have h := zV_modelF hI hH hJ.1 (fun p i q => hJ.2.1 p i (q.imp id Or.inl))
  exact ⟨h.1, zH_le h.2 ht, zJ_self hJ⟩
/-- alike between two operations: CROWD, the tape, how many TASTES, whether there is a HOUSE, how many are HEARD -/
def zRT (m : zM) : Prop := m 68 0 = m 79 34 ∧ m 1 1 = m 79 6 ∧ m 2 = zbT m ∧ m 0 13 = m 79 7 ∧ (m 0 12 = 1 ↔ 0 < m 79 26) ∧ m 75 5 = m 79 53
set_option maxRecDepth 100000 in
theorem zRT_0 : zRT zm0 := by
  refine ⟨by decide +kernel, by decide +kernel, ?_, by decide +kernel, by decide +kernel, by decide +kernel⟩
  funext j
  have a : zm0 2 j = 0 := rfl
  have b : zm0 80 j = 0 := rfl
  show zm0 2 j = zub (zm0 80 j)
  rw [a, b]
  exact ((zub_f 0).1 (Int.le_refl 0)).symm
theorem zV_rt {c : Nat × Nat} {m m1 m2 : zM} {t1 : Int} (hI0 : zI c m m) (h : zRT m) (hI : zI c m m1) (hJ : zJ m1 t1 0 m2) : zRT m2 := by
  have a : ∀ p i, zQk p i → m1 p i = m p i := hI.2.2.2.2
  have b := hJ.2.1
  have e13 : m1 0 13 = m 0 13 := by
    have x := hI.2.2.1
    have y := hI0.2.2.1
    omega
  have e80 : m2 80 = m 80 := funext fun i => (b 80 i (by omega)).trans (a 80 i (by unfold zQk; omega))
  obtain ⟨h1, h2, h3, h4, h5, h6⟩ := h
  refine ⟨?_, ?_, ?_, ?_, ?_, ?_⟩
  · rw [b 68 0 (by omega), b 79 34 (by omega), a 68 0 (by unfold zQk; omega), a 79 34 (by unfold zQk; omega)]; exact h1
  · rw [b 1 1 (by omega), b 79 6 (by omega), a 1 1 (by unfold zQk; omega), a 79 6 (by unfold zQk; omega)]; exact h2
  · rw [zbT_r e80, ← h3]
    exact funext fun i => (b 2 i (by omega)).trans (a 2 i (by unfold zQk; omega))
  · rw [b 0 13 (by omega), b 79 7 (by omega), e13, a 79 7 (by unfold zQk; omega)]; exact h4
  · rw [b 0 12 (by omega), b 79 26 (by omega), a 0 12 (by unfold zQk; omega), a 79 26 (by unfold zQk; omega)]; exact h5
  · rw [b 75 5 (by omega), b 79 53 (by omega), a 75 5 (by unfold zQk; omega), a 79 53 (by unfold zQk; omega)]; exact h6
/-- fed -/
theorem zRT_feed {m m1 m2 : zM} {a b c d e : Int} (h : zRT m) (t1 : (m1 2, m1 1 1) = zfd a b c d e (m 2, m 1 1)) (D1 : zD9 (fun p i => p = 2 ∨ (p = 1 ∧ i = 1)) m m1) (t2 : (zbT m2, m2 79 6) = zfd a b c d e (zbT m1, m1 79 6)) (D2 : zD9 (fun p i => p = 80 ∨ (p = 79 ∧ (i = 0 ∨ i = 6))) m1 m2) : zRT m2 ∧ m1 1 1 = m2 79 6 := by
  obtain ⟨h1, h2, h3, h4, h5, h6⟩ := h
  have e80 : zbT m1 = zbT m := zbT_r (funext fun i => D1 80 i (by omega))
  have e : (m1 2, m1 1 1) = (zbT m2, m2 79 6) := by
    rw [t1, t2, e80, D1 79 6 (by omega), ← h2, ← h3]
  have e1 : m1 2 = zbT m2 := congrArg Prod.fst e
  have e2 : m1 1 1 = m2 79 6 := congrArg Prod.snd e
  refine ⟨⟨?_, ?_, ?_, ?_, ?_, ?_⟩, e2⟩
  · rw [D2 68 0 (by omega), D2 79 34 (by omega), D1 68 0 (by omega), D1 79 34 (by omega)]; exact h1
  · rw [D2 1 1 (by omega)]; exact e2
  · rw [← e1]; exact funext fun i => D2 2 i (by omega)
  · rw [D2 0 13 (by omega), D2 79 7 (by omega), D1 0 13 (by omega), D1 79 7 (by omega)]; exact h4
  · rw [D2 0 12 (by omega), D2 79 26 (by omega), D1 0 12 (by omega), D1 79 26 (by omega)]; exact h5
  · rw [D2 75 5 (by omega), D2 79 53 (by omega), D1 75 5 (by omega), D1 79 53 (by omega)]; exact h6
/-- cut -/
theorem zRT_end {m m1 m2 : zM} (h : zRT m) (D1 : zD9 (fun p i => p = 1 ∧ i = 1) m m1) (D2 : zD9 (fun p i => p = 79 ∧ (i = 0 ∨ i = 6)) m1 m2) (e : m1 1 1 = m2 79 6) : zRT m2 := by
  obtain ⟨h1, h2, h3, h4, h5, h6⟩ := h
  have e80 : zbT m2 = zbT m := zbT_r (funext fun i => (D2 80 i (by omega)).trans (D1 80 i (by omega)))
  refine ⟨?_, ?_, ?_, ?_, ?_, ?_⟩
  · rw [D2 68 0 (by omega), D2 79 34 (by omega), D1 68 0 (by omega), D1 79 34 (by omega)]; exact h1
  · rw [D2 1 1 (by omega)]; exact e
  · rw [e80, ← h3]; exact funext fun i => (D2 2 i (by omega)).trans (D1 2 i (by omega))
  · rw [D2 0 13 (by omega), D2 79 7 (by omega), D1 0 13 (by omega), D1 79 7 (by omega)]; exact h4
  · rw [D2 0 12 (by omega), D2 79 26 (by omega), D1 0 12 (by omega), D1 79 26 (by omega)]; exact h5
  · rw [D2 75 5 (by omega), D2 79 53 (by omega), D1 75 5 (by omega), D1 79 53 (by omega)]; exact h6
/-- HEARD -/
theorem zRT_hear {m m1 m2 : zM} (h : zRT m) (D1 : zD9 (fun p i => (p = 75 ∧ i = 5) ∨ (77 ≤ p ∧ p ≤ 78)) m m1) (D2 : zD9 (fun p i => (p = 79 ∧ (i = 0 ∨ i = 53)) ∨ (101 ≤ p ∧ p ≤ 102)) m1 m2) (e : m1 75 5 = m2 79 53) : zRT m2 := by
  obtain ⟨h1, h2, h3, h4, h5, h6⟩ := h
  have e80 : zbT m2 = zbT m := zbT_r (funext fun i => (D2 80 i (by omega)).trans (D1 80 i (by omega)))
  refine ⟨?_, ?_, ?_, ?_, ?_, ?_⟩
  · rw [D2 68 0 (by omega), D2 79 34 (by omega), D1 68 0 (by omega), D1 79 34 (by omega)]; exact h1
  · rw [D2 1 1 (by omega), D2 79 6 (by omega), D1 1 1 (by omega), D1 79 6 (by omega)]; exact h2
  · rw [e80, ← h3]; exact funext fun i => (D2 2 i (by omega)).trans (D1 2 i (by omega))
  · rw [D2 0 13 (by omega), D2 79 7 (by omega), D1 0 13 (by omega), D1 79 7 (by omega)]; exact h4
  · rw [D2 0 12 (by omega), D2 79 26 (by omega), D1 0 12 (by omega), D1 79 26 (by omega)]; exact h5
  · rw [D2 75 5 (by omega)]; exact e
/-- CROWD -/
theorem zRT_crowd {m m1 m2 : zM} (h : zRT m) (D1 : ∀ p i, (p ≠ 68 ∨ i ≠ 0) → m1 p i = m p i) (D2 : ∀ p i, (p ≠ 79 ∨ (i ≠ 34 ∧ i ≠ 0)) → m2 p i = m1 p i) (e : m1 68 0 = m2 79 34) : zRT m2 := by
  obtain ⟨h1, h2, h3, h4, h5, h6⟩ := h
  have e80 : zbT m2 = zbT m := zbT_r (funext fun i => (D2 80 i (by omega)).trans (D1 80 i (by omega)))
  refine ⟨?_, ?_, ?_, ?_, ?_, ?_⟩
  · rw [D2 68 0 (by omega)]; exact e
  · rw [D2 1 1 (by omega), D2 79 6 (by omega), D1 1 1 (by omega), D1 79 6 (by omega)]; exact h2
  · rw [e80, ← h3]; exact funext fun i => (D2 2 i (by omega)).trans (D1 2 i (by omega))
  · rw [D2 0 13 (by omega), D2 79 7 (by omega), D1 0 13 (by omega), D1 79 7 (by omega)]; exact h4
  · rw [D2 0 12 (by omega), D2 79 26 (by omega), D1 0 12 (by omega), D1 79 26 (by omega)]; exact h5
  · rw [D2 75 5 (by omega), D2 79 53 (by omega), D1 75 5 (by omega), D1 79 53 (by omega)]; exact h6
/-- a TEXT: what stays, and the cells that are told anew -/
theorem zRT_text {m m1 m2 : zM} (h : zRT m) (f : ∀ p i, zQk p i → (p ≠ 1 ∨ i ≠ 1) → (p ≠ 75 ∨ i ≠ 5) → (p ≠ 0 ∨ i ≠ 12) → m1 p i = m p i) (D2 : zD9 (fun p i => 79 ≤ p ∧ p ≤ 105 ∧ p ≠ 80 ∧ (p ≠ 79 ∨ i ≠ 34)) m1 m2)
    (e1 : m1 1 1 = m2 79 6) (e2 : m1 0 13 = m2 79 7) (e3 : m1 0 12 = 1 ↔ 0 < m2 79 26) (e4 : m1 75 5 = m2 79 53) : zRT m2 := by
  obtain ⟨h1, h2, h3, h4, h5, h6⟩ := h
  have e80 : zbT m2 = zbT m := zbT_r (funext fun i => (D2 80 i (by omega)).trans (f 80 i (by unfold zQk; omega) (by omega) (by omega) (by omega)))
  refine ⟨?_, ?_, ?_, ?_, ?_, ?_⟩
  · rw [D2 68 0 (by omega), D2 79 34 (by omega), f 68 0 (by unfold zQk; omega) (by omega) (by omega) (by omega), f 79 34 (by unfold zQk; omega) (by omega) (by omega) (by omega)]; exact h1
  · rw [D2 1 1 (by omega)]; exact e1
  · rw [e80, ← h3]; exact funext fun i => (D2 2 i (by omega)).trans (f 2 i (by unfold zQk; omega) (by omega) (by omega) (by omega))
  · rw [D2 0 13 (by omega)]; exact e2
  · rw [D2 0 12 (by omega)]; exact e3
  · rw [D2 75 5 (by omega)]; exact e4
