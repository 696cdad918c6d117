/-! FROM THE CLASS'S INVARIANT TO THE MODEL'S AND BACK -/
theorem zcn_cg {m m1 : zM} (h : ∀ p i, 79 ≤ p → p ≤ 105 → m1 p i = m p i) : ∀ k, zcn m1 k = zcn m k := by
  intro k
  induction k with
  | zero => rfl
  | succ k ih =>
    show zcn m1 k + m1 100 k = zcn m k + m 100 k
    rw [ih, h 100 k (by omega) (by omega)]
theorem zqP_cg {r r1 : Nat → Int} {t : Int} (h : zqP r t) (e : ∀ j, r1 j = r j) : zqP r1 t := zqP_eq h fun j _ => e j
/-- what a method of the class leaves -/
theorem zV_class {c1 : Nat × Nat} {m m1 : zM} {t : Int} (hJ : zJ m t 0 m) (hI : zI c1 m m1) : zJ m1 t 0 m1 ∧ zI c1 m1 m1 := by
  obtain ⟨hB, g1, g2, g3, g4, g5⟩ := hI
  obtain ⟨-, -, j1, j2, l1, l2, l3⟩ := hJ
  have f : ∀ i, m1 79 i = m 79 i := fun i => g4 79 i (by omega) (by omega)
  refine ⟨⟨hB, fun _ _ _ => rfl, ?_, ?_, ?_, ?_, ?_⟩, hB, g1, g2, g3, fun _ _ _ _ => rfl, rfl⟩
  · unfold zTB at j1 ⊢; rw [f, f]; exact j1
  · rw [f, f]; exact j2
  · exact l1.imp id (Or.imp id fun q => zqP_cg q fun j => g4 92 j (by omega) (by omega))
  · exact l2.imp id fun q => zqP_cg q fun j => g4 105 j (by omega) (by omega)
  · refine l3.imp id (Or.imp id fun q => ⟨fun k hk => zqP_cg (q.1 k hk) fun j => g4 98 _ (by omega) (by omega), ?_⟩)
    have q2 := q.2
    rw [zcn_cg g4, f, f]
    exact q2
/-- what a method of the model leaves -/
theorem zV_model {c : Nat × Nat} {m m1 : zM} {t t1 : Int} (hI : zI c m m) (hH : zH t m) (ht : t ≤ t1) (hJ : zJ m t1 0 m1) : zI c m1 m1 ∧ zH t1 m1 ∧ zJ m1 t1 0 m1 := by
  obtain ⟨-, g1, g2, g3, -, -⟩ := hI
  obtain ⟨hB, fr, j1, j2, l⟩ := hJ
  have f : ∀ p i, p < 79 → m1 p i = m p i := fun p i h => fr p i (Or.inl h)
  refine ⟨⟨hB, ?_, ?_, ?_, fun _ _ _ _ => rfl, rfl⟩, ?_, hB, fun _ _ _ => rfl, j1, j2, l⟩
  · rw [f 18 1 (by omega)]; exact g1
  · rw [f 0 13 (by omega)]; exact g2
  · intro j hj
    rw [f 0 13 (by omega)] at hj
    rw [f 12 j (by omega)]; exact g3 j hj
  · intro p hp
    have h1 : p < 79 ∨ 105 < p := by unfold zQ at hp; omega
    rw [fr p 184 (h1.imp id Or.inl)]
    exact Int.le_trans (hH p hp) ht
/-- the model's crowd is as it was -/
theorem zV_crowd {c : Nat × Nat} {m m1 m2 : zM} {t1 : Int} (h : m 68 0 = m 79 34) (hI : zI c m m1) (hJ : zJ m1 t1 0 m2) : m2 68 0 = m2 79 34 := by
  rw [hJ.2.1 68 0 (by omega), hJ.2.1 79 34 (by omega), hI.2.2.2.2.2, hI.2.2.2.2.1 79 34 (by omega) (by omega)]
  exact h
