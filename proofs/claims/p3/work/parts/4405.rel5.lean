/-! THE HOUR, row against row: the newborn in the model's row; the whole HOUR (by hand) -/
theorem zM_born {n a : Int} {g : zM} (gn : g 0 174 = n) (h9 : 0 ≤ n ∧ n ≤ 9) (ha : 0 ≤ a ∧ a < n) {b : Int} (hb : b = -1 ∨ (0 ≤ b ∧ b < n)) (hm : ∀ Kb : Int → Int → zM, ∃ x1 : Int, DL_X12_isBorn_D_18 a g Kb ((10 - (0 : Int)).toNat + 1) (-1) 0 = Kb b x1) :
    ∃ g1 : zM, D_X12_isBorn_D a g = g1 ∧ (∀ q : Nat, (q : Int) < 15 * n ∨ 15 * n + 15 ≤ (q : Int) → q ≠ 174 → g1 0 q = g 0 q) ∧ g1 0 174 = n + 1 ∧ (∀ p : Nat, p ≠ 0 → p ≠ 1 → g1 p = g p) ∧ (∀ i : Nat, i ≠ 40 → g1 1 i = g 1 i) ∧ g1 1 40 = zw (g 1 40 + 1) ∧
      (∀ j : Int, 0 ≤ j → j < 5 → g1 0 (((15 * n) + j).toNat) = g 0 (((15 * a) + j).toNat)) ∧ g1 0 (((15 * n) + 5).toNat) = Int.tmod (zw (g 0 (((15 * a) + 5).toNat) + g 0 (((15 * (if b = -1 then a else b)) + 5).toNat))) 4 ∧ g1 0 (((15 * n) + 6).toNat) = -1 ∧ g1 0 (((15 * n) + 7).toNat) = 1 ∧ (∀ j : Int, 8 ≤ j → j < 14 → g1 0 (((15 * n) + j).toNat) = 0) ∧ g1 0 (((15 * n) + 14).toNat) = a := by
  have b4 : ∀ Kb : Int → Int → zM, (∀ x y : Int, Kb b x = Kb b y) → DL_X12_isBorn_D_18 a g Kb ((10 - (0 : Int)).toNat + 1) (-1) 0 = Kb b 0 := fun Kb hh => (hm Kb).elim (fun x e => e.trans (hh x 0))
  obtain ⟨x1, g1, p1, p2, p3, e⟩ := zR_cpy (g0 := g) (a := a) (c := n) ⟨ha.1, ha.2, h9.2⟩ ((15 - (0 : Int)).toNat + 1) 0 g (by decide) (by decide) (by omega) (fun _ _ => rfl) (fun _ _ => rfl) (fun j j0 j9 => absurd j9 (by omega))
  have fin : ∀ kd : Int, ∀ G : zM, G = zm_up (zm_up (zm_up (zm_up (zm_up (zm_up g1 0 (((15 * n) + 5).toNat) kd) 0 (((15 * n) + 6).toNat) (-1)) 0 (((15 * n) + 7).toNat) 1) 0 (((15 * n) + 14).toNat) a) 0 174 (n + 1)) 1 40 (zw (g 1 40 + 1)) → (∀ q : Nat, (q : Int) < 15 * n ∨ 15 * n + 15 ≤ (q : Int) → q ≠ 174 → G 0 q = g 0 q) ∧ G 0 174 = n + 1 ∧ (∀ p : Nat, p ≠ 0 → p ≠ 1 → G p = g p) ∧ (∀ i : Nat, i ≠ 40 → G 1 i = g 1 i) ∧ G 1 40 = zw (g 1 40 + 1) ∧
      (∀ j : Int, 0 ≤ j → j < 5 → G 0 (((15 * n) + j).toNat) = g 0 (((15 * a) + j).toNat)) ∧ G 0 (((15 * n) + 5).toNat) = kd ∧ G 0 (((15 * n) + 6).toNat) = -1 ∧ G 0 (((15 * n) + 7).toNat) = 1 ∧ (∀ j : Int, 8 ≤ j → j < 14 → G 0 (((15 * n) + j).toNat) = 0) ∧ G 0 (((15 * n) + 14).toNat) = a := by
    intro kd G hG
    subst hG
    refine ⟨fun q q1 q2 => ?_, ?_, fun p p0 p9 => ?_, fun i i1 => ?_, ?_, fun j j0 j1 => ?_, ?_, ?_, ?_, fun j j0 j1 => ?_, ?_⟩
    · simp (disch := omega) only [zm_ne]
      exact p2 q q1
    · simp (disch := omega) only [zm_ne, zm_eq]
    · funext j
      simp (disch := omega) only [zm_ne]
      exact congrFun (p1 p p0) j
    · simp (disch := omega) only [zm_ne]
      exact congrFun (p1 1 (by decide)) i
    · simp (disch := omega) only [zm_ne, zm_eq]
    · simp (disch := omega) only [zm_ne]
      rw [p3 j j0 (by omega), if_pos j1]
    · simp (disch := omega) only [zm_ne, zm_eq]
    · simp (disch := omega) only [zm_ne, zm_eq]
    · simp (disch := omega) only [zm_ne, zm_eq]
    · simp (disch := omega) only [zm_ne]
      rw [p3 j (by omega) (by omega), if_neg (by omega)]
    · simp (disch := omega) only [zm_ne, zm_eq]
  have p174 : g1 0 174 = n := (p2 174 (by omega)).trans gn
  have p140 : g1 1 40 = g 1 40 := congrFun (p1 1 (by decide)) 40
  unfold D_X12_isBorn_D
  rw [b4]
  · rw [gn]
    by_cases cb : b = -1
    · rw [if_pos cb, e, if_pos cb]
      unfold zlt
      dsimp only
      refine ⟨_, rfl, fin _ _ ?_⟩
      simp (disch := omega) only [zm_ne, p174, p140]
    · rw [if_neg cb, e, if_neg cb]
      unfold zlt
      dsimp only
      refine ⟨_, rfl, fin _ _ ?_⟩
      simp (disch := omega) only [zm_ne, p174, p140]
  · intro x y
    rfl
