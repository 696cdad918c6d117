/-! HOUSE: numbers of one or two digits, by cases -/
theorem zn2_f (b : Nat → Int) (n a : Int) :
    ((zpk b n (znx b n a) < 48 ∨ 57 < zpk b n (znx b n a)) ∧ (zn2 b n a).1 = 0 ∧ (zn2 b n a).2.1 = znx b n a) ∨
    (48 ≤ zpk b n (znx b n a) ∧ zpk b n (znx b n a) ≤ 57 ∧ (zpk b n (znx b n a + 1) < 48 ∨ 57 < zpk b n (znx b n a + 1)) ∧ (zn2 b n a).1 = 1 ∧ (zn2 b n a).2.1 = znx b n a + 1 ∧ (zn2 b n a).2.2 = zpk b n (znx b n a) - 48) ∨
    (48 ≤ zpk b n (znx b n a) ∧ zpk b n (znx b n a) ≤ 57 ∧ 48 ≤ zpk b n (znx b n a + 1) ∧ zpk b n (znx b n a + 1) ≤ 57 ∧ (zpk b n (znx b n a + 1 + 1) < 48 ∨ 57 < zpk b n (znx b n a + 1 + 1)) ∧ (zn2 b n a).1 = 1 ∧ (zn2 b n a).2.1 = znx b n a + 1 + 1 ∧ (zn2 b n a).2.2 = 10 * (zpk b n (znx b n a) - 48) + (zpk b n (znx b n a + 1) - 48)) ∨
    (48 ≤ zpk b n (znx b n a) ∧ zpk b n (znx b n a) ≤ 57 ∧ 48 ≤ zpk b n (znx b n a + 1) ∧ zpk b n (znx b n a + 1) ≤ 57 ∧ 48 ≤ zpk b n (znx b n a + 1 + 1) ∧ zpk b n (znx b n a + 1 + 1) ≤ 57 ∧ (zn2 b n a).1 = 0 ∧ (zn2 b n a).2.1 = znx b n a + 1 + 1) := by
  by_cases h1 : zpk b n (znx b n a) < 48 ∨ 57 < zpk b n (znx b n a)
  · have e : zn2 b n a = (0, znx b n a, 0) := if_pos h1
    rw [e]; exact Or.inl ⟨h1, rfl, rfl⟩
  · by_cases h2 : zpk b n (znx b n a + 1) < 48 ∨ 57 < zpk b n (znx b n a + 1)
    · have e : zn2 b n a = (1, znx b n a + 1, zpk b n (znx b n a) - 48) := (if_neg h1).trans (if_pos h2)
      rw [e]; exact Or.inr (Or.inl ⟨by omega, by omega, h2, rfl, rfl, rfl⟩)
    · by_cases h3 : zpk b n (znx b n a + 1 + 1) < 48 ∨ 57 < zpk b n (znx b n a + 1 + 1)
      · have e : zn2 b n a = (1, znx b n a + 1 + 1, 10 * (zpk b n (znx b n a) - 48) + (zpk b n (znx b n a + 1) - 48)) := (if_neg h1).trans ((if_neg h2).trans (if_pos h3))
        rw [e]; exact Or.inr (Or.inr (Or.inl ⟨by omega, by omega, by omega, by omega, h3, rfl, rfl, rfl⟩))
      · have e : zn2 b n a = (0, znx b n a + 1 + 1, 0) := (if_neg h1).trans ((if_neg h2).trans (if_neg h3))
        rw [e]; exact Or.inr (Or.inr (Or.inr ⟨by omega, by omega, by omega, by omega, by omega, by omega, rfl, rfl⟩))
theorem zpk_at (b : Nat → Int) (n A p : Int) : (p = A → zpk b n p = zpk b n A) ∧ (p = A + 1 → zpk b n p = zpk b n (A + 1)) ∧ (p = A + 1 + 1 → zpk b n p = zpk b n (A + 1 + 1)) :=
  ⟨fun h => congrArg (zpk b n) h, fun h => congrArg (zpk b n) h, fun h => congrArg (zpk b n) h⟩
