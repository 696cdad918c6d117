/-! HOUSE: a number, digit by digit -/
def zq2 (b : Nat → Int) (n : Int) : Nat → Int → Int → Int × Int × Int
  | 0, p, v => if zpk b n p < 48 ∨ 57 < zpk b n p then (1, p, v) else (0, p, 0)
  | k + 1, p, v => if zpk b n p < 48 ∨ 57 < zpk b n p then (1, p, v) else zq2 b n k (p + 1) (v * 10 + zpk b n p - 48)
theorem zn2_n (b : Nat → Int) (n a : Int) (h : zpk b n (znx b n a) < 48 ∨ 57 < zpk b n (znx b n a)) : (zn2 b n a).1 = 0 ∧ (zn2 b n a).2.1 = znx b n a := by
  have e : zn2 b n a = (0, znx b n a, 0) := if_pos h
  rw [e]; exact ⟨rfl, rfl⟩
theorem zq2_f {b : Nat → Int} {n a : Int} (h : 48 ≤ zpk b n (znx b n a) ∧ zpk b n (znx b n a) ≤ 57) : zn2 b n a = zq2 b n 2 (znx b n a) 0 := by
  have e1 : zn2 b n a = (if zpk b n (znx b n a + 1) < 48 ∨ 57 < zpk b n (znx b n a + 1) then (1, znx b n a + 1, zpk b n (znx b n a) - 48)
    else if zpk b n (znx b n a + 1 + 1) < 48 ∨ 57 < zpk b n (znx b n a + 1 + 1) then (1, znx b n a + 1 + 1, 10 * (zpk b n (znx b n a) - 48) + (zpk b n (znx b n a + 1) - 48))
    else (0, znx b n a + 1 + 1, 0)) := if_neg (by omega)
  have e2 : zq2 b n 2 (znx b n a) 0 = zq2 b n 1 (znx b n a + 1) (0 * 10 + zpk b n (znx b n a) - 48) := if_neg (by omega)
  have v1 : 0 * 10 + zpk b n (znx b n a) - 48 = zpk b n (znx b n a) - 48 := by omega
  rw [e1, e2, v1]
  by_cases h2 : zpk b n (znx b n a + 1) < 48 ∨ 57 < zpk b n (znx b n a + 1)
  · exact (if_pos h2).trans (if_pos h2).symm
  · have e3 : zq2 b n 1 (znx b n a + 1) (zpk b n (znx b n a) - 48) = zq2 b n 0 (znx b n a + 1 + 1) ((zpk b n (znx b n a) - 48) * 10 + zpk b n (znx b n a + 1) - 48) := if_neg h2
    have v2 : (zpk b n (znx b n a) - 48) * 10 + zpk b n (znx b n a + 1) - 48 = 10 * (zpk b n (znx b n a) - 48) + (zpk b n (znx b n a + 1) - 48) := by omega
    rw [e3, v2]
    exact if_neg h2
theorem zq2_e {b : Nat → Int} {n : Int} {F : Int × Int × Int} {K x p v : Int} (J : F = zq2 b n (K - x).toNat p v) (h : zpk b n p < 48 ∨ 57 < zpk b n p) : F.1 = 1 ∧ F.2.1 = p ∧ F.2.2 = v := by
  have e : ∀ k : Nat, zq2 b n k p v = (1, p, v) := fun k => by
    cases k with
    | zero => exact if_pos h
    | succ k => exact if_pos h
  rw [J, e]; exact ⟨rfl, rfl, rfl⟩
theorem zq2_o {b : Nat → Int} {n : Int} {F : Int × Int × Int} {K x p v : Int} (J : F = zq2 b n (K - x).toNat p v) (hx : K ≤ x) (h : 48 ≤ zpk b n p ∧ zpk b n p ≤ 57) : F.1 = 0 ∧ F.2.1 = p := by
  have e : zq2 b n 0 p v = (0, p, 0) := if_neg (by omega)
  rw [J, show (K - x).toNat = 0 by omega, e]; exact ⟨rfl, rfl⟩
theorem zq2_s {b : Nat → Int} {n : Int} {F : Int × Int × Int} {K x p v p1 v1 : Int} (J : F = zq2 b n (K - x).toNat p v) (hx : x < K) (h : 48 ≤ zpk b n p ∧ zpk b n p ≤ 57) (hp : p1 = p + 1) (hv : v1 = v * 10 + zpk b n p - 48) : F = zq2 b n (K - (x + 1)).toNat p1 v1 := by
  subst hp hv
  rw [J, show (K - x).toNat = (K - (x + 1)).toNat + 1 by omega]
  exact if_neg (by omega)
