/-! HOUSE: items, step by step -/
theorem zits_no {b : Nat → Int} {n : Int} {L : List Int} {lo hi : Nat → Int} (k : Nat) (had a : Int) (v : Nat → Int) (h : zix L 0 (zpk b n (znx b n a)) = -1) : zits b n L lo hi (k + 1) had a v = (1, znx b n a, v) := if_pos h
theorem zits_had {b : Nat → Int} {n : Int} {L : List Int} {lo hi : Nat → Int} (k : Nat) (had a : Int) (v : Nat → Int) (h : zix L 0 (zpk b n (znx b n a)) ≠ -1) (h1 : zb_and (zb_shr had (zix L 0 (zpk b n (znx b n a)))) 1 = 1) : zits b n L lo hi (k + 1) had a v = (0, znx b n a, v) := (if_neg h).trans (if_pos h1)
theorem zits_bad {b : Nat → Int} {n : Int} {L : List Int} {lo hi : Nat → Int} (k : Nat) (had a : Int) (v : Nat → Int) (h : zix L 0 (zpk b n (znx b n a)) ≠ -1) (h1 : zb_and (zb_shr had (zix L 0 (zpk b n (znx b n a)))) 1 ≠ 1) (h2 : (zn2 b n (znx b n a + 1)).1 = 0) : zits b n L lo hi (k + 1) had a v = (0, (zn2 b n (znx b n a + 1)).2.1, v) := (if_neg h).trans ((if_neg h1).trans (if_pos h2))
theorem zits_out {b : Nat → Int} {n : Int} {L : List Int} {lo hi : Nat → Int} (k : Nat) (had a : Int) (v : Nat → Int) (h : zix L 0 (zpk b n (znx b n a)) ≠ -1) (h1 : zb_and (zb_shr had (zix L 0 (zpk b n (znx b n a)))) 1 ≠ 1) (h2 : (zn2 b n (znx b n a + 1)).1 ≠ 0)
    (h3 : (zn2 b n (znx b n a + 1)).2.2 < lo (zix L 0 (zpk b n (znx b n a))).toNat ∨ hi (zix L 0 (zpk b n (znx b n a))).toNat < (zn2 b n (znx b n a + 1)).2.2) : zits b n L lo hi (k + 1) had a v = (0, (zn2 b n (znx b n a + 1)).2.1 - 1, v) :=
  (if_neg h).trans ((if_neg h1).trans ((if_neg h2).trans (if_pos h3)))
theorem zits_st {b : Nat → Int} {n : Int} {L : List Int} {lo hi : Nat → Int} (k : Nat) (had a : Int) (v : Nat → Int) (h : zix L 0 (zpk b n (znx b n a)) ≠ -1) (h1 : zb_and (zb_shr had (zix L 0 (zpk b n (znx b n a)))) 1 ≠ 1) (h2 : (zn2 b n (znx b n a + 1)).1 ≠ 0)
    (h3 : ¬ ((zn2 b n (znx b n a + 1)).2.2 < lo (zix L 0 (zpk b n (znx b n a))).toNat ∨ hi (zix L 0 (zpk b n (znx b n a))).toNat < (zn2 b n (znx b n a + 1)).2.2)) :
    zits b n L lo hi (k + 1) had a v = zits b n L lo hi k (zb_or had (zb_shl 1 (zix L 0 (zpk b n (znx b n a))))) (zn2 b n (znx b n a + 1)).2.1 (zvu v (zix L 0 (zpk b n (znx b n a))).toNat (zn2 b n (znx b n a + 1)).2.2) :=
  (if_neg h).trans ((if_neg h1).trans ((if_neg h2).trans (if_neg h3)))
/-- two ways to ask for a bit; what is had stays small -/
theorem zhad (a i : Int) (h : 0 ≤ a ∧ a ≤ 127) (hi : 0 ≤ i ∧ i ≤ 6) : (zb_and a (zb_shl 1 i) = 0 ↔ zb_and (zb_shr a i) 1 ≠ 1) ∧ 0 ≤ zb_or a (zb_shl 1 i) ∧ zb_or a (zb_shl 1 i) ≤ 127 := by
  have : ∀ (x : Fin 128) (y : Fin 7), (zb_and (x.val : Int) (zb_shl 1 (y.val : Int)) = 0 ↔ zb_and (zb_shr (x.val : Int) (y.val : Int)) 1 ≠ 1) ∧ 0 ≤ zb_or (x.val : Int) (zb_shl 1 (y.val : Int)) ∧ zb_or (x.val : Int) (zb_shl 1 (y.val : Int)) ≤ 127 := by decide +kernel
  have e := this ⟨a.toNat, by omega⟩ ⟨i.toNat, by omega⟩
  rw [show ((⟨a.toNat, by omega⟩ : Fin 128).val : Int) = a by show ((a.toNat : Nat) : Int) = a; omega, show ((⟨i.toNat, by omega⟩ : Fin 7).val : Int) = i by show ((i.toNat : Nat) : Int) = i; omega] at e
  exact e
theorem zvu_up (m : zM) (p i : Nat) (x : Int) : (zm_up m p i x) p = zvu (m p) i x := by
  funext j
  show zm_up m p i x p j = if j = i then x else m p j
  by_cases q : j = i
  · subst q; rw [if_pos rfl]; exact zm_eq
  · rw [if_neg q]; exact zm_ne (Or.inr q)
/-- a way's end or step -/
theorem zwy_d {b : Nat → Int} {n : Int} (k i : Nat) (a : Int) (v : Nat → Int) (h : zpk b n (znx b n a) < 48 ∨ 57 < zpk b n (znx b n a)) : zwy b n (k + 1) i a v = (if i = 0 then 0 else 1, znx b n a, i, v) := if_pos h
theorem zwy_x {b : Nat → Int} {n : Int} (k i : Nat) (a : Int) (v : Nat → Int) (h : ¬ (zpk b n (znx b n a) < 48 ∨ 57 < zpk b n (znx b n a))) (h1 : i = 8 ∨ 52 < zpk b n (znx b n a)) : zwy b n (k + 1) i a v = (0, znx b n a, i, v) := (if_neg h).trans (if_pos h1)
theorem zwy_s {b : Nat → Int} {n : Int} (k i : Nat) (a : Int) (v : Nat → Int) (h : ¬ (zpk b n (znx b n a) < 48 ∨ 57 < zpk b n (znx b n a))) (h1 : ¬ (i = 8 ∨ 52 < zpk b n (znx b n a))) : zwy b n (k + 1) i a v = zwy b n k (i + 1) (znx b n a + 1) (zvu v i (zpk b n (znx b n a) - 48)) := (if_neg h).trans (if_neg h1)
/-! ITEMS, as a loop meets them: F is the whole, what stands behind J is the rest -/
theorem zits_l0 {b : Nat → Int} {n : Int} {L : List Int} {lo hi : Nat → Int} {F : Int × Int × (Nat → Int)} {had x K a : Int} {v : Nat → Int} (J : F = zits b n L lo hi (K - x).toNat had a v) (hx : K ≤ x) : F.1 = 0 ∧ F.2.1 = a := by
  rw [J, show (K - x).toNat = 0 by omega]; exact ⟨rfl, rfl⟩
theorem zits_l1 {b : Nat → Int} {n : Int} {L : List Int} {lo hi : Nat → Int} {F : Int × Int × (Nat → Int)} {had x K a : Int} {v : Nat → Int} (J : F = zits b n L lo hi (K - x).toNat had a v) (hx : x < K) (h : zix L 0 (zpk b n (znx b n a)) = -1) : F.1 = 1 ∧ F.2.1 = znx b n a ∧ F.2.2 = v := by
  rw [J, show (K - x).toNat = (K - (x + 1)).toNat + 1 by omega, zits_no _ _ _ _ h]; exact ⟨rfl, rfl, rfl⟩
theorem zits_l2 {b : Nat → Int} {n : Int} {L : List Int} {lo hi : Nat → Int} {F : Int × Int × (Nat → Int)} {had x K a r : Int} {v : Nat → Int} (J : F = zits b n L lo hi (K - x).toNat had a v) (hx : x < K) (hr : r = zix L 0 (zpk b n (znx b n a))) (h : r ≠ -1) (h1 : zb_and (zb_shr had r) 1 = 1) : F.1 = 0 ∧ F.2.1 = znx b n a := by
  subst hr
  rw [J, show (K - x).toNat = (K - (x + 1)).toNat + 1 by omega, zits_had _ _ _ _ h h1]; exact ⟨rfl, rfl⟩
theorem zits_l3 {b : Nat → Int} {n : Int} {L : List Int} {lo hi : Nat → Int} {F : Int × Int × (Nat → Int)} {had x K a r : Int} {v : Nat → Int} (J : F = zits b n L lo hi (K - x).toNat had a v) (hx : x < K) (hr : r = zix L 0 (zpk b n (znx b n a))) (h : r ≠ -1) (h1 : zb_and (zb_shr had r) 1 ≠ 1) (h2 : (zn2 b n (znx b n a + 1)).1 = 0) : F.1 = 0 ∧ F.2.1 = (zn2 b n (znx b n a + 1)).2.1 := by
  subst hr
  rw [J, show (K - x).toNat = (K - (x + 1)).toNat + 1 by omega, zits_bad _ _ _ _ h h1 h2]; exact ⟨rfl, rfl⟩
theorem zits_l4 {b : Nat → Int} {n : Int} {L : List Int} {lo hi : Nat → Int} {F : Int × Int × (Nat → Int)} {had x K a r u : Int} {v : Nat → Int} (J : F = zits b n L lo hi (K - x).toNat had a v) (hx : x < K) (hr : r = zix L 0 (zpk b n (znx b n a))) (h : r ≠ -1) (h1 : zb_and (zb_shr had r) 1 ≠ 1) (h2 : (zn2 b n (znx b n a + 1)).1 ≠ 0)
    (hu : u = (zn2 b n (znx b n a + 1)).2.2) (h3 : u < lo r.toNat ∨ hi r.toNat < u) : F.1 = 0 ∧ F.2.1 = (zn2 b n (znx b n a + 1)).2.1 - 1 := by
  subst hr hu
  rw [J, show (K - x).toNat = (K - (x + 1)).toNat + 1 by omega, zits_out _ _ _ _ h h1 h2 h3]; exact ⟨rfl, rfl⟩
theorem zits_l5 {b : Nat → Int} {n : Int} {L : List Int} {lo hi : Nat → Int} {F : Int × Int × (Nat → Int)} {had x K a r u p : Int} {v v1 : Nat → Int} (J : F = zits b n L lo hi (K - x).toNat had a v) (hx : x < K) (hr : r = zix L 0 (zpk b n (znx b n a))) (h : r ≠ -1) (h1 : zb_and (zb_shr had r) 1 ≠ 1) (h2 : (zn2 b n (znx b n a + 1)).1 ≠ 0)
    (hu : u = (zn2 b n (znx b n a + 1)).2.2) (h3 : ¬ (u < lo r.toNat ∨ hi r.toNat < u)) (hp : p = (zn2 b n (znx b n a + 1)).2.1) (hv : v1 = zvu v r.toNat u) : F = zits b n L lo hi (K - (x + 1)).toNat (zb_or had (zb_shl 1 r)) p v1 := by
  subst hr hu hp hv
  rw [J, show (K - x).toNat = (K - (x + 1)).toNat + 1 by omega]; exact zits_st _ _ _ _ h h1 h2 h3
theorem zD9_9 {m m1 : zM} (h : zD9 (fun p i => p = 1 ∧ (i = 2 ∨ i = 3)) m m1) : m1 9 = m 9 := funext fun i => h 9 i (fun q => absurd q.1 (by decide))
theorem zD9_mo {S T : Nat → Nat → Prop} {m m1 : zM} (h : zD9 S m m1) (q : ∀ p i, S p i → T p i) : zD9 T m m1 := fun p i w => h p i (fun s => w (q p i s))
/-- the bounds that the program keeps in static arrays -/
theorem zst9_c : ∀ i : Fin 7, zst9 3 i = zlst [0, 0, 1, 1, 1, 0, 0] i ∧ zst9 4 i = zlst [4, 9, 99, 99, 99, 3, 6] i := by decide +kernel
theorem zst9_r : zst9 0 0 = zlst [0] 0 ∧ zst9 1 0 = zlst [5] 0 := by decide +kernel
theorem zst9_p : ∀ i : Fin 2, zst9 6 i = zlst [0, 0] i ∧ zst9 7 i = zlst [9, 1] i := by decide +kernel
