/-! THE HOUR, row against row: what is digested (by hand) -/
/-- row against row, as x CLOCKS have digested -/
def zRD (T n x : Int) (h g : zM) : Prop := (zRv n h g ∧ zRl n h g ∧ zRq h g ∧ zRp h g ∧ zGp g) ∧ (∀ y : Int, 0 ≤ y → y < n → zGk n g y (if y < x then 159 else 99)) ∧ (∀ y : Int, 0 ≤ y → y < n → g 0 (((15 * y) + 7).toNat) = 1 → g 0 (((15 * y) + 12).toNat) = (if y < x then g 0 175 + 1 else g 0 175) - h 0 ((120 + y).toNat) ∧ 0 ≤ g 0 (((15 * y) + 12).toNat) ∧ g 0 (((15 * y) + 12).toNat) ≤ (if y < x then g 0 175 + 1 else g 0 175)) ∧ (h 0 185 = n ∧ g 0 174 = n ∧ 0 ≤ n ∧ n ≤ 10) ∧ (h 0 184 = g 0 175 ∧ 0 ≤ g 0 175 ∧ g 0 175 ≤ 999999999 ∧ g 0 175 = T) ∧ (h 0 186 = g 0 176 ∧ h 0 187 = g 0 177) ∧ (h 1 3 = g 1 37 ∧ h 1 4 = g 1 38 ∧ h 1 5 = g 1 39 ∧ h 1 7 = g 1 41 ∧ -2147483648 ≤ g 1 38 ∧ g 1 38 ≤ 2147483647 ∧ g 1 40 = 0 ∧ g 1 42 = -1) ∧ (∀ y : Int, 0 ≤ y → y ≤ 9 → h 2 y.toNat = g 2 y.toNat ∧ 0 ≤ g 2 y.toNat ∧ g 2 y.toNat ≤ 60)
theorem zRq_cg {h g h1 g1 : zM} (Q : zRq h g) (r : h1 6 = h 6 ∧ h1 7 = h 7 ∧ h1 8 = h 8 ∧ h1 9 = h 9 ∧ h1 1 1 = h 1 1) (s : g1 6 = g 6 ∧ g1 7 = g 7 ∧ g1 8 = g 8 ∧ g1 1 26 = g 1 26 ∧ g1 1 27 = g 1 27 ∧ g1 1 33 = g 1 33) : zRq h1 g1 := by
  obtain ⟨r6, r7, r8, r9, r1⟩ := r
  obtain ⟨s6, s7, s8, s26, s27, s33⟩ := s
  unfold zRq at Q ⊢
  rw [r6, r7, r8, r9, r1, s26, s27, s33, s6, s7, s8]
  exact Q
/-- one CLOCK more -/
theorem zRD_st {T n x : Int} {h g h1 g1 : zM} (D : zRD T n x h g) (hx : 0 ≤ x ∧ x < n) (V : zRv n h1 g1) (a : ∀ i : Nat, 120 ≤ i → (i : Int) ≠ 120 + x → (i : Int) ≠ 130 + x → h1 0 i = h 0 i) (b : ∀ q : Nat, (q : Int) < 15 * x ∨ 15 * x + 15 ≤ (q : Int) → g1 0 q = g 0 q)
    (r : (h1 6 = h 6 ∧ h1 7 = h 7 ∧ h1 8 = h 8 ∧ h1 9 = h 9 ∧ h1 1 1 = h 1 1) ∧ h1 2 = h 2) (s : (g1 6 = g 6 ∧ g1 7 = g 7 ∧ g1 8 = g 8 ∧ g1 1 26 = g 1 26 ∧ g1 1 27 = g 1 27 ∧ g1 1 33 = g 1 33) ∧ g1 2 = g 2 ∧ g1 3 = g 3)
    (c : h1 1 3 = g1 1 37 ∧ h1 1 4 = g1 1 38 ∧ h1 1 5 = g1 1 39 ∧ h1 1 7 = g1 1 41 ∧ -2147483648 ≤ g1 1 38 ∧ g1 1 38 ≤ 2147483647 ∧ g1 1 40 = 0 ∧ g1 1 42 = -1) (gx : zGk n g1 x 159) (sx : g1 0 (((15 * x) + 7).toNat) = 1 → g1 0 (((15 * x) + 12).toNat) = (g 0 175 + 1) - h1 0 ((120 + x).toNat) ∧ 0 ≤ g1 0 (((15 * x) + 12).toNat) ∧ g1 0 (((15 * x) + 12).toNat) ≤ g 0 175 + 1) : zRD T n (x + 1) h1 g1 := by
  obtain ⟨⟨d1, d2, d3, d4, d5⟩, d6, d7, ⟨d8, d9, d10, d11⟩, ⟨d12, d13, d14⟩, ⟨d15, d16⟩, d17, d18⟩ := D
  have b5 : g1 0 175 = g 0 175 := b 175 (by omega)
  refine ⟨⟨V, ?_, zRq_cg d3 r.1 s.1, ?_, ?_⟩, ?_, ?_, ⟨by rw [a 185 (by omega) (by omega) (by omega)]; exact d8, by rw [b 174 (by omega)]; exact d9, d10, d11⟩, ⟨by rw [a 184 (by omega) (by omega) (by omega), b5]; exact d12, by rw [b5]; exact d13, by rw [b5]; exact d14⟩, ⟨by rw [a 186 (by omega) (by omega) (by omega), b 176 (by omega)]; exact d15, by rw [a 187 (by omega) (by omega) (by omega), b 177 (by omega)]; exact d16⟩, c, ?_⟩
  · refine ⟨fun y h0 h9 => ?_, fun y h0 h9 => ?_⟩
    · rw [a _ (by omega) (by omega) (by omega), s.2.2]
      exact d2.1 y h0 h9
    · rw [s.2.2]
      exact d2.2 y h0 h9
  · intro p h0 h5
    rw [a _ (by omega) (by omega) (by omega), a _ (by omega) (by omega) (by omega), a _ (by omega) (by omega) (by omega), a _ (by omega) (by omega) (by omega), b _ (by omega), b _ (by omega), b _ (by omega), b _ (by omega)]
    exact d4 p h0 h5
  · intro p h0 h5
    rw [s.1.2.2.2.2.1] at h5
    rw [b _ (by omega), b _ (by omega), b _ (by omega), s.1.2.2.2.1]
    exact d5 p h0 h5
  · intro y h0 h9
    by_cases e : y = x
    · subst e
      rw [if_pos (by omega)]
      exact gx
    · have q := d6 y h0 h9
      have q2 := zGk_cg (g1 := g1) q (fun k k1 k2 => b k (by omega)) h0
      by_cases e2 : y < x
      · rw [if_pos e2] at q2; rw [if_pos (by omega)]; exact q2
      · rw [if_neg e2] at q2; rw [if_neg (by omega)]; exact q2
  · intro y h0 h9 hl
    by_cases e : y = x
    · subst e
      rw [if_pos (show y < y + 1 by omega), b5]
      exact sx hl
    · rw [b _ (by omega)] at hl
      have q := d7 y h0 h9 hl
      rw [b _ (by omega), b5, a _ (by omega) (by omega) (by omega)]
      by_cases e2 : y < x
      · rw [if_pos e2] at q; rw [if_pos (show y < x + 1 by omega)]; exact q
      · rw [if_neg e2] at q; rw [if_neg (show ¬ y < x + 1 by omega)]; exact q
  · intro y h0 h9
    rw [r.2, s.2.1]
    exact d18 y h0 h9
/-- one that does not live -/
theorem zRD_no {T n x : Int} {h g : zM} (D : zRD T n x h g) (hx : 0 ≤ x ∧ x < n) (hl : ¬ g 0 (((15 * x) + 7).toNat) = 1) : zRD T n (x + 1) h g := by
  have D0 := D
  obtain ⟨⟨d1, d2, d3, d4, d5⟩, d6, d7, ⟨d8, d9, d10, d11⟩, ⟨d12, d13, d14⟩, ⟨d15, d16⟩, d17, d18⟩ := D
  refine zRD_st D0 hx d1 (fun i _ _ _ => rfl) (fun q _ => rfl) ⟨⟨rfl, rfl, rfl, rfl, rfl⟩, rfl⟩ ⟨⟨rfl, rfl, rfl, rfl, rfl, rfl⟩, rfl, rfl⟩ d17 ?_ (fun q => absurd q hl)
  have q := d6 x hx.1 hx.2
  rw [if_neg (by omega)] at q
  obtain ⟨q1, q2, q3, q4⟩ := q
  exact ⟨q1, q2, ⟨q3.1, by omega, by omega⟩, q4⟩
theorem zm_eqq {m : zM} {p i j : Nat} {v : Int} (h : j = i) : zm_up m p i v p j = v := by
  subst h
  exact zm_eq
theorem z14 {j : Nat} (a : j < 15) (b : j ≠ 12) : j = 0 ∨ j = 1 ∨ j = 2 ∨ j = 3 ∨ j = 4 ∨ j = 5 ∨ j = 6 ∨ j = 7 ∨ j = 8 ∨ j = 9 ∨ j = 10 ∨ j = 11 ∨ j = 13 ∨ j = 14 := by omega
/-- one that lives: what both do -/
theorem zR_dig {T n x : Int} {h g : zM} (D : zRD T n x h g) (hx : 0 ≤ x ∧ x < n) (hl : g 0 (((15 * x) + 7).toNat) = 1) {h9 h15 h23 : zM} (e9 : h9 = zm_up h 1 3 (zw ((h 1 3) + (h 2 x.toNat)))) (e15 : h15 = zm_up h9 0 ((130 + x).toNat) (zw ((h9 0 ((130 + x).toNat)) + 1))) (e23 : h23 = zm_up h15 0 ((20 + x).toNat) (zw ((h15 0 ((20 + x).toNat)) + ((h15 2 x.toNat) - (h15 0 ((10 + x).toNat)))))) :
    ((h23 0 ((20 + x).toNat)) ≤ 0 → zRD T n (x + 1) (D_X3_starve_D x h23) (D_X12_feeds_D x g)) ∧ (¬ (h23 0 ((20 + x).toNat)) ≤ 0 → ∀ h31 : zM, h31 = D_X3_strike_D x h23 → zRD T n (x + 1) (zm_up h31 0 ((100 + x).toNat) (zw ((h31 0 ((100 + x).toNat)) + (Int.tdiv (h31 0 ((20 + x).toNat)) 10)))) (D_X12_feeds_D x g)) := by
  have D0 := D
  obtain ⟨⟨d1, d2, d3, d4, d5⟩, d6, d7, ⟨d8, d9, d10, d11⟩, ⟨d12, d13, d14⟩, ⟨d15, d16⟩, ⟨d17, d19, d20, d21, d22, d23, d25, d26⟩, d18⟩ := D
  have q := d6 x hx.1 hx.2
  rw [if_neg (by omega)] at q
  obtain ⟨g0, g1, g2, g3, g4, g5, g6, g7, g8, g11, g14, g9⟩ := q
  have t := d7 x hx.1 hx.2 hl
  rw [if_neg (show ¬ x < x by omega)] at t
  have w := d18 x hx.1 (by omega)
  have c2 : h 0 ((20 + x).toNat) = g 0 (((15 * x) + 2).toNat) := zRv_g d1 2 (by decide) hx (by omega) (by omega)
  have c1 : h 0 ((10 + x).toNat) = g 0 (((15 * x) + 1).toNat) := zRv_g d1 1 (by decide) hx (by omega) (by omega)
  have c13 : h 0 ((130 + x).toNat) = g 0 (((15 * x) + 13).toNat) := zRv_g d1 13 (by decide) hx (by omega) (by omega)
  have c4 : h 0 ((40 + x).toNat) = g 0 (((15 * x) + 4).toNat) := zRv_g d1 4 (by decide) hx (by omega) (by omega)
  have c8 : h 0 ((80 + x).toNat) = g 0 (((15 * x) + 8).toNat) := zRv_g d1 8 (by decide) hx (by omega) (by omega)
  have c9 : h 0 ((90 + x).toNat) = g 0 (((15 * x) + 9).toNat) := zRv_g d1 9 (by decide) hx (by omega) (by omega)
  have c10 : h 0 ((100 + x).toNat) = g 0 (((15 * x) + 10).toNat) := zRv_g d1 10 (by decide) hx (by omega) (by omega)
  have eF : zw (g 0 (((15 * x) + 2).toNat) + (g 2 x.toNat - g 0 (((15 * x) + 1).toNat))) = g 0 (((15 * x) + 2).toNat) + (g 2 x.toNat - g 0 (((15 * x) + 1).toNat)) := zw_id (by omega)
  have v1 : h9 0 ((130 + x).toNat) = g 0 (((15 * x) + 13).toNat) := by rw [e9, zm_ne (Or.inl (by decide))]; exact c13
  have v2 : h15 0 ((20 + x).toNat) = g 0 (((15 * x) + 2).toNat) := by rw [e15, zm_ne (Or.inr (by omega)), e9, zm_ne (Or.inl (by decide))]; exact c2
  have v3 : h15 2 x.toNat = g 2 x.toNat := by rw [e15, zm_ne (Or.inl (by decide)), e9, zm_ne (Or.inl (by decide))]; exact w.1
  have v4 : h15 0 ((10 + x).toNat) = g 0 (((15 * x) + 1).toNat) := by rw [e15, zm_ne (Or.inr (by omega)), e9, zm_ne (Or.inl (by decide))]; exact c1
  rw [v1] at e15
  rw [v2, v3, v4, eF] at e23
  rw [d17, w.1] at e9
  have vF : h23 0 ((20 + x).toNat) = g 0 (((15 * x) + 2).toNat) + (g 2 x.toNat - g 0 (((15 * x) + 1).toNat)) := by rw [e23]; exact zm_eq
  generalize hF : g 0 (((15 * x) + 2).toNat) + (g 2 x.toNat - g 0 (((15 * x) + 1).toNat)) = F at eF e23 vF
  generalize hA : zw (g 1 37 + g 2 x.toNat) = A at e9
  generalize hL : zw (g 0 (((15 * x) + 13).toNat) + 1) = Lv at e15
  have m24 : ∀ G : zM, G = D_X12_feeds_D x g → G = (if 0 < F then (if Int.tdiv (g 0 (((15 * x) + 8).toNat) + g 2 x.toNat) (g 0 (((15 * x) + 4).toNat)) ≤ 0 then zm_up (zm_up (zm_up (zm_up (zm_up (zm_up (zm_up (zm_up (zm_up g 0 (((15 * x) + 13).toNat) Lv) 0 (((15 * x) + 2).toNat) F) 1 37 A) 0 (((15 * x) + 8).toNat) (g 0 (((15 * x) + 8).toNat) + g 2 x.toNat)) 0 (((15 * x) + 8).toNat) (Int.tmod (g 0 (((15 * x) + 8).toNat) + g 2 x.toNat) (g 0 (((15 * x) + 4).toNat)))) 0 (((15 * x) + 9).toNat) (zw (g 0 (((15 * x) + 9).toNat) + Int.tdiv (g 0 (((15 * x) + 8).toNat) + g 2 x.toNat) (g 0 (((15 * x) + 4).toNat))))) 1 38 (zw (g 1 38 + Int.tdiv (g 0 (((15 * x) + 8).toNat) + g 2 x.toNat) (g 0 (((15 * x) + 4).toNat))))) 0 (((15 * x) + 12).toNat) (zw (g 0 (((15 * x) + 12).toNat) + 1))) 0 (((15 * x) + 10).toNat) (zw (g 0 (((15 * x) + 10).toNat) + Int.tdiv F 10))
      else zm_up (zm_up (zm_up (zm_up (zm_up (zm_up (zm_up (zm_up (zm_up g 0 (((15 * x) + 13).toNat) Lv) 0 (((15 * x) + 2).toNat) F) 1 37 A) 0 (((15 * x) + 8).toNat) (g 0 (((15 * x) + 8).toNat) + g 2 x.toNat)) 0 (((15 * x) + 8).toNat) (Int.tmod (g 0 (((15 * x) + 8).toNat) + g 2 x.toNat) (g 0 (((15 * x) + 4).toNat)))) 0 (((15 * x) + 9).toNat) (zw (g 0 (((15 * x) + 9).toNat) + Int.tdiv (g 0 (((15 * x) + 8).toNat) + g 2 x.toNat) (g 0 (((15 * x) + 4).toNat))))) 1 38 (zw (g 1 38 + Int.tdiv (g 0 (((15 * x) + 8).toNat) + g 2 x.toNat) (g 0 (((15 * x) + 4).toNat))))) 0 (((15 * x) + 12).toNat) 0) 0 (((15 * x) + 10).toNat) (zw (g 0 (((15 * x) + 10).toNat) + Int.tdiv F 10)))
    else (if g 1 41 = -1 then zm_up (zm_up (zm_up (zm_up (zm_up (zm_up (zm_up g 0 (((15 * x) + 13).toNat) Lv) 0 (((15 * x) + 2).toNat) F) 1 37 A) 0 (((15 * x) + 2).toNat) 0) 0 (((15 * x) + 7).toNat) 0) 1 39 (zw (g 1 39 + 1))) 1 41 x else zm_up (zm_up (zm_up (zm_up (zm_up (zm_up g 0 (((15 * x) + 13).toNat) Lv) 0 (((15 * x) + 2).toNat) F) 1 37 A) 0 (((15 * x) + 2).toNat) 0) 0 (((15 * x) + 7).toNat) 0) 1 39 (zw (g 1 39 + 1)))) := by
    intro G hG
    have eE : zw (g 0 (((15 * x) + 8).toNat) + g 2 x.toNat) = g 0 (((15 * x) + 8).toNat) + g 2 x.toNat := zw_id (by omega)
    have tm := ztm (g 0 (((15 * x) + 8).toNat) + g 2 x.toNat) (g 0 (((15 * x) + 4).toNat)) (by omega)
    have eM : zw (Int.tmod (g 0 (((15 * x) + 8).toNat) + g 2 x.toNat) (g 0 (((15 * x) + 4).toNat))) = Int.tmod (g 0 (((15 * x) + 8).toNat) + g 2 x.toNat) (g 0 (((15 * x) + 4).toNat)) := zw_id (by omega)
    have eF2 : zw (g 0 (((15 * x) + 2).toNat) + (g 2 x.toNat - g 0 (((15 * x) + 1).toNat))) = F := by rw [hF]; exact eF
    rw [hG]
    unfold D_X12_feeds_D zlt
    dsimp only
    simp (disch := omega) only [zm_ne, zm_eq, eE, eM, eF2, hA, hL]
  have eG := m24 _ rfl
  generalize D_X12_feeds_D x g = G at eG ⊢
  constructor
  · intro hF0
    rw [vF] at hF0
    rw [if_neg (show ¬ 0 < F by omega)] at eG
    have vs : ∀ H : zM, H = D_X3_starve_D x h23 → H = (if g 1 41 = -1 then zm_up (zm_up (zm_up (zm_up h23 0 ((20 + x).toNat) 0) 0 ((70 + x).toNat) 0) 1 5 (zw (g 1 39 + 1))) 1 7 x else zm_up (zm_up (zm_up h23 0 ((20 + x).toNat) 0) 0 ((70 + x).toNat) 0) 1 5 (zw (g 1 39 + 1))) := by
      intro H hH
      have u1 : h23 1 5 = g 1 39 := by rw [e23, zm_ne (Or.inl (by decide)), e15, zm_ne (Or.inl (by decide)), e9, zm_ne (Or.inr (by decide))]; exact d20
      have u2 : h23 1 7 = g 1 41 := by rw [e23, zm_ne (Or.inl (by decide)), e15, zm_ne (Or.inl (by decide)), e9, zm_ne (Or.inr (by decide))]; exact d21
      rw [hH]
      unfold D_X3_starve_D zlt
      dsimp only
      simp (disch := omega) only [zm_ne, zm_eq, u1, u2]
    have eH := vs _ rfl
    generalize D_X3_starve_D x h23 = H at eH ⊢
    subst e23 e15 e9
    have fin : ∀ (H2 G2 : zM), (∀ k : Nat, k ≠ 1 → H2 k = (zm_up (zm_up (zm_up (zm_up (zm_up h 1 3 A) 0 ((130 + x).toNat) Lv) 0 ((20 + x).toNat) F) 0 ((20 + x).toNat) 0) 0 ((70 + x).toNat) 0) k) → (∀ k : Nat, k ≠ 1 → G2 k = (zm_up (zm_up (zm_up (zm_up g 0 (((15 * x) + 13).toNat) Lv) 0 (((15 * x) + 2).toNat) F) 0 (((15 * x) + 2).toNat) 0) 0 (((15 * x) + 7).toNat) 0) k) → H2 1 1 = h 1 1 → (G2 1 26 = g 1 26 ∧ G2 1 27 = g 1 27 ∧ G2 1 33 = g 1 33) → (H2 1 3 = G2 1 37 ∧ H2 1 4 = G2 1 38 ∧ H2 1 5 = G2 1 39 ∧ H2 1 7 = G2 1 41 ∧ -2147483648 ≤ G2 1 38 ∧ G2 1 38 ≤ 2147483647 ∧ G2 1 40 = 0 ∧ G2 1 42 = -1) → zRD T n (x + 1) H2 G2 := by
      intro H2 G2 a0 b0 a1 b1 cc
      have a00 := a0 0 (by decide)
      have b00 := b0 0 (by decide)
      refine zRD_st D0 hx ?_ ?_ ?_ ⟨⟨a0 6 (by decide), a0 7 (by decide), a0 8 (by decide), a0 9 (by decide), a1⟩, a0 2 (by decide)⟩ ⟨⟨b0 6 (by decide), b0 7 (by decide), b0 8 (by decide), b1.1, b1.2.1, b1.2.2⟩, b0 2 (by decide), b0 3 (by decide)⟩ cc ?_ ?_
      · intro j c a b e
        rw [a00, b00]
        by_cases k : (c : Int) = x
        · rcases z14 a b with k | k | k | k | k | k | k | k | k | k | k | k | k | k <;> subst k <;> simp (disch := omega) only [zm_ne, zm_eqq] <;> exact d1 _ c (by decide) (by decide) e
        · simp (disch := omega) only [zm_ne]
          exact d1 j c a b e
      · intro i i1 i2 i3
        rw [a00]
        simp (disch := omega) only [zm_ne]
      · intro q q1
        rw [b00]
        simp (disch := omega) only [zm_ne]
      · unfold zGk
        rw [b00]
        simp (disch := omega) only [zm_ne, zm_eq]
        exact ⟨g0, g1, by omega, g3, g4, g5, g6, by omega, g8, g11, g14, g9⟩
      · rw [b00]
        simp (disch := omega) only [zm_ne, zm_eq]
        intro z
        exact absurd z (by decide)
    by_cases cf : g 1 41 = -1
    · rw [if_pos cf] at eG eH
      subst eG eH
      refine fin _ _ (fun k hk => ?_) (fun k hk => ?_) ?_ ⟨?_, ?_, ?_⟩ ⟨?_, ?_, ?_, ?_, ?_, ?_, ?_, ?_⟩
      · rw [zup_o hk, zup_o hk]
      · rw [zup_o hk, zup_o hk]
        funext j
        by_cases k0 : k = 0
        · subst k0
          rfl
        · simp (disch := omega) only [zm_ne]
      all_goals simp (disch := omega) only [zm_ne, zm_eq]
      · exact d19
      · exact d22
      · exact d23
      · exact d25
      · exact d26
    · rw [if_neg cf] at eG eH
      subst eG eH
      refine fin _ _ (fun k hk => ?_) (fun k hk => ?_) ?_ ⟨?_, ?_, ?_⟩ ⟨?_, ?_, ?_, ?_, ?_, ?_, ?_, ?_⟩
      · rw [zup_o hk]
      · rw [zup_o hk]
        funext j
        by_cases k0 : k = 0
        · subst k0
          rfl
        · simp (disch := omega) only [zm_ne]
      all_goals simp (disch := omega) only [zm_ne, zm_eq]
      · exact d19
      · exact d21
      · exact d22
      · exact d23
      · exact d25
      · exact d26
  · intro hF0 h31 eH
    rw [vF] at hF0
    rw [if_pos (show 0 < F by omega)] at eG
    have eE : zw (g 0 (((15 * x) + 8).toNat) + g 2 x.toNat) = g 0 (((15 * x) + 8).toNat) + g 2 x.toNat := zw_id (by omega)
    generalize hE : g 0 (((15 * x) + 8).toNat) + g 2 x.toNat = E at eE eG
    have tm := ztm E (g 0 (((15 * x) + 4).toNat)) (by omega)
    have tm2 := tm.2.2 (by omega)
    have td := (ztd E (g 0 (((15 * x) + 4).toNat)) (by omega)).1 (by omega)
    have eM : zw (E - (Int.tdiv E (g 0 (((15 * x) + 4).toNat)) * g 0 (((15 * x) + 4).toNat))) = Int.tmod E (g 0 (((15 * x) + 4).toNat)) := by
      rw [Int.mul_comm, ← Int.tmod_def]
      exact zw_id (by omega)
    have eS : h31 = (if Int.tdiv E (g 0 (((15 * x) + 4).toNat)) ≤ 0 then zm_up h23 0 ((80 + x).toNat) (Int.tmod E (g 0 (((15 * x) + 4).toNat))) else zm_up (zm_up (zm_up (zm_up h23 0 ((80 + x).toNat) (Int.tmod E (g 0 (((15 * x) + 4).toNat)))) 0 ((90 + x).toNat) (zw (g 0 (((15 * x) + 9).toNat) + Int.tdiv E (g 0 (((15 * x) + 4).toNat))))) 0 ((120 + x).toNat) (g 0 175 + 1)) 1 4 (zw (g 1 38 + Int.tdiv E (g 0 (((15 * x) + 4).toNat))))) := by
      have u4 : h23 0 ((40 + x).toNat) = g 0 (((15 * x) + 4).toNat) := by rw [e23, zm_ne (Or.inr (by omega)), e15, zm_ne (Or.inr (by omega)), e9, zm_ne (Or.inl (by decide))]; exact c4
      have u8 : h23 0 ((80 + x).toNat) = g 0 (((15 * x) + 8).toNat) := by rw [e23, zm_ne (Or.inr (by omega)), e15, zm_ne (Or.inr (by omega)), e9, zm_ne (Or.inl (by decide))]; exact c8
      have u9 : h23 0 ((90 + x).toNat) = g 0 (((15 * x) + 9).toNat) := by rw [e23, zm_ne (Or.inr (by omega)), e15, zm_ne (Or.inr (by omega)), e9, zm_ne (Or.inl (by decide))]; exact c9
      have uH : h23 0 184 = g 0 175 := by rw [e23, zm_ne (Or.inr (by omega)), e15, zm_ne (Or.inr (by omega)), e9, zm_ne (Or.inl (by decide))]; exact d12
      have u2 : h23 2 x.toNat = g 2 x.toNat := by rw [e23, zm_ne (Or.inl (by decide)), e15, zm_ne (Or.inl (by decide)), e9, zm_ne (Or.inl (by decide))]; exact w.1
      have u38 : h23 1 4 = g 1 38 := by rw [e23, zm_ne (Or.inl (by decide)), e15, zm_ne (Or.inl (by decide)), e9, zm_ne (Or.inr (by decide))]; exact d19
      have eHr : zw (g 0 175 + 1) = g 0 175 + 1 := zw_id (by omega)
      rw [eH]
      unfold D_X3_strike_D zlt
      dsimp only
      rw [u4, u8, u2, hE, eE, if_neg (show ¬ g 0 (((15 * x) + 4).toNat) ≤ 0 by omega), eM]
      simp (disch := omega) only [zm_ne, zm_eq, u9, uH, u38, eHr]
    have u10 : h23 0 ((100 + x).toNat) = g 0 (((15 * x) + 10).toNat) := by rw [e23, zm_ne (Or.inr (by omega)), e15, zm_ne (Or.inr (by omega)), e9, zm_ne (Or.inl (by decide))]; exact c10
    by_cases cT : Int.tdiv E (g 0 (((15 * x) + 4).toNat)) ≤ 0
    · rw [if_pos cT] at eG eS
      have vl : zw (h31 0 ((100 + x).toNat) + Int.tdiv (h31 0 ((20 + x).toNat)) 10) = zw (g 0 (((15 * x) + 10).toNat) + Int.tdiv F 10) := by
        rw [eS, zm_ne (Or.inr (by omega)), zm_ne (Or.inr (by omega)), u10, vF]
      rw [vl]
      have eT : Int.tdiv E (g 0 (((15 * x) + 4).toNat)) = 0 := by omega
      rw [eT, Int.add_zero, Int.add_zero, zw_id (show -2147483648 ≤ g 0 (((15 * x) + 9).toNat) ∧ g 0 (((15 * x) + 9).toNat) ≤ 2147483647 from g9), zw_id (show -2147483648 ≤ g 1 38 ∧ g 1 38 ≤ 2147483647 from ⟨d22, d23⟩), zw_id (show -2147483648 ≤ g 0 (((15 * x) + 12).toNat) + 1 ∧ g 0 (((15 * x) + 12).toNat) + 1 ≤ 2147483647 by omega)] at eG
      generalize Int.tmod E (g 0 (((15 * x) + 4).toNat)) = M at eG eS tm tm2
      generalize zw (g 0 (((15 * x) + 10).toNat) + Int.tdiv F 10) = W at eG ⊢
      subst eG eS e23 e15 e9
      refine zRD_st D0 hx ?_ ?_ ?_ ⟨⟨rfl, rfl, rfl, rfl, ?_⟩, rfl⟩ ⟨⟨rfl, rfl, rfl, ?_, ?_, ?_⟩, rfl, rfl⟩ ⟨?_, ?_, ?_, ?_, ?_, ?_, ?_, ?_⟩ ?_ ?_
      · intro j c a b e
        by_cases k : (c : Int) = x
        · rcases z14 a b with k | k | k | k | k | k | k | k | k | k | k | k | k | k <;> subst k <;> simp (disch := omega) only [zm_ne, zm_eqq]
          all_goals first | exact d1 _ c (by decide) (by decide) e | exact (d1 9 c (by decide) (by decide) e).trans (congrArg (g 0) (by omega))
        · simp (disch := omega) only [zm_ne]
          exact d1 j c a b e
      · intro i i1 i2 i3
        simp (disch := omega) only [zm_ne]
      · intro q q1
        simp (disch := omega) only [zm_ne]
      · simp (disch := omega) only [zm_ne]
      · simp (disch := omega) only [zm_ne]
      · simp (disch := omega) only [zm_ne]
      · simp (disch := omega) only [zm_ne]
      · simp (disch := omega) only [zm_ne, zm_eq]
      · simp (disch := omega) only [zm_ne, zm_eq]
        exact d19
      · simp (disch := omega) only [zm_ne, zm_eq]
        exact d20
      · simp (disch := omega) only [zm_ne, zm_eq]
        exact d21
      · simp (disch := omega) only [zm_ne, zm_eq]
        exact d22
      · simp (disch := omega) only [zm_ne, zm_eq]
        exact d23
      · simp (disch := omega) only [zm_ne, zm_eq]
        exact d25
      · simp (disch := omega) only [zm_ne, zm_eq]
        exact d26
      · unfold zGk
        simp (disch := omega) only [zm_ne, zm_eq]
        exact ⟨g0, g1, by omega, g3, g4, g5, g6, g7, by omega, g11, g14, g9⟩
      · simp (disch := omega) only [zm_ne, zm_eq]
        intro z
        omega
    · rw [if_neg cT] at eG eS
      have vl : zw (h31 0 ((100 + x).toNat) + Int.tdiv (h31 0 ((20 + x).toNat)) 10) = zw (g 0 (((15 * x) + 10).toNat) + Int.tdiv F 10) := by
        rw [eS, zm_ne (Or.inl (by decide)), zm_ne (Or.inr (by omega)), zm_ne (Or.inr (by omega)), zm_ne (Or.inr (by omega)), zm_ne (Or.inl (by decide)), zm_ne (Or.inr (by omega)), zm_ne (Or.inr (by omega)), zm_ne (Or.inr (by omega)), u10, vF]
      rw [vl]
      have r9 := zwR (g 0 (((15 * x) + 9).toNat) + Int.tdiv E (g 0 (((15 * x) + 4).toNat)))
      have r38 := zwR (g 1 38 + Int.tdiv E (g 0 (((15 * x) + 4).toNat)))
      generalize Int.tmod E (g 0 (((15 * x) + 4).toNat)) = M at eG eS tm tm2
      generalize zw (g 0 (((15 * x) + 9).toNat) + Int.tdiv E (g 0 (((15 * x) + 4).toNat))) = S9 at eG eS r9
      generalize zw (g 1 38 + Int.tdiv E (g 0 (((15 * x) + 4).toNat))) = S38 at eG eS r38
      generalize zw (g 0 (((15 * x) + 10).toNat) + Int.tdiv F 10) = W at eG ⊢
      subst eG eS e23 e15 e9
      refine zRD_st D0 hx ?_ ?_ ?_ ⟨⟨rfl, rfl, rfl, rfl, ?_⟩, rfl⟩ ⟨⟨rfl, rfl, rfl, ?_, ?_, ?_⟩, rfl, rfl⟩ ⟨?_, ?_, ?_, ?_, ?_, ?_, ?_, ?_⟩ ?_ ?_
      · intro j c a b e
        by_cases k : (c : Int) = x
        · rcases z14 a b with k | k | k | k | k | k | k | k | k | k | k | k | k | k <;> subst k <;> simp (disch := omega) only [zm_ne, zm_eqq]
          all_goals exact d1 _ c (by decide) (by decide) e
        · simp (disch := omega) only [zm_ne]
          exact d1 j c a b e
      · intro i i1 i2 i3
        simp (disch := omega) only [zm_ne]
      · intro q q1
        simp (disch := omega) only [zm_ne]
      · simp (disch := omega) only [zm_ne]
      · simp (disch := omega) only [zm_ne]
      · simp (disch := omega) only [zm_ne]
      · simp (disch := omega) only [zm_ne]
      · simp (disch := omega) only [zm_ne, zm_eq]
      · simp (disch := omega) only [zm_ne, zm_eq]
      · simp (disch := omega) only [zm_ne, zm_eq]
        exact d20
      · simp (disch := omega) only [zm_ne, zm_eq]
        exact d21
      · simp (disch := omega) only [zm_ne, zm_eq]
        exact r38.1
      · simp (disch := omega) only [zm_ne, zm_eq]
        exact r38.2
      · simp (disch := omega) only [zm_ne, zm_eq]
        exact d25
      · simp (disch := omega) only [zm_ne, zm_eq]
        exact d26
      · unfold zGk
        simp (disch := omega) only [zm_ne, zm_eq]
        exact ⟨g0, g1, by omega, g3, g4, g5, g6, g7, by omega, g11, g14, r9⟩
      · simp (disch := omega) only [zm_ne, zm_eq]
        intro z
        omega
/-- all that live -/
theorem zR_digs {T n a : Int} {R : zM → zM → Prop} {V : Int → Int → Int → Int → Int → Int → Int} {K K' : Int → zM → zM} (hK : ∀ x h g, zRD T n n h g → R (K x h) (K' x g)) :
    ∀ (k : Nat) (x : Int) (h g : zM), 0 ≤ x → x ≤ n → n - x < k → zRD T n x h g → R (DL_X3_digest_D_22 K k x h) (DL_X12_goHour_D_43 V n K' k x g) := by
  intro k
  induction k with
  | zero => exact fun x h g h0 h9 hk => absurd hk (by omega)
  | succ k ih =>
    intro x h g h0 h9 hk D
    simp only [DL_X3_digest_D_22, DL_X12_goHour_D_43]
    have hn : h 0 185 = n := D.2.2.2.1.1
    rw [hn]
    by_cases c1 : n ≤ x
    · rw [if_pos c1, if_pos c1]
      have : x = n := by omega
      subst this
      exact hK _ h g D
    · rw [if_neg c1, if_neg c1]
      have c7 : h 0 ((70 + x).toNat) = g 0 (((15 * x) + 7).toNat) := zRv_g D.1.1 7 (by decide) ⟨h0, by omega⟩ (by omega) (by omega)
      rw [c7]
      by_cases cl : g 0 (((15 * x) + 7).toNat) = 1
      · have l1 : (1 : Int) = D_X12_lives_D x g := by unfold D_X12_lives_D; rw [if_pos cl]
        obtain ⟨h9, e9⟩ : ∃ q, q = zm_up h 1 3 (zw ((h 1 3) + (h 2 x.toNat))) := ⟨_, rfl⟩
        obtain ⟨h15, e15⟩ : ∃ q, q = zm_up h9 0 ((130 + x).toNat) (zw ((h9 0 ((130 + x).toNat)) + 1)) := ⟨_, rfl⟩
        obtain ⟨h23, e23⟩ : ∃ q, q = zm_up h15 0 ((20 + x).toNat) (zw ((h15 0 ((20 + x).toNat)) + ((h15 2 x.toNat) - (h15 0 ((10 + x).toNat))))) := ⟨_, rfl⟩
        rw [if_pos cl, zlt_e l1, if_neg (show ¬ (1 : Int) = 0 by decide), zlt_e e9, zlt_e e15, zlt_e e23]
        have q := zR_dig D ⟨h0, by omega⟩ cl e9 e15 e23
        rw [zlt_e (rfl : D_X12_feeds_D x g = D_X12_feeds_D x g)]
        by_cases cF : (h23 0 ((20 + x).toNat)) ≤ 0
        · rw [if_pos cF, zlt_e (rfl : D_X3_starve_D x h23 = D_X3_starve_D x h23)]
          exact ih _ _ _ (by omega) (by omega) (by omega) (q.1 cF)
        · obtain ⟨h31, e31⟩ : ∃ q, q = D_X3_strike_D x h23 := ⟨_, rfl⟩
          rw [if_neg cF, zlt_e e31, zlt_e (rfl : zm_up h31 0 ((100 + x).toNat) (zw ((h31 0 ((100 + x).toNat)) + (Int.tdiv (h31 0 ((20 + x).toNat)) 10))) = _)]
          exact ih _ _ _ (by omega) (by omega) (by omega) (q.2 cF _ e31)
      · have l0 : (0 : Int) = D_X12_lives_D x g := by unfold D_X12_lives_D; rw [if_neg cl]
        rw [if_neg cl, zlt_e l0, if_pos rfl]
        exact ih _ _ _ (by omega) (by omega) (by omega) (zRD_no D ⟨h0, by omega⟩ cl)
