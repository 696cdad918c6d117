/-! THE HOUR, row against row: born on both sides; all CLOCKS that go wild (by hand) -/
theorem zGk_n {n : Int} {g : zM} {x fm : Int} (G : zGk n g x fm) : zGk (n + 1) g x fm := by
  obtain ⟨g0, g1, g2, g3, g4, g5, g6, g7⟩ := G
  exact ⟨g0, g1, g2, g3, g4, g5, ⟨g6.1, by omega⟩, g7⟩
theorem zRW_born {T n n0 x a : Int} {h g : zM} (W : zRW T n n0 x h g) (hn9 : n ≤ 9) (ha : 0 ≤ a ∧ a < n) (hx : a < x) : zRW T (n + 1) n0 x (D_X3_bear_D a h) (D_X12_isBorn_D a g) := by
  obtain ⟨⟨w1, w2, w3, w4, w5⟩, w6, w7, ⟨w8, w9, w10, w11, w12⟩, ⟨w13, w14, w15⟩, ⟨w16, w17⟩, ⟨w18, w19, w20, w21, w22, w23⟩, w24⟩ := W
  obtain ⟨b, b1, b2, b3⟩ := zR_mate w1 w8 w9 ha ((10 - (0 : Int)).toNat + 1) 0 (by decide) (by omega)
  have ga := w6 a ha.1 ha.2
  rw [if_neg (show ¬ (x ≤ a ∧ a < n0) by omega)] at ga
  have bb : 0 ≤ (if b = -1 then a else b) ∧ (if b = -1 then a else b) < n := by
    rcases b1 with q | q
    · rw [if_pos q]; exact ha
    · rw [if_neg (by omega)]; exact q
  have gb := w6 _ bb.1 bb.2
  have e5 : h 0 ((50 + a).toNat) = g 0 (((15 * a) + 5).toNat) := zRv_g w1 5 (by decide) ha (by omega) (by omega)
  have e5b : h 0 ((50 + (if b = -1 then a else b)).toNat) = g 0 (((15 * (if b = -1 then a else b)) + 5).toNat) := zRv_g w1 5 (by decide) bb (by omega) (by omega)
  have k5 := ga.2.2.2.2.2.1
  have k5b := gb.2.2.2.2.2.1
  have hkd : Int.tmod (zw (g 0 (((15 * a) + 5).toNat) + g 0 (((15 * (if b = -1 then a else b)) + 5).toNat))) 4 = zw (Int.tmod (zw (h 0 ((50 + a).toNat) + h 0 ((50 + (if b = -1 then a else b)).toNat))) 4) := by
    rw [e5, e5b]
    have tm := ztm (zw (g 0 (((15 * a) + 5).toNat) + g 0 (((15 * (if b = -1 then a else b)) + 5).toNat))) 4 (by decide)
    exact (zw_id (by omega)).symm
  have kR : 0 ≤ Int.tmod (zw (g 0 (((15 * a) + 5).toNat) + g 0 (((15 * (if b = -1 then a else b)) + 5).toNat))) 4 ∧ Int.tmod (zw (g 0 (((15 * a) + 5).toNat) + g 0 (((15 * (if b = -1 then a else b)) + 5).toNat))) 4 ≤ 3 := by
    have z := zw_id (a := g 0 (((15 * a) + 5).toNat) + g 0 (((15 * (if b = -1 then a else b)) + 5).toNat)) (by omega)
    rw [z]
    have tm := ztm (g 0 (((15 * a) + 5).toNat) + g 0 (((15 * (if b = -1 then a else b)) + 5).toNat)) 4 (by decide)
    have t2 := tm.2.2 (by omega)
    omega
  obtain ⟨h1, c0, c1, c2, c3, c4, c5, c6, c7, c8, c9, c10, c11, c12, c13, c14, c15⟩ := zC_bear (n := n) (a := a) (h := h) w8 ⟨by omega, hn9⟩ ha (fun j j0 j4 => by
    have q : h 0 ((10 * j + a).toNat) = g 0 (((15 * a) + j).toNat) := zRv_g w1 j.toNat (by omega) ha (by omega) (by omega)
    rw [q]
    obtain ⟨g0, g1, g2, g3, g4, _⟩ := ga
    rcases (show j = 0 ∨ j = 1 ∨ j = 2 ∨ j = 3 ∨ j = 4 by omega) with k | k | k | k | k <;> subst k
    · rw [show ((15 * a) + 0).toNat = (15 * a).toNat by omega]; omega
    · omega
    · omega
    · omega
    · omega) (by omega) (b := if b = -1 then a else b) (Or.inr bb) (fun h1 q1 q2 => by
    have H1 : zRv n h1 g := fun j c i1 i2 i3 => by
      rw [q1 _ (by omega)]
      exact w1 j c i1 i2 i3
    obtain ⟨b', b1', b2', b3'⟩ := zR_mate H1 q2 w9 ha ((10 - (0 : Int)).toNat + 1) 0 (by decide) (by omega)
    have eb : b' = b := by
      obtain ⟨y1, y2⟩ := b3 (fun q _ => (fun _ _ => q))
      obtain ⟨y3, y4⟩ := b3' (fun q _ => (fun _ _ => q))
      exact congrFun (congrFun (y4.symm.trans y2) 0) 0
    rw [← eb]
    exact b2') rfl
  obtain ⟨g1, m0, m1, m2, m3, m4, m5, m6, m7, m8, m9, m10, m11⟩ := zM_born (n := n) (a := a) (g := g) w9 ⟨by omega, hn9⟩ ha b1 b3
  rw [c0, m0]
  have m175 : g1 0 175 = g 0 175 := m1 175 (by omega) (by decide)
  refine ⟨⟨?_, ⟨?_, ?_⟩, ?_, ?_, ?_⟩, ?_, ?_, ⟨c3, m2, w10, by omega, by omega⟩, ⟨by rw [c2 184 (by omega) (by decide), m175]; exact w13, by rw [m175]; exact w14, by rw [m175]; exact w15⟩, ⟨by rw [c2 186 (by omega) (by decide), m1 176 (by omega) (by decide)]; exact w16, by rw [c2 187 (by omega) (by decide), m1 177 (by omega) (by decide)]; exact w17⟩, ⟨by rw [c5 3 (by decide), m4 37 (by decide)]; exact w18, by rw [c5 4 (by decide), m4 38 (by decide)]; exact w19, by rw [c5 5 (by decide), m4 39 (by decide)]; exact w20, by rw [c5 7 (by decide), m4 41 (by decide)]; exact w21, by rw [c6, m5, w22], by rw [c5 8 (by decide), m4 42 (by decide)]; exact w23⟩, ?_⟩
  · intro j c j1 j2 j3
    by_cases e : (c : Int) = n
    · rcases z14 j1 j2 with k | k | k | k | k | k | k | k | k | k | k | k | k | k <;> subst k
      · rw [show 10 * 0 + c = (10 * (0 : Int) + n).toNat by omega, show 15 * c + 0 = ((15 * n) + 0).toNat by omega, c7 0 (by decide) (by decide), m6 0 (by decide) (by decide)]
        exact zRv_g w1 0 (by decide) ha (by omega) (by omega)
      · rw [show 10 * 1 + c = (10 * (1 : Int) + n).toNat by omega, show 15 * c + 1 = ((15 * n) + 1).toNat by omega, c7 1 (by decide) (by decide), m6 1 (by decide) (by decide)]
        exact zRv_g w1 1 (by decide) ha (by omega) (by omega)
      · rw [show 10 * 2 + c = (10 * (2 : Int) + n).toNat by omega, show 15 * c + 2 = ((15 * n) + 2).toNat by omega, c7 2 (by decide) (by decide), m6 2 (by decide) (by decide)]
        exact zRv_g w1 2 (by decide) ha (by omega) (by omega)
      · rw [show 10 * 3 + c = (10 * (3 : Int) + n).toNat by omega, show 15 * c + 3 = ((15 * n) + 3).toNat by omega, c7 3 (by decide) (by decide), m6 3 (by decide) (by decide)]
        exact zRv_g w1 3 (by decide) ha (by omega) (by omega)
      · rw [show 10 * 4 + c = (10 * (4 : Int) + n).toNat by omega, show 15 * c + 4 = ((15 * n) + 4).toNat by omega, c7 4 (by decide) (by decide), m6 4 (by decide) (by decide)]
        exact zRv_g w1 4 (by decide) ha (by omega) (by omega)
      · rw [show 10 * 5 + c = (50 + n).toNat by omega, show 15 * c + 5 = ((15 * n) + 5).toNat by omega, c8, m7]
        exact hkd.symm
      · rw [show 10 * 6 + c = (60 + n).toNat by omega, show 15 * c + 6 = ((15 * n) + 6).toNat by omega, c9, m8]
      · rw [show 10 * 7 + c = (70 + n).toNat by omega, show 15 * c + 7 = ((15 * n) + 7).toNat by omega, c10, m9]
      · rw [show 10 * 8 + c = (10 * (8 : Int) + n).toNat by omega, show 15 * c + 8 = ((15 * n) + 8).toNat by omega, c11 8 (by decide) (by decide), m10 8 (by decide) (by decide)]
      · rw [show 10 * 9 + c = (10 * (9 : Int) + n).toNat by omega, show 15 * c + 9 = ((15 * n) + 9).toNat by omega, c11 9 (by decide) (by decide), m10 9 (by decide) (by decide)]
      · rw [show 10 * 10 + c = (10 * (10 : Int) + n).toNat by omega, show 15 * c + 10 = ((15 * n) + 10).toNat by omega, c11 10 (by decide) (by decide), m10 10 (by decide) (by decide)]
      · rw [show 10 * 11 + c = (10 * (11 : Int) + n).toNat by omega, show 15 * c + 11 = ((15 * n) + 11).toNat by omega, c11 11 (by decide) (by decide), m10 11 (by decide) (by decide)]
      · rw [show 10 * 13 + c = (130 + n).toNat by omega, show 15 * c + 13 = ((15 * n) + 13).toNat by omega, c13, m10 13 (by decide) (by decide)]
      · rw [show 10 * 14 + c = (140 + n).toNat by omega, show 15 * c + 14 = ((15 * n) + 14).toNat by omega, c14, m11]
    · rw [c1 _ (by omega) (by omega), m1 _ (by omega) (by omega)]
      exact w1 j c j1 j2 (by omega)
  · intro y y0 y1
    rw [m3 3 (by decide) (by decide)]
    by_cases e : y = n
    · subst e
      rw [c15]
      exact (w2.2 y (by omega) (by omega)).symm
    · rw [c1 _ (by omega) (by omega)]
      exact w2.1 y y0 (by omega)
  · intro y y0 y1
    rw [m3 3 (by decide) (by decide)]
    exact w2.2 y (by omega) y1
  · exact zRq_cg w3 ⟨c4 6 (by decide) (by decide), c4 7 (by decide) (by decide), c4 8 (by decide) (by decide), c4 9 (by decide) (by decide), c5 1 (by decide)⟩ ⟨m3 6 (by decide) (by decide), m3 7 (by decide) (by decide), m3 8 (by decide) (by decide), m4 26 (by decide), m4 27 (by decide), m4 33 (by decide)⟩
  · intro p p0 p5
    rw [c2 _ (by omega) (by omega), c2 _ (by omega) (by omega), c2 _ (by omega) (by omega), c2 _ (by omega) (by omega), m1 _ (by omega) (by omega), m1 _ (by omega) (by omega), m1 _ (by omega) (by omega), m1 _ (by omega) (by omega)]
    exact w4 p p0 p5
  · intro p p0 p5
    have q7 := w3.2.2.2.2.2.2.1
    rw [m4 27 (by decide)] at p5
    rw [m1 _ (by omega) (by omega), m1 _ (by omega) (by omega), m1 _ (by omega) (by omega), m4 26 (by decide)]
    exact w5 p p0 p5
  · intro y y0 y1
    by_cases e : y = n
    · subst e
      rw [if_neg (by omega)]
      obtain ⟨g0, g1', g2, g3, g4, g5, g6, g7, g8, g11, g14, g9⟩ := ga
      have z0 := m6 0 (by decide) (by decide)
      have z1 := m6 1 (by decide) (by decide)
      have z2 := m6 2 (by decide) (by decide)
      have z3 := m6 3 (by decide) (by decide)
      have z4 := m6 4 (by decide) (by decide)
      have z8 := m10 8 (by decide) (by decide)
      have z9 := m10 9 (by decide) (by decide)
      have z11 := m10 11 (by decide) (by decide)
      rw [show ((15 * y) + 0).toNat = (15 * y).toNat by omega, show ((15 * a) + 0).toNat = (15 * a).toNat by omega] at z0
      unfold zGk
      rw [z0, z1, z2, z3, z4, m7, m8, m9, z8, z11, m11, z9]
      exact ⟨g0, g1', ⟨g2.1, g2.2.1, fun z => absurd rfl z⟩, g3, g4, kR, ⟨by omega, by omega⟩, by omega, by omega, by omega, by omega, by omega⟩
    · exact zGk_n (zGk_cg (w6 y y0 (by omega)) (fun q q1 q2 => m1 q (by omega) (by omega)) y0)
  · intro y y0 y1 yl
    rw [m175]
    by_cases e : y = n
    · subst e
      rw [m10 12 (by decide) (by decide), c12]
      omega
    · rw [m1 _ (by omega) (by omega)] at yl
      rw [m1 _ (by omega) (by omega), c1 _ (by omega) (by omega)]
      exact w7 y y0 (by omega) yl
  · intro y y0 y1
    rw [c4 2 (by decide) (by decide), m3 2 (by decide) (by decide)]
    exact w24 y y0 y1
