/-! THE HOUR, row against row: all CLOCKS that go wild (by hand) -/
theorem zRW_next {T n n0 x : Int} {h g : zM} (W : zRW T n n0 x h g) (hx : 0 ≤ x ∧ x < n0) (hF : g 0 (((15 * x) + 2).toNat) ≤ 99) : zRW T n n0 (x + 1) h g := by
  obtain ⟨w1, w6, w7⟩ := W
  refine ⟨w1, fun y y0 y1 => ?_, w7⟩
  have q := w6 y y0 y1
  by_cases e : y = x
  · subst e
    rw [if_neg (by omega)]
    obtain ⟨q1, q2, q3, q4⟩ := q
    exact ⟨q1, q2, ⟨q3.1, hF, q3.2.2⟩, q4⟩
  · by_cases e2 : x ≤ y ∧ y < n0
    · rw [if_pos e2] at q
      rw [if_pos (by omega)]
      exact q
    · rw [if_neg e2] at q
      rw [if_neg (by omega)]
      exact q
/-- FAT is half of it -/
theorem zRW_half {T n n0 x v : Int} {h g H G : zM} (W : zRW T n n0 x h g) (hx : 0 ≤ x ∧ x < n0) (hv : 0 ≤ v ∧ v ≤ 99) (a : ∀ i : Nat, (i : Int) ≠ 20 + x → H 0 i = h 0 i) (av : H 0 ((20 + x).toNat) = v) (b : ∀ q : Nat, (q : Int) ≠ 15 * x + 2 → G 0 q = g 0 q) (bv : G 0 (((15 * x) + 2).toNat) = v) (ap : ∀ p : Nat, p ≠ 0 → p ≠ 1 → H p = h p) (bp : ∀ p : Nat, p ≠ 0 → p ≠ 1 → G p = g p) (a1 : ∀ i : Nat, i ≠ 8 → H 1 i = h 1 i) (b1 : ∀ i : Nat, i ≠ 42 → G 1 i = g 1 i) (e8 : H 1 8 = G 1 42) : zRW T n n0 (x + 1) H G := by
  obtain ⟨⟨w1, w2, w3, w4, w5⟩, w6, w7, ⟨w8, w9, w10, w11, w12⟩, ⟨w13, w14, w15⟩, ⟨w16, w17⟩, ⟨w18, w19, w20, w21, w22, w23⟩, w24⟩ := W
  have b175 : G 0 175 = g 0 175 := b 175 (by omega)
  refine ⟨⟨?_, ⟨?_, ?_⟩, ?_, ?_, ?_⟩, ?_, ?_, ⟨by rw [a 185 (by omega)]; exact w8, by rw [b 174 (by omega)]; exact w9, w10, w11, w12⟩, ⟨by rw [a 184 (by omega), b175]; exact w13, by rw [b175]; exact w14, by rw [b175]; exact w15⟩, ⟨by rw [a 186 (by omega), b 176 (by omega)]; exact w16, by rw [a 187 (by omega), b 177 (by omega)]; exact w17⟩, ⟨by rw [a1 3 (by decide), b1 37 (by decide)]; exact w18, by rw [a1 4 (by decide), b1 38 (by decide)]; exact w19, by rw [a1 5 (by decide), b1 39 (by decide)]; exact w20, by rw [a1 7 (by decide), b1 41 (by decide)]; exact w21, by rw [a1 6 (by decide), b1 40 (by decide)]; exact w22, e8⟩, ?_⟩
  · intro j c j1 j2 j3
    by_cases e : (c : Int) = x ∧ j = 2
    · obtain ⟨e1, e2⟩ := e
      subst e2
      rw [show 10 * 2 + c = (20 + x).toNat by omega, show 15 * c + 2 = ((15 * x) + 2).toNat by omega, av, bv]
    · rw [a _ (by omega), b _ (by omega)]
      exact w1 j c j1 j2 j3
  · intro y y0 y1
    rw [a _ (by omega), bp 3 (by decide) (by decide)]
    exact w2.1 y y0 y1
  · intro y y0 y1
    rw [bp 3 (by decide) (by decide)]
    exact w2.2 y y0 y1
  · exact zRq_cg w3 ⟨ap 6 (by decide) (by decide), ap 7 (by decide) (by decide), ap 8 (by decide) (by decide), ap 9 (by decide) (by decide), a1 1 (by decide)⟩ ⟨bp 6 (by decide) (by decide), bp 7 (by decide) (by decide), bp 8 (by decide) (by decide), b1 26 (by decide), b1 27 (by decide), b1 33 (by decide)⟩
  · intro p p0 p5
    rw [a _ (by omega), a _ (by omega), a _ (by omega), a _ (by omega), b _ (by omega), b _ (by omega), b _ (by omega), b _ (by omega)]
    exact w4 p p0 p5
  · intro p p0 p5
    rw [b1 27 (by decide)] at p5
    rw [b _ (by omega), b _ (by omega), b _ (by omega), b1 26 (by decide)]
    exact w5 p p0 p5
  · intro y y0 y1
    by_cases e : y = x
    · subst e
      rw [if_neg (by omega)]
      obtain ⟨q1, q2, q3, q4, q5, q6, q7, q8, q9, q10, q11, q12⟩ := w6 y y0 y1
      unfold zGk
      rw [b ((15 * y).toNat) (by omega), b (((15 * y) + 1).toNat) (by omega), bv, b (((15 * y) + 3).toNat) (by omega), b (((15 * y) + 4).toNat) (by omega), b (((15 * y) + 5).toNat) (by omega), b (((15 * y) + 6).toNat) (by omega), b (((15 * y) + 7).toNat) (by omega), b (((15 * y) + 8).toNat) (by omega), b (((15 * y) + 11).toNat) (by omega), b (((15 * y) + 14).toNat) (by omega), b (((15 * y) + 9).toNat) (by omega)]
      exact ⟨q1, q2, ⟨hv.1, hv.2, fun _ => hv.2⟩, q4, q5, q6, q7, q8, q9, q10, q11, q12⟩
    · have q := zGk_cg (g1 := G) (w6 y y0 y1) (fun k k1 k2 => b k (by omega)) y0
      by_cases e2 : x ≤ y ∧ y < n0
      · rw [if_pos e2] at q
        rw [if_pos (by omega)]
        exact q
      · rw [if_neg e2] at q
        rw [if_neg (by omega)]
        exact q
  · intro y y0 y1 yl
    rw [b _ (by omega)] at yl
    rw [b _ (by omega), b175, a _ (by omega)]
    exact w7 y y0 y1 yl
  · intro y y0 y1
    rw [ap 2 (by decide) (by decide), bp 2 (by decide) (by decide)]
    exact w24 y y0 y1
theorem zR_wilds {V : Int → Int → Int → Int → Int → Int → Int} {T n0 : Int} {R : zM → zM → Prop} {K K' : Int → zM → zM} (hK : ∀ n x h g, zRW T n n0 n0 h g → R (K x h) (K' x g)) :
    ∀ (k : Nat) (x n : Int) (h g : zM), 0 ≤ x → x ≤ n0 → n0 - x < k → zRW T n n0 x h g → R (DL_X3_goWild_D_18 n0 K k x h) (DL_X12_goHour_D_74 V n0 K' k x g) := by
  intro k
  induction k with
  | zero => exact fun x n h g h0 h9 hk => absurd hk (by omega)
  | succ k ih =>
    intro x n h g h0 h9 hk W
    simp only [DL_X3_goWild_D_18, DL_X12_goHour_D_74]
    by_cases c1 : n0 ≤ x
    · rw [if_pos c1, if_pos c1]
      have : x = n0 := by omega
      subst this
      exact hK n _ h g W
    · rw [if_neg c1, if_neg c1]
      have W0 := W
      obtain ⟨⟨w1, w2, w3, w4, w5⟩, w6, w7, ⟨w8, w9, w10, w11, w12⟩, w13, w16, ⟨w18, w19, w20, w21, w22, w23⟩, w24⟩ := W
      have xn : 0 ≤ x ∧ x < n := ⟨h0, by omega⟩
      have c7 : h 0 ((70 + x).toNat) = g 0 (((15 * x) + 7).toNat) := zRv_g w1 7 (by decide) xn (by omega) (by omega)
      have c2 : h 0 ((20 + x).toNat) = g 0 (((15 * x) + 2).toNat) := zRv_g w1 2 (by decide) xn (by omega) (by omega)
      have c3 : h 0 ((30 + x).toNat) = g 0 (((15 * x) + 3).toNat) := zRv_g w1 3 (by decide) xn (by omega) (by omega)
      obtain ⟨q1, q2, q3, q4, q5⟩ := w6 x h0 xn.2
      rw [c7]
      by_cases cl : g 0 (((15 * x) + 7).toNat) = 1
      · have l1 : (1 : Int) = D_X12_lives_D x g := by unfold D_X12_lives_D; rw [if_pos cl]
        rw [if_pos cl, zlt_e l1, if_neg (show ¬ (1 : Int) = 0 by decide), c2, c3]
        by_cases cF : g 0 (((15 * x) + 2).toNat) ≤ g 0 (((15 * x) + 3).toNat)
        · rw [if_pos cF, if_neg (by omega)]
          exact ih _ n _ _ (by omega) (by omega) (by omega) (zRW_next W0 ⟨h0, by omega⟩ (by omega))
        · rw [if_neg cF, if_pos (by omega)]
          have td := (ztd (g 0 (((15 * x) + 2).toNat)) 2 (by decide)).1 q3.1
          have th : Int.tdiv (g 0 (((15 * x) + 2).toNat)) 2 ≤ 79 := by
            rw [Int.tdiv_eq_ediv_of_nonneg q3.1]
            have : g 0 (((15 * x) + 2).toNat) ≤ 159 := by
              by_cases e : x ≤ x ∧ x < n0
              · rw [if_pos e] at q3; omega
              · rw [if_neg e] at q3; omega
            omega
          have ev : zw (Int.tdiv (g 0 (((15 * x) + 2).toNat)) 2) = Int.tdiv (g 0 (((15 * x) + 2).toNat)) 2 := zw_id (by omega)
          rw [ev]
          have H2 : ∀ H G : zM, (∀ i : Nat, (i : Int) ≠ 20 + x → H 0 i = h 0 i) → H 0 ((20 + x).toNat) = Int.tdiv (g 0 (((15 * x) + 2).toNat)) 2 → (∀ q : Nat, (q : Int) ≠ 15 * x + 2 → G 0 q = g 0 q) → G 0 (((15 * x) + 2).toNat) = Int.tdiv (g 0 (((15 * x) + 2).toNat)) 2 → (∀ p : Nat, p ≠ 0 → p ≠ 1 → H p = h p) → (∀ p : Nat, p ≠ 0 → p ≠ 1 → G p = g p) → (∀ i : Nat, i ≠ 8 → H 1 i = h 1 i) → (∀ i : Nat, i ≠ 42 → G 1 i = g 1 i) → H 1 8 = G 1 42 → R (if 10 ≤ (H 0 185) then DL_X3_goWild_D_18 n0 K k (x + 1) H else zlt (D_X3_bear_D x H) fun h21 => DL_X3_goWild_D_18 n0 K k (x + 1) h21) (if 10 ≤ (G 0 174) then DL_X12_goHour_D_74 V n0 K' k (x + 1) G else zlt (D_X12_isBorn_D x G) fun h35 => DL_X12_goHour_D_74 V n0 K' k (x + 1) h35) := by
            intro H G a av b bv ap bp a1 b1 e8
            have W2 := zRW_half W0 ⟨h0, by omega⟩ ⟨td.1, by omega⟩ a av b bv ap bp a1 b1 e8
            rw [a 185 (by omega), b 174 (by omega), w8, w9]
            by_cases cn : 10 ≤ n
            · rw [if_pos cn, if_pos cn]
              exact ih _ n _ _ (by omega) (by omega) (by omega) W2
            · rw [if_neg cn, if_neg cn, zlt_e (rfl : D_X3_bear_D x H = D_X3_bear_D x H), zlt_e (rfl : D_X12_isBorn_D x G = D_X12_isBorn_D x G)]
              exact ih _ (n + 1) _ _ (by omega) (by omega) (by omega) (zRW_born W2 (by omega) xn (by omega))
          obtain ⟨h11, e11⟩ : ∃ q, q = zm_up h 0 ((20 + x).toNat) (Int.tdiv (g 0 (((15 * x) + 2).toNat)) 2) := ⟨_, rfl⟩
          rw [zlt_e e11]
          have k8 : h11 1 8 = g 1 42 := by rw [e11, zm_ne (Or.inl (by decide))]; exact w23
          rw [k8]
          by_cases cw : g 1 42 = -1
          · obtain ⟨h16, e16⟩ : ∃ q, q = zm_up h11 1 8 x := ⟨_, rfl⟩
            obtain ⟨g17, f17⟩ : ∃ q, q = zm_up g 1 42 x := ⟨_, rfl⟩
            rw [if_pos cw, if_pos cw, zlt_e e16, zlt_e f17]
            have k2 : g17 0 (((15 * x) + 2).toNat) = g 0 (((15 * x) + 2).toNat) := by rw [f17]; exact zm_ne (Or.inl (by decide))
            rw [k2, ev]
            obtain ⟨g28, f28⟩ : ∃ q, q = zm_up g17 0 (((15 * x) + 2).toNat) (Int.tdiv (g 0 (((15 * x) + 2).toNat)) 2) := ⟨_, rfl⟩
            rw [zlt_e f28]
            subst e16 e11 f28 f17
            refine H2 _ _ (fun i hi => ?_) ?_ (fun q hq => ?_) ?_ (fun p p0 p1 => ?_) (fun p p0 p1 => ?_) (fun i hi => ?_) (fun i hi => ?_) ?_
            · simp (disch := omega) only [zm_ne]
            · simp (disch := omega) only [zm_ne, zm_eq]
            · simp (disch := omega) only [zm_ne]
            · simp (disch := omega) only [zm_ne, zm_eq]
            · funext j; simp (disch := omega) only [zm_ne]
            · funext j; simp (disch := omega) only [zm_ne]
            · simp (disch := omega) only [zm_ne]
            · simp (disch := omega) only [zm_ne]
            · simp (disch := omega) only [zm_ne, zm_eq]
          · rw [if_neg cw, if_neg cw]
            obtain ⟨g42, f42⟩ : ∃ q, q = zm_up g 0 (((15 * x) + 2).toNat) (Int.tdiv (g 0 (((15 * x) + 2).toNat)) 2) := ⟨_, rfl⟩
            rw [zlt_e f42]
            subst e11 f42
            refine H2 _ _ (fun i hi => ?_) ?_ (fun q hq => ?_) ?_ (fun p p0 p1 => ?_) (fun p p0 p1 => ?_) (fun i hi => ?_) (fun i hi => ?_) ?_
            · simp (disch := omega) only [zm_ne]
            · simp (disch := omega) only [zm_eq]
            · simp (disch := omega) only [zm_ne]
            · simp (disch := omega) only [zm_eq]
            · funext j; simp (disch := omega) only [zm_ne]
            · funext j; simp (disch := omega) only [zm_ne]
            · simp (disch := omega) only [zm_ne]
            · simp (disch := omega) only [zm_ne]
            · simp (disch := omega) only [zm_ne]
              exact w23
      · have l0 : (0 : Int) = D_X12_lives_D x g := by unfold D_X12_lives_D; rw [if_neg cl]
        rw [if_neg cl, zlt_e l0, if_pos rfl]
        exact ih _ n _ _ (by omega) (by omega) (by omega) (zRW_next W0 ⟨h0, by omega⟩ (q3.2.2 cl))
