/-! THE HOUR, row against row: who goes where, who eats what (by hand) -/
theorem zm_self {m : zM} {p i : Nat} : zm_up m p i (m p i) = m := by
  funext q j
  unfold zm_up
  by_cases h : q = p ∧ j = i
  · rw [if_pos h, h.1, h.2]
  · rw [if_neg h]
def zRb (n : Int) (g : zM) : Prop := ∀ x : Int, 0 ≤ x → x < n → g 0 (((15 * x) + 7).toNat) = 1 → 0 ≤ g 0 (((15 * x) + 12).toNat) ∧ g 0 (((15 * x) + 12).toNat) ≤ g 0 175
/-- row against row, as an HOUR begins -/
def zRE (T n : Int) (h g : zM) : Prop := (zRv n h g ∧ zRs (fun _ => h 0 184) n h g ∧ zGc n g ∧ zRl n h g ∧ zRq h g ∧ zRp h g ∧ zGp g) ∧ (h 0 185 = n ∧ g 0 174 = n ∧ 0 ≤ n ∧ n ≤ 10) ∧ (h 0 184 = g 0 175 ∧ 0 ≤ g 0 175 ∧ g 0 175 ≤ 999999999 ∧ g 0 175 = T) ∧ (h 0 186 = g 0 176 ∧ h 0 187 = g 0 177) ∧ zRb n g
theorem zRp_g {h g : zM} (P : zRp h g) {p : Int} (h0 : 0 ≤ p ∧ p ≤ 5) : h 0 ((160 + p).toNat) = g 0 ((150 + (4 * p)).toNat) ∧ h 0 ((166 + p).toNat) = g 0 (((150 + (4 * p)) + 1).toNat) ∧ h 0 ((172 + p).toNat) = g 0 (((150 + (4 * p)) + 2).toNat) ∧ h 0 ((178 + p).toNat) = g 0 (((150 + (4 * p)) + 3).toNat) := P p h0.1 h0.2
/-- what speaks of CLOCKS alone goes on where no cell of theirs changes -/
theorem zRE_cc {T n : Int} {h g h1 g1 : zM} (E : zRE T n h g) (a : ∀ i : Nat, i < 160 → h1 0 i = h 0 i) (a4 : h1 0 184 = h 0 184 ∧ h1 0 185 = h 0 185 ∧ h1 0 186 = h 0 186 ∧ h1 0 187 = h 0 187) (b : ∀ q : Nat, q < 150 → g1 0 q = g 0 q) (b4 : g1 0 174 = g 0 174 ∧ g1 0 175 = g 0 175 ∧ g1 0 176 = g 0 176 ∧ g1 0 177 = g 0 177) (r : h1 1 = h 1 ∧ h1 6 = h 6 ∧ h1 7 = h 7 ∧ h1 8 = h 8 ∧ h1 9 = h 9) (s : g1 1 = g 1 ∧ g1 3 = g 3 ∧ g1 6 = g 6 ∧ g1 7 = g 7 ∧ g1 8 = g 8) (P : zRp h1 g1) (G : zGp g1) : zRE T n h1 g1 := by
  obtain ⟨⟨e1, e2, e3, e4, e5, e6, e7⟩, ⟨f1, f2, f3, f4⟩, ⟨k1, k2, k3⟩, ⟨l1, l2⟩, B⟩ := E
  obtain ⟨a41, a42, a43, a44⟩ := a4
  obtain ⟨b41, b42, b43, b44⟩ := b4
  obtain ⟨r1, r6, r7, r8, r9⟩ := r
  obtain ⟨s1, s3, s6, s7, s8⟩ := s
  refine ⟨⟨?_, ?_, ?_, ?_, ?_, P, G⟩, ⟨by rw [a42]; exact f1, by rw [b41]; exact f2, f3, f4⟩, ⟨by rw [a41, b42]; exact k1, by rw [b42]; exact k2, by rw [b42]; exact k3⟩, ⟨by rw [a43, b43]; exact l1, by rw [a44, b44]; exact l2⟩, ?_⟩
  · exact zRv_cg e1 f4 (fun i q => a i (by omega)) (fun q q1 _ => b q q1)
  · intro x h0 h9 hl
    rw [b _ (by omega)] at hl
    show g1 0 (((15 * x) + 12).toNat) = h1 0 184 - h1 0 ((120 + x).toNat)
    rw [b _ (by omega), a41, a _ (by omega)]
    exact e2 x h0 h9 hl
  · intro x h0 h9
    exact zGk_cg (e3 x h0 h9) (fun q q1 q2 => b q (by omega)) h0
  · refine ⟨fun x h0 h9 => ?_, fun x h0 h9 => ?_⟩
    · rw [a _ (by omega), s3]
      exact e4.1 x h0 h9
    · rw [s3]
      exact e4.2 x h0 h9
  · unfold zRq at e5 ⊢
    rw [r6, r7, r8, r9, r1, s1, s6, s7, s8]
    exact e5
  · intro x h0 h9 hl
    rw [b _ (by omega)] at hl
    rw [b _ (by omega), b42]
    exact B x h0 h9 hl
theorem zR_stc {n : Int} {g g1 : zM} (G : zGc n g) (hn : n ≤ 10) (b : ∀ q : Nat, q < 150 → g1 0 q = g 0 q) {x : Int} (hx : 0 ≤ x ∧ x < n) : D_X12_isStill_D x g1 = D_X12_isStill_D x g := by
  have q := (G x hx.1 hx.2).2.2.2.2.2.2.1
  unfold D_X12_isStill_D D_X12_lives_D zlt
  dsimp only
  rw [b (((15 * x) + 7).toNat) (by omega), b (((15 * x) + 6).toNat) (by omega)]
  by_cases c : g 0 (((15 * x) + 6).toNat) = -1
  · rw [if_pos c, if_pos c]
  · rw [if_neg c, if_neg c, b (((15 * g 0 (((15 * x) + 6).toNat)) + 7).toNat) (by omega), b (((15 * g 0 (((15 * x) + 6).toNat)) + 6).toNat) (by omega)]
/-- and what was eaten so far: at most a each -/
def zRat (T n a : Int) (h g : zM) : Prop := zRE T n h g ∧ zRo n h g ∧ ∀ x : Int, 0 ≤ x → x ≤ 9 → h 2 x.toNat = g 2 x.toNat ∧ 0 ≤ g 2 x.toNat ∧ g 2 x.toNat ≤ a
theorem zRat_le {T n a b : Int} {h g : zM} (A : zRat T n a h g) (l : a ≤ b) : zRat T n b h g := ⟨A.1, A.2.1, fun x h0 h9 => by
  have q := A.2.2 x h0 h9
  exact ⟨q.1, q.2.1, by omega⟩⟩
/-- walk, goesTo -/
theorem zR_walk {T n : Int} {h g : zM} (E : zRE T n h g) {x : Int} (hx : 0 ≤ x ∧ x < g 1 27) : D_X3_walk_D x h = zm_up h 0 ((172 + x).toNat) (D_X12_goesTo_D x g) ∧ 0 ≤ D_X12_goesTo_D x g ∧ D_X12_goesTo_D x g < g 1 26 := by
  obtain ⟨⟨e1, e2, e3, e4, e5, e6, e7⟩, ⟨f1, f2, f3, f4⟩, ⟨k1, k2, k3⟩, ⟨l1, l2⟩, B⟩ := E
  obtain ⟨q1, q2, q3, q4, q5, q6, q7, q8⟩ := e5
  have x5 : 0 ≤ x ∧ x ≤ 5 := by omega
  obtain ⟨p1, p2, p3, p4⟩ := zRp_g e6 x5
  obtain ⟨g1, g2, g3⟩ := e7 x hx.1 hx.2
  obtain ⟨w1, w2, w3⟩ := q8 x x5.1 x5.2
  have w9 := q5 x x5.1 x5.2
  unfold D_X3_walk_D D_X12_goesTo_D zlt
  dsimp only
  rw [p4, w9, k1]
  by_cases c1 : g 0 (((150 + (4 * x)) + 3).toNat) = -1
  · rw [if_pos c1, if_pos c1]
    by_cases c2 : g 8 x.toNat ≤ 0
    · rw [if_pos c2, if_pos c2, ← p3]
      exact ⟨zm_self.symm, by omega, by omega⟩
    · rw [if_neg c2, if_neg c2]
      have t := ztm (g 0 175) (g 8 x.toNat) (by omega)
      have t2 := t.2.2 k2
      have v := w3 (Int.tmod (g 0 175) (g 8 x.toNat)) t2.1 t.2.1
      have e : ((x * 8) + Int.tmod (g 0 175) (g 8 x.toNat)).toNat = ((8 * x) + Int.tmod (g 0 175) (g 8 x.toNat)).toNat := by omega
      rw [e, q4 _ (by omega), zw_id (by omega)]
      exact ⟨rfl, v.1, v.2⟩
  · rw [if_neg c1, if_neg c1, zw_id (by omega)]
    exact ⟨rfl, by omega, g3.2⟩
/-- behind a walk -/
theorem zRat_walk {T n a : Int} {h g : zM} (A : zRat T n a h g) {x v : Int} (hx : 0 ≤ x ∧ x < g 1 27) (hv : 0 ≤ v ∧ v < g 1 26) : zRat T n a (zm_up h 0 ((172 + x).toNat) v) (zm_up g 0 (((150 + (4 * x)) + 2).toNat) v) := by
  obtain ⟨E, O, W⟩ := A
  have E0 := E
  obtain ⟨⟨e1, e2, e3, e4, e5, e6, e7⟩, ⟨f1, f2, f3, f4⟩, ⟨k1, k2, k3⟩, ⟨l1, l2⟩, B⟩ := E
  have q7 := e5.2.2.2.2.2.2.1
  have b : ∀ q : Nat, q < 150 → zm_up g 0 (((150 + (4 * x)) + 2).toNat) v 0 q = g 0 q := fun q hq => zm_ne (Or.inr (by omega))
  refine ⟨zRE_cc E0 (fun i hi => zm_ne (Or.inr (by omega))) ⟨zm_ne (Or.inr (by omega)), zm_ne (Or.inr (by omega)), zm_ne (Or.inr (by omega)), zm_ne (Or.inr (by omega))⟩ b ⟨zm_ne (Or.inr (by omega)), zm_ne (Or.inr (by omega)), zm_ne (Or.inr (by omega)), zm_ne (Or.inr (by omega))⟩ ⟨zup_o (by decide), zup_o (by decide), zup_o (by decide), zup_o (by decide), zup_o (by decide)⟩ ⟨zup_o (by decide), zup_o (by decide), zup_o (by decide), zup_o (by decide), zup_o (by decide)⟩ ?_ ?_, ?_, ?_⟩
  · intro p h0 h5
    obtain ⟨p1, p2, p3, p4⟩ := e6 p h0 h5
    refine ⟨?_, ?_, ?_, ?_⟩
    · rw [zm_ne (Or.inr (by omega)), zm_ne (Or.inr (by omega))]; exact p1
    · rw [zm_ne (Or.inr (by omega)), zm_ne (Or.inr (by omega))]; exact p2
    · by_cases c : p = x
      · subst c
        rw [zm_eq, zm_eq]
      · rw [zm_ne (Or.inr (by omega)), zm_ne (Or.inr (by omega))]; exact p3
    · rw [zm_ne (Or.inr (by omega)), zm_ne (Or.inr (by omega))]; exact p4
  · intro p h0 h5
    rw [zup_o (q := 1) (by decide)] at h5
    obtain ⟨p1, p2, p3⟩ := e7 p h0 h5
    rw [zup_o (q := 1) (by decide), zm_ne (i := ((150 + 4 * x) + 2).toNat) (j := (150 + 4 * p).toNat) (Or.inr (by omega)), zm_ne (i := ((150 + 4 * x) + 2).toNat) (j := ((150 + 4 * p) + 3).toNat) (Or.inr (by omega))]
    refine ⟨p1, ?_, p3⟩
    by_cases c : p = x
    · subst c
      rw [zm_eq]
      exact hv
    · rw [zm_ne (Or.inr (by omega))]; exact p2
  · intro y h0 h9
    rw [zup_o (q := 3) (by decide), b _ (by omega), zR_stc e3 f4 b ⟨h0, h9⟩]
    exact O y h0 h9
  · intro y h0 h9
    rw [zup_o (q := 2) (by decide), zup_o (q := 2) (by decide)]
    exact W y h0 h9
/-- behind what one eats -/
theorem zRat_eat {T n a : Int} {h g : zM} (A : zRat T n a h g) {b e : Int} (ha : 0 ≤ a ∧ a ≤ 1000) (hb : 0 ≤ b ∧ b ≤ 9) (he : 0 ≤ e ∧ e ≤ 10) : zRat T n (a + 10) (zm_up h 2 b.toNat (zw ((h 2 b.toNat) + e))) (zm_up g 2 b.toNat (zw ((g 2 b.toNat) + e))) := by
  obtain ⟨E, O, W⟩ := A
  have w := W b hb.1 hb.2
  refine ⟨?_, ?_, ?_⟩
  · have r : ∀ v : Int, ∀ q : Nat, q ≠ 2 → zm_up h 2 b.toNat v q = h q := fun v q hq => zup_o hq
    have s : ∀ v : Int, ∀ q : Nat, q ≠ 2 → zm_up g 2 b.toNat v q = g q := fun v q hq => zup_o hq
    refine zRE_cc E (fun i _ => by rw [r _ 0 (by decide)]) (by rw [r _ 0 (by decide)]; exact ⟨rfl, rfl, rfl, rfl⟩) (fun q _ => by rw [s _ 0 (by decide)]) (by rw [s _ 0 (by decide)]; exact ⟨rfl, rfl, rfl, rfl⟩) ⟨r _ 1 (by decide), r _ 6 (by decide), r _ 7 (by decide), r _ 8 (by decide), r _ 9 (by decide)⟩ ⟨s _ 1 (by decide), s _ 3 (by decide), s _ 6 (by decide), s _ 7 (by decide), s _ 8 (by decide)⟩ ?_ ?_
    · intro p h0 h5
      rw [r _ 0 (by decide), s _ 0 (by decide)]
      exact E.1.2.2.2.2.2.1 p h0 h5
    · intro p h0 h5
      rw [s _ 1 (by decide)] at h5
      rw [s _ 0 (by decide), s _ 1 (by decide)]
      exact E.1.2.2.2.2.2.2 p h0 h5
  · intro y h0 h9
    rw [zup_o (q := 3) (by decide), zR_stc E.1.2.2.1 E.2.1.2.2.2 (g := g) (fun q _ => by rw [zup_o (q := 0) (by decide)]) ⟨h0, h9⟩, zup_o (q := 0) (by decide)]
    exact O y h0 h9
  · intro y h0 h9
    rw [w.1]
    by_cases c : y = b
    · subst c
      rw [zm_eq, zm_eq, zw_id (by omega)]
      exact ⟨rfl, by omega, by omega⟩
    · have q := W y h0 h9
      rw [zm_ne (Or.inr (by omega)), zm_ne (Or.inr (by omega))]
      exact ⟨q.1, q.2.1, by omega⟩
/-- all PERSONS -/
theorem zR_eats {V : Int → Int → Int → Int → Int → Int → Int} {T n : Int} {R : zM → zM → Prop} {K K' : Int → zM → zM} (hK : ∀ x h g, zRat T n 60 h g → R (K x h) (K' x g)) :
    ∀ (k : Nat) (x : Int) (h g : zM), 0 ≤ x → x ≤ 6 → zRat T n (10 * x) h g → R (DL_X3_pass_D_7 V K k x h) (DL_X12_eats_D_23 V K' k x g) := by
  intro k
  induction k with
  | zero => exact fun x h g h0 h6 A => hK x h g (zRat_le A (by omega))
  | succ k ih =>
    intro x h g h0 h6 A
    have E := A.1
    have q := E.1.2.2.2.2.1
    have q2 := q.2.1
    have q7 := q.2.2.2.2.2.2.1
    simp only [DL_X3_pass_D_7, DL_X12_eats_D_23, zlt, zl2]
    rw [q2]
    by_cases c1 : g 1 27 ≤ x
    · rw [if_pos c1, if_pos c1]
      exact hK x h g (zRat_le A (by omega))
    · rw [if_neg c1, if_neg c1]
      obtain ⟨w1, w2⟩ := zR_walk E (x := x) ⟨h0, by omega⟩
      rw [w1]
      have A3 := zRat_walk A (x := x) (v := D_X12_goesTo_D x g) ⟨h0, by omega⟩ w2
      generalize D_X12_goesTo_D x g = v at w2 A3 ⊢
      have hq : zm_up g 0 (((150 + (4 * x)) + 2).toNat) v 1 = g 1 := zup_o (by decide)
      generalize hh3 : zm_up h 0 ((172 + x).toNat) v = h3 at A3 ⊢
      generalize hg9 : zm_up g 0 (((150 + (4 * x)) + 2).toNat) v = g9 at A3 hq ⊢
      have E3 := A3.1
      obtain ⟨⟨e1, e2, e3, e4, e5, e6, e7⟩, ⟨f1, f2, f3, f4⟩, ⟨k1, k2, k3⟩, ⟨l1, l2⟩, B⟩ := E3
      obtain ⟨p1, p2, p3, p4⟩ := zRp_g e6 (p := x) ⟨h0, by omega⟩
      have gx := e7 x h0 (by rw [hq]; omega)
      rw [p2]
      by_cases c2 : g9 0 (((150 + (4 * x)) + 1).toNat) = 1
      · rw [if_pos c2, if_pos c2]
        exact ih _ _ _ (by omega) (by omega) (zRat_le A3 (by omega))
      · rw [if_neg c2, if_neg c2]
        obtain ⟨t1, t2, t3, t4, t5⟩ := zR_pick (V := V) e1 e2 f1 f2 e3 A3.2.1 e4 e5 p3 f3 gx.2.1 (fun y y0 y9 yl => by
          have z := B y y0 y9 yl
          omega)
        rw [t2, t3, ← t1]
        generalize (D_X3_choice_D V x h3).1 = b at t4 t5 ⊢
        by_cases c3 : b = -1
        · rw [if_pos c3, if_pos c3]
          exact ih _ _ _ (by omega) (by omega) (zRat_le A3 (by omega))
        · rw [if_neg c3, if_neg c3]
          have pt : h3 0 ((110 + b).toNat) = g9 0 (((15 * b) + 11).toNat) := zRv_g e1 11 (by decide) ⟨by omega, t5⟩ (by omega) (by omega)
          rw [pt]
          by_cases c4 : g9 0 (((15 * b) + 11).toNat) = 0
          · rw [if_pos c4, if_pos c4, p1]
            exact ih _ _ _ (by omega) (by omega) (zRat_le (zRat_eat A3 (by omega) ⟨by omega, by omega⟩ gx.1) (by omega))
          · rw [if_neg c4, if_neg c4]
            exact ih _ _ _ (by omega) (by omega) (zRat_le A3 (by omega))
