/-! THE HOUR, row against row: as a whole (by hand) -/
theorem zC_open {n : Int} {h0 g : zM} (H : zRv n h0 g) (hn : h0 0 185 = n) (G : zGc n g) :
    ∀ (k : Nat) (x : Int) (h : zM), 0 ≤ x → x ≤ n → n - x < k → (∀ p : Nat, p ≠ 3 → h p = h0 p) → (∀ y : Int, 0 ≤ y → y < x → (h 3 y.toNat = 0 ↔ ¬ (g 0 (((15 * y) + 7).toNat) = 1 ∧ D_X12_isStill_D y g = 0))) →
      (∀ p : Nat, p ≠ 3 → DL_X3_prepare_D_18 (fun _ q => q) k x h p = h0 p) ∧ (∀ y : Int, 0 ≤ y → y < n → (DL_X3_prepare_D_18 (fun _ q => q) k x h 3 y.toNat = 0 ↔ ¬ (g 0 (((15 * y) + 7).toNat) = 1 ∧ D_X12_isStill_D y g = 0))) := by
  intro k
  induction k with
  | zero => exact fun x h h0 h9 hk => absurd hk (by omega)
  | succ k ih =>
    intro x h x0 x9 hk a b
    have a0 := a 0 (by decide)
    simp only [DL_X3_prepare_D_18]
    rw [a0, hn]
    by_cases c1 : n ≤ x
    · rw [if_pos c1]
      exact ⟨a, fun y y0 y1 => b y y0 (by omega)⟩
    · rw [if_neg c1]
      have xn : 0 ≤ x ∧ x < n := ⟨x0, by omega⟩
      have c7 : h0 0 ((70 + x).toNat) = g 0 (((15 * x) + 7).toNat) := zRv_g H 7 (by decide) xn (by omega) (by omega)
      have Hh : zRv n h g := fun j c j1 j2 j3 => by rw [a0]; exact H j c j1 j2 j3
      have es : D_X3_isStill_D x h = D_X12_isStill_D x g := zR_still Hh (by rw [a0]; exact hn) G xn
      have st : ∀ v : Int, (v = 0 ↔ ¬ (g 0 (((15 * x) + 7).toNat) = 1 ∧ D_X12_isStill_D x g = 0)) → (∀ p : Nat, p ≠ 3 → DL_X3_prepare_D_18 (fun _ q => q) k (x + 1) (zm_up h 3 x.toNat v) p = h0 p) ∧ (∀ y : Int, 0 ≤ y → y < n → (DL_X3_prepare_D_18 (fun _ q => q) k (x + 1) (zm_up h 3 x.toNat v) 3 y.toNat = 0 ↔ ¬ (g 0 (((15 * y) + 7).toNat) = 1 ∧ D_X12_isStill_D y g = 0))) := by
        intro v hv
        refine ih _ _ (by omega) (by omega) (by omega) (fun p hp => by rw [zup_o hp]; exact a p hp) (fun y y0 y1 => ?_)
        by_cases e : y = x
        · subst e
          rw [zm_eq]
          exact hv
        · rw [zm_ne (Or.inr (by omega))]
          exact b y y0 (by omega)
      rw [c7]
      by_cases cl : g 0 (((15 * x) + 7).toNat) = 1
      · rw [if_pos cl, es, zlt_e (rfl : D_X12_isStill_D x g = D_X12_isStill_D x g)]
        by_cases cs : D_X12_isStill_D x g = 0
        · rw [if_pos cs, zlt_e (rfl : zm_up h 3 x.toNat 1 = _)]
          exact st 1 ⟨fun z => absurd z (by decide), fun z => absurd ⟨cl, cs⟩ z⟩
        · rw [if_neg cs, zlt_e (rfl : zm_up h 3 x.toNat 0 = _)]
          exact st 0 ⟨fun _ z => cs z.2, fun _ => rfl⟩
      · rw [if_neg cl, zlt_e (rfl : zm_up h 3 x.toNat 0 = _)]
        exact st 0 ⟨fun _ z => cl z.1, fun _ => rfl⟩
theorem zM_zero {V : Int → Int → Int → Int → Int → Int → Int} {g0 : zM} :
    ∀ (k : Nat) (x : Int) (g : zM), 0 ≤ x → x ≤ 10 → 10 - x < k → (∀ p : Nat, p ≠ 2 → g p = g0 p) → (∀ y : Int, 0 ≤ y → y < x → g 2 y.toNat = 0) →
      ∃ (x1 : Int) (g1 : zM), (∀ p : Nat, p ≠ 2 → g1 p = g0 p) ∧ (∀ y : Int, 0 ≤ y → y ≤ 9 → g1 2 y.toNat = 0) ∧ ∀ K : Int → zM → zM, DL_X12_eats_D_2 V K k x g = K x1 g1 := by
  intro k
  induction k with
  | zero => exact fun x g h0 h9 hk => absurd hk (by omega)
  | succ k ih =>
    intro x g x0 x9 hk a b
    simp only [DL_X12_eats_D_2]
    by_cases c1 : 10 ≤ x
    · refine ⟨x, g, a, fun y y0 y1 => b y y0 (by omega), fun K => ?_⟩
      rw [if_pos c1]
    · obtain ⟨x1, g1, b1, b2, b3⟩ := ih (x + 1) (zm_up g 2 x.toNat 0) (by omega) (by omega) (by omega) (fun p hp => by rw [zup_o hp]; exact a p hp) (fun y y0 y1 => by
        by_cases e : y = x
        · subst e
          exact zm_eq
        · rw [zm_ne (Or.inr (by omega))]
          exact b y y0 (by omega))
      refine ⟨x1, g1, b1, b2, fun K => ?_⟩
      rw [if_neg c1, zlt_e (rfl : zm_up g 2 x.toNat 0 = _)]
      exact b3 K
/-- looks leave the small memory -/
theorem zM_look2 {V : Int → Int → Int → Int → Int → Int → Int} {p room : Int} {g : zM} {K : Int → Int → Int → zM → Int × zM} (hK : ∀ b t x, (K b t x g).2 = g) : ∀ (k : Nat) (b t x : Int), (DL_X12_looksAt_D_9 V p room K k b t x g).2 = g := by
  intro k
  induction k with
  | zero => exact fun b t x => hK b t x
  | succ k ih =>
    intro b t x
    rw [zM9 V p room K k b t x g _ rfl]
    repeat' split
    all_goals first | exact hK b t x | exact ih _ _ _
theorem zM_look (V : Int → Int → Int → Int → Int → Int → Int) (p room : Int) (g : zM) : (D_X12_looksAt_D V p room g).2 = g := zM_look2 (fun _ _ _ => rfl) _ _ _ _
theorem zM_eat1 {V : Int → Int → Int → Int → Int → Int → Int} : ∀ (k : Nat) (x : Int) (g : zM), DL_X12_eats_D_23 V (fun _ q => q) k x g 1 = g 1 := by
  intro k
  induction k with
  | zero => exact fun x g => rfl
  | succ k ih =>
    intro x g
    simp only [DL_X12_eats_D_23]
    by_cases c1 : (g 1 27) ≤ x
    · rw [if_pos c1]
    · rw [if_neg c1, zlt_e (rfl : D_X12_goesTo_D x g = _)]
      obtain ⟨g9, f9⟩ : ∃ q, q = zm_up g 0 (((150 + (4 * x)) + 2).toNat) (D_X12_goesTo_D x g) := ⟨_, rfl⟩
      have e1 : g9 1 = g 1 := by rw [f9]; exact zup_o (by decide)
      rw [zlt_e f9]
      by_cases c2 : (g9 0 (((150 + (4 * x)) + 1).toNat)) = 1
      · rw [if_pos c2, ih]; exact e1
      · rw [if_neg c2]
        unfold zl2
        rw [zM_look]
        dsimp only
        by_cases c3 : (D_X12_looksAt_D V x (g9 0 (((150 + (4 * x)) + 2).toNat)) g9).1 = (-1)
        · rw [if_pos c3, ih]; exact e1
        · rw [if_neg c3]
          by_cases c4 : (g9 0 (((15 * (D_X12_looksAt_D V x (g9 0 (((150 + (4 * x)) + 2).toNat)) g9).1) + 11).toNat)) = 0
          · rw [if_pos c4, zlt_e (rfl : zm_up g9 2 _ _ = _), ih, zup_o (by decide)]; exact e1
          · rw [if_neg c4, ih]; exact e1
/-- the last of an HOUR -/
theorem zR_last {T n n1 : Int} {h g H G : zM} (W : zRW T n1 n n h g) (hT : g 0 175 ≤ 999999998) (a : ∀ i : Nat, i < 184 ∨ i = 185 → H 0 i = h 0 i) (a4 : H 0 184 = h 0 184 + 1) (a6 : H 0 186 = zw (h 0 186 + h 1 3)) (a7 : H 0 187 = zw (h 0 187 + h 1 4)) (ap : ∀ p : Nat, p ≠ 0 → H p = h p) (b : ∀ q : Nat, q < 175 → G 0 q = g 0 q) (b5 : G 0 175 = g 0 175 + 1) (b6 : G 0 176 = zw (g 0 176 + g 1 37)) (b7 : G 0 177 = zw (g 0 177 + g 1 38)) (bp : ∀ p : Nat, p ≠ 0 → G p = g p) : zRE (T + 1) n1 H G := by
  obtain ⟨⟨w1, w2, w3, w4, w5⟩, w6, w7, ⟨w8, w9, w10, w11, w12⟩, ⟨w13, w14, w15⟩, ⟨w16, w17⟩, ⟨w18, w19, w20, w21, w22, w23⟩, w24⟩ := W
  refine ⟨⟨?_, ?_, ?_, ?_, ?_, ?_, ?_⟩, ⟨by rw [a 185 (by omega)]; exact w8, by rw [b 174 (by omega)]; exact w9, by omega, w12⟩, ⟨by rw [a4, b5, w13], by rw [b5]; omega, by rw [b5]; omega⟩, ⟨by rw [a6, b6, w16, w18], by rw [a7, b7, w17, w19]⟩, ?_⟩
  · exact zRv_cg w1 w12 (fun i hi => a i (by omega)) (fun q hq _ => b q (by omega))
  · intro y y0 y1 yl
    rw [b _ (by omega)] at yl
    show G 0 (((15 * y) + 12).toNat) = H 0 184 - H 0 ((120 + y).toNat)
    rw [b _ (by omega), a4, a ((120 + y).toNat) (by omega), w13]
    exact (w7 y y0 y1 yl).1
  · intro y y0 y1
    have q := zGk_cg (g1 := G) (w6 y y0 y1) (fun k k1 k2 => b k (by omega)) y0
    rw [if_neg (by omega)] at q
    exact q
  · refine ⟨fun y y0 y1 => ?_, fun y y0 y1 => ?_⟩
    · rw [a _ (by omega), bp 3 (by decide)]; exact w2.1 y y0 y1
    · rw [bp 3 (by decide)]; exact w2.2 y y0 y1
  · exact zRq_cg w3 ⟨ap 6 (by decide), ap 7 (by decide), ap 8 (by decide), ap 9 (by decide), by rw [ap 1 (by decide)]⟩ ⟨bp 6 (by decide), bp 7 (by decide), bp 8 (by decide), by rw [bp 1 (by decide)], by rw [bp 1 (by decide)], by rw [bp 1 (by decide)]⟩
  · intro p p0 p5
    rw [a _ (by omega), a _ (by omega), a _ (by omega), a _ (by omega), b _ (by omega), b _ (by omega), b _ (by omega), b _ (by omega)]
    exact w4 p p0 p5
  · intro p p0 p5
    have q7 := w3.2.2.2.2.2.2.1
    rw [bp 1 (by decide)] at p5
    rw [b _ (by omega), b _ (by omega), b _ (by omega), bp 1 (by decide)]
    exact w5 p p0 p5
  · intro y y0 y1 yl
    rw [b _ (by omega)] at yl
    rw [b _ (by omega), b5]
    exact (w7 y y0 y1 yl).2
/-- the whole HOUR -/
theorem zR_hour {V : Int → Int → Int → Int → Int → Int → Int} {T n : Int} {h g : zM} (E : zRE T n h g) (hT : g 0 175 ≤ 999999998) :
    ∃ n1 : Int, n ≤ n1 ∧ zRE (T + 1) n1 (D_X3_pass_D V h) (D_X12_goHour_D V g) ∧ D_X12_goHour_D V g 0 175 = g 0 175 + 1 ∧ (D_X3_pass_D V h 1 3 = D_X12_goHour_D V g 1 37 ∧ D_X3_pass_D V h 1 4 = D_X12_goHour_D V g 1 38 ∧ D_X3_pass_D V h 1 5 = D_X12_goHour_D V g 1 39 ∧ D_X3_pass_D V h 1 6 = D_X12_goHour_D V g 1 40 ∧ D_X3_pass_D V h 1 7 = D_X12_goHour_D V g 1 41 ∧ D_X3_pass_D V h 1 8 = D_X12_goHour_D V g 1 42) ∧ (∀ y : Int, 0 ≤ y → y ≤ 9 → D_X3_pass_D V h 2 y.toNat = D_X12_goHour_D V g 2 y.toNat) := by
  have E0 := E
  obtain ⟨⟨e1, e2, e3, e4, e5, e6, e7⟩, ⟨f1, f2, f3, f4⟩, ⟨k1, k2, k3⟩, ⟨l1, l2⟩, B⟩ := E
  -- the class makes ready
  obtain ⟨h16, p16⟩ : ∃ q, q = zfl h 2 10 0 := ⟨_, rfl⟩
  have r16 : ∀ p : Nat, p ≠ 2 → h16 p = h p := by
    intro p hp
    rw [p16]
    funext j
    exact if_neg (fun z => hp z.1)
  obtain ⟨o1, o2⟩ := zC_open (n := n) (h0 := h16) (g := g) (fun j c j1 j2 j3 => by rw [r16 0 (by decide)]; exact e1 j c j1 j2 j3) (by rw [r16 0 (by decide)]; exact f1) e3 ((10 - (0 : Int)).toNat + 1) 0 h16 (by decide) f3 (by omega) (fun _ _ => rfl) (fun y y0 y1 => absurd y1 (by omega))
  have eP : D_X3_prepare_D h = DL_X3_prepare_D_18 (fun _ q => q) ((10 - (0 : Int)).toNat + 1) 0 h16 := by
    unfold D_X3_prepare_D
    rw [zlt_e p16, zlt_e (rfl : h16 = h16)]
  generalize hq22 : DL_X3_prepare_D_18 (fun _ q => q) ((10 - (0 : Int)).toNat + 1) 0 h16 = h22 at o1 o2 eP
  have z22 : ∀ y : Int, 0 ≤ y → y ≤ 9 → h22 2 y.toNat = 0 := by
    intro y y0 y1
    rw [o1 2 (by decide), p16]
    exact if_pos ⟨rfl, by omega⟩
  have s22 : ∀ p : Nat, p ≠ 2 → p ≠ 3 → h22 p = h p := fun p p2 p3 => (o1 p p3).trans (r16 p p2)
  -- the model makes ready
  obtain ⟨g54, q54⟩ : ∃ q, q = zm_up g 1 37 0 := ⟨_, rfl⟩
  obtain ⟨g58, q58⟩ : ∃ q, q = zm_up g54 1 38 0 := ⟨_, rfl⟩
  obtain ⟨g62, q62⟩ : ∃ q, q = zm_up g58 1 39 0 := ⟨_, rfl⟩
  obtain ⟨g66, q66⟩ : ∃ q, q = zm_up g62 1 40 0 := ⟨_, rfl⟩
  obtain ⟨g70, q70⟩ : ∃ q, q = zm_up g66 1 41 (-1) := ⟨_, rfl⟩
  obtain ⟨g74, q74⟩ : ∃ q, q = zm_up g70 1 42 (-1) := ⟨_, rfl⟩
  have r74 : ∀ p : Nat, p ≠ 1 → g74 p = g p := by
    intro p hp
    rw [q74, zup_o hp, q70, zup_o hp, q66, zup_o hp, q62, zup_o hp, q58, zup_o hp, q54, zup_o hp]
  have v74 : g74 1 37 = 0 ∧ g74 1 38 = 0 ∧ g74 1 39 = 0 ∧ g74 1 40 = 0 ∧ g74 1 41 = -1 ∧ g74 1 42 = -1 ∧ g74 1 26 = g 1 26 ∧ g74 1 27 = g 1 27 ∧ g74 1 33 = g 1 33 := by
    subst q74 q70 q66 q62 q58 q54
    refine ⟨?_, ?_, ?_, ?_, ?_, ?_, ?_, ?_, ?_⟩ <;> simp (disch := omega) only [zm_ne, zm_eq]
  obtain ⟨v1, v2, v3, v4, v5, v6, v7, v8, v9⟩ := v74
  obtain ⟨x1, g1, m1, m2, m3⟩ := zM_zero (V := V) (g0 := g74) ((10 - (0 : Int)).toNat + 1) 0 g74 (by decide) (by decide) (by omega) (fun _ _ => rfl) (fun y y0 y1 => absurd y1 (by omega))
  have eE : D_X12_eats_D V g74 = DL_X12_eats_D_23 V (fun _ q => q) ((6 - (0 : Int)).toNat + 1) 0 g1 := by
    unfold D_X12_eats_D
    rw [m3]
  have s1 : ∀ p : Nat, p ≠ 1 → p ≠ 2 → g1 p = g p := fun p p1 p2 => (m1 p p2).trans (r74 p p1)
  have g11 : g1 1 = g74 1 := m1 1 (by decide)
  have h0 : h22 0 = h 0 := s22 0 (by decide) (by decide)
  have g0 : g1 0 = g 0 := s1 0 (by decide) (by decide)
  have A : zRat T n (10 * 0) h22 g1 := by
    refine ⟨⟨⟨?_, ?_, ?_, ?_, ?_, ?_, ?_⟩, ⟨by rw [h0]; exact f1, by rw [g0]; exact f2, f3, f4⟩, ⟨by rw [h0, g0]; exact k1, by rw [g0]; exact k2, by rw [g0]; exact k3⟩, ⟨by rw [h0, g0]; exact l1, by rw [h0, g0]; exact l2⟩, ?_⟩, ?_, ?_⟩
    · intro j c j1 j2 j3
      rw [h0, g0]; exact e1 j c j1 j2 j3
    · intro y y0 y1
      rw [h0, g0]; exact e2 y y0 y1
    · intro y y0 y1
      exact zGk_cg (e3 y y0 y1) (fun q _ _ => by rw [g0]) y0
    · refine ⟨fun y y0 y1 => ?_, fun y y0 y1 => ?_⟩
      · rw [h0, s1 3 (by decide) (by decide)]; exact e4.1 y y0 y1
      · rw [s1 3 (by decide) (by decide)]; exact e4.2 y y0 y1
    · exact zRq_cg e5 ⟨s22 6 (by decide) (by decide), s22 7 (by decide) (by decide), s22 8 (by decide) (by decide), s22 9 (by decide) (by decide), by rw [s22 1 (by decide) (by decide)]⟩ ⟨s1 6 (by decide) (by decide), s1 7 (by decide) (by decide), s1 8 (by decide) (by decide), by rw [g11]; exact v7, by rw [g11]; exact v8, by rw [g11]; exact v9⟩
    · intro p p0 p5
      rw [h0, g0]; exact e6 p p0 p5
    · intro p p0 p5
      rw [g11, v8] at p5
      rw [g0, g11, v7]; exact e7 p p0 p5
    · intro y y0 y1
      rw [g0]; exact B y y0 y1
    · intro y y0 y1
      rw [g0, zR_stc e3 f4 (g1 := g1) (fun q _ => by rw [g0]) ⟨y0, y1⟩]
      exact o2 y y0 y1
    · intro y y0 y1
      rw [z22 y y0 y1, m2 y y0 y1]
      exact ⟨rfl, by decide, by decide⟩
  -- all PERSONS
  obtain ⟨Kc, hKc⟩ : ∃ Kc : Int → zM → zM, Kc = (fun (_ : Int) (h_25 : zM) => zlt (D_X3_digest_D h_25) fun h26 => zlt (D_X3_goWild_D h26) fun h29 => zlt (zm_up h29 0 184 ((h29 0 184) + 1)) fun h33 => zlt (zm_up h33 0 186 (zw ((h33 0 186) + (h33 1 3)))) fun h40 => zlt (zm_up h40 0 187 (zw ((h40 0 187) + (h40 1 4)))) fun h47 => h47) := ⟨_, rfl⟩
  have eC : D_X3_pass_D V h = DL_X3_pass_D_7 V Kc ((6 - (0 : Int)).toNat + 1) 0 h22 := by
    unfold D_X3_pass_D
    rw [zlt_e eP.symm, hKc]
  obtain ⟨x2, h25, c1, A2⟩ := zR_eats (V := V) (n := n) (R := fun a b => ∃ (x' : Int) (h' : zM), a = Kc x' h' ∧ zRat T n 60 h' b) (K := Kc) (K' := fun _ q => q) (fun x h g A => ⟨x, h, rfl, A⟩) ((6 - (0 : Int)).toNat + 1) 0 h22 g1 (by decide) (by decide) A
  have w79 : DL_X12_eats_D_23 V (fun _ q => q) ((6 - (0 : Int)).toNat + 1) 0 g1 1 = g1 1 := zM_eat1 _ _ _
  rw [← eE] at A2 w79
  generalize e79 : D_X12_eats_D V g74 = g79 at A2 w79 eE
  have u79 : g79 1 = g74 1 := w79.trans g11
  -- all is digested
  obtain ⟨h43, q43⟩ : ∃ q, q = zm_up h25 1 3 0 := ⟨_, rfl⟩
  obtain ⟨h46, q46⟩ : ∃ q, q = zm_up h43 1 4 0 := ⟨_, rfl⟩
  obtain ⟨h49, q49⟩ : ∃ q, q = zm_up h46 1 5 0 := ⟨_, rfl⟩
  obtain ⟨h52, q52⟩ : ∃ q, q = zm_up h49 1 7 (-1) := ⟨_, rfl⟩
  have r52 : ∀ p : Nat, p ≠ 1 → h52 p = h25 p := by
    intro p hp
    rw [q52, zup_o hp, q49, zup_o hp, q46, zup_o hp, q43, zup_o hp]
  have v52 : h52 1 3 = 0 ∧ h52 1 4 = 0 ∧ h52 1 5 = 0 ∧ h52 1 7 = -1 ∧ h52 1 1 = h25 1 1 := by
    subst q52 q49 q46 q43
    refine ⟨?_, ?_, ?_, ?_, ?_⟩ <;> simp (disch := omega) only [zm_ne, zm_eq]
  obtain ⟨y1, y2, y3, y4, y5⟩ := v52
  have D : zRD T n 0 h52 g79 := by
    obtain ⟨⟨⟨a1, a2, a3, a4, a5, a6, a7⟩, ⟨b1, b2, b3, b4⟩, ⟨c1, c2, c3⟩, ⟨d1, d2⟩, B2⟩, O2, W2⟩ := A2
    have r0 := r52 0 (by decide)
    refine ⟨⟨?_, ?_, ?_, ?_, a7⟩, ?_, ?_, ⟨by rw [r0]; exact b1, b2, b3, b4⟩, ⟨by rw [r0]; exact c1, c2, c3⟩, ⟨by rw [r0]; exact d1, by rw [r0]; exact d2⟩, ⟨by rw [y1, u79, v1], by rw [y2, u79, v2], by rw [y3, u79, v3], by rw [y4, u79, v5], by rw [u79, v2]; decide, by rw [u79, v2]; decide, by rw [u79, v4], by rw [u79, v6]⟩, ?_⟩
    · intro j c j1 j2 j3
      rw [r0]; exact a1 j c j1 j2 j3
    · exact ⟨fun y y0 y1 => by rw [r0]; exact a4.1 y y0 y1, a4.2⟩
    · exact zRq_cg a5 ⟨r52 6 (by decide), r52 7 (by decide), r52 8 (by decide), r52 9 (by decide), y5⟩ ⟨rfl, rfl, rfl, rfl, rfl, rfl⟩
    · intro p p0 p5
      rw [r0]; exact a6 p p0 p5
    · intro y y0 y9
      rw [if_neg (show ¬ y < 0 by omega)]
      exact a3 y y0 y9
    · intro y y0 y9 yl
      rw [if_neg (show ¬ y < 0 by omega), r0]
      have z1 := a2 y y0 y9 yl
      have z2 := B2 y y0 y9 yl
      dsimp only at z1
      exact ⟨by rw [z1, c1], z2.1, z2.2⟩
    · intro y y0 y9
      rw [r52 2 (by decide)]
      exact W2 y y0 y9
  obtain ⟨K74, hK74⟩ : ∃ K74 : Int → zM → zM, K74 = (fun (_ : Int) (h_85 : zM) => zlt (zm_up h_85 0 175 ((h_85 0 175) + 1)) fun h89 => zlt (zm_up h89 0 176 (zw ((h89 0 176) + (h89 1 37)))) fun h96 => zlt (zm_up h96 0 177 (zw ((h96 0 177) + (h96 1 38)))) fun h103 => h103) := ⟨_, rfl⟩
  obtain ⟨K43, hK43⟩ : ∃ K43 : Int → zM → zM, K43 = (fun (_ : Int) (h_83 : zM) => DL_X12_goHour_D_74 V (g74 0 174) K74 ((10 - (0 : Int)).toNat + 1) 0 h_83) := ⟨_, rfl⟩
  have n74 : g74 0 174 = n := by rw [r74 0 (by decide)]; exact f2
  have eG : D_X12_goHour_D V g = DL_X12_goHour_D_43 V n K43 ((10 - (0 : Int)).toNat + 1) 0 g79 := by
    unfold D_X12_goHour_D
    rw [zlt_e q54, zlt_e q58, zlt_e q62, zlt_e q66, zlt_e q70, zlt_e q74, zlt_e e79.symm, hK43, hK74, n74]
  obtain ⟨x3, g83, c3, D2⟩ := zR_digs (V := V) (n := n) (a := 0) (R := fun a b => ∃ (x' : Int) (g' : zM), b = K43 x' g' ∧ zRD T n n a g') (K := fun _ q => q) (K' := K43) (fun x h g D => ⟨x, g, rfl, D⟩) ((10 - (0 : Int)).toNat + 1) 0 h52 g79 (by decide) f3 (by omega) D
  have eDg : D_X3_digest_D h25 = DL_X3_digest_D_22 (fun _ q => q) ((10 - (0 : Int)).toNat + 1) 0 h52 := by
    unfold D_X3_digest_D
    rw [zlt_e q43, zlt_e q46, zlt_e q49, zlt_e q52]
  obtain ⟨h26, q26⟩ : ∃ q, q = D_X3_digest_D h25 := ⟨_, rfl⟩
  rw [← eDg, ← q26] at D2
  -- who goes wild
  obtain ⟨h29, q29⟩ : ∃ q, q = zm_up h26 1 6 0 := ⟨_, rfl⟩
  obtain ⟨h32, q32⟩ : ∃ q, q = zm_up h29 1 8 (-1) := ⟨_, rfl⟩
  have r32 : ∀ p : Nat, p ≠ 1 → h32 p = h26 p := by
    intro p hp
    rw [q32, zup_o hp, q29, zup_o hp]
  have v32 : h32 1 6 = 0 ∧ h32 1 8 = -1 ∧ ∀ i : Nat, i ≠ 6 → i ≠ 8 → h32 1 i = h26 1 i := by
    subst q32 q29
    refine ⟨?_, ?_, fun i i6 i8 => ?_⟩ <;> simp (disch := omega) only [zm_ne, zm_eq]
  obtain ⟨t1, t2, t3⟩ := v32
  have W : zRW T n n 0 h32 g83 := by
    obtain ⟨⟨d1, d2, d3, d4, d5⟩, d6, d7, ⟨d8, d9, d10, d11⟩, ⟨d12, d13, d14⟩, ⟨d15, d16⟩, ⟨d17, d19, d20, d21, d22, d23, d25, d26⟩, d18⟩ := D2
    have r0 := r32 0 (by decide)
    refine ⟨⟨?_, ?_, ?_, ?_, d5⟩, ?_, ?_, ⟨by rw [r0]; exact d8, d9, d10, Int.le_refl n, d11⟩, ⟨by rw [r0]; exact d12, d13, d14⟩, ⟨by rw [r0]; exact d15, by rw [r0]; exact d16⟩, ⟨by rw [t3 3 (by decide) (by decide)]; exact d17, by rw [t3 4 (by decide) (by decide)]; exact d19, by rw [t3 5 (by decide) (by decide)]; exact d20, by rw [t3 7 (by decide) (by decide)]; exact d21, by rw [t1, d25], by rw [t2, d26]⟩, ?_⟩
    · intro j c j1 j2 j3
      rw [r0]; exact d1 j c j1 j2 j3
    · exact ⟨fun y y0 y1 => by rw [r0]; exact d2.1 y y0 y1, d2.2⟩
    · exact zRq_cg d3 ⟨r32 6 (by decide), r32 7 (by decide), r32 8 (by decide), r32 9 (by decide), t3 1 (by decide) (by decide)⟩ ⟨rfl, rfl, rfl, rfl, rfl, rfl⟩
    · intro p p0 p5
      rw [r0]; exact d4 p p0 p5
    · intro y y0 y9
      have z := d6 y y0 y9
      rw [if_pos y9] at z
      rw [if_pos ⟨y0, y9⟩]
      exact z
    · intro y y0 y9 yl
      have z := d7 y y0 y9 yl
      rw [if_pos y9] at z
      rw [r0]
      exact z
    · intro y y0 y9
      rw [r32 2 (by decide)]
      exact (d18 y y0 y9).1
  have n32 : h32 0 185 = n := W.2.2.2.1.1
  obtain ⟨n1, x4, g85, c4, W2⟩ := zR_wilds (V := V) (n0 := n) (R := fun a b => ∃ (n1 x' : Int) (g' : zM), b = K74 x' g' ∧ zRW T n1 n n a g') (K := fun _ q => q) (K' := K74) (fun n1 x h g W => ⟨n1, x, g, rfl, W⟩) ((10 - (0 : Int)).toNat + 1) 0 n h32 g83 (by decide) f3 (by omega) W
  have eW : D_X3_goWild_D h26 = DL_X3_goWild_D_18 n (fun _ q => q) ((10 - (0 : Int)).toNat + 1) 0 h32 := by
    unfold D_X3_goWild_D
    rw [zlt_e q29, zlt_e q32, n32]
  obtain ⟨a29, qa29⟩ : ∃ q, q = D_X3_goWild_D h26 := ⟨_, rfl⟩
  rw [← eW, ← qa29] at W2
  obtain ⟨h33, q33⟩ : ∃ q, q = zm_up a29 0 184 ((a29 0 184) + 1) := ⟨_, rfl⟩
  obtain ⟨h40, q40⟩ : ∃ q, q = zm_up h33 0 186 (zw ((h33 0 186) + (h33 1 3))) := ⟨_, rfl⟩
  obtain ⟨h47, q47⟩ : ∃ q, q = zm_up h40 0 187 (zw ((h40 0 187) + (h40 1 4))) := ⟨_, rfl⟩
  have eC2 : D_X3_pass_D V h = h47 := by
    rw [eC, c1, hKc]
    dsimp only
    rw [zlt_e q26, zlt_e qa29, zlt_e q33, zlt_e q40, zlt_e q47]
  obtain ⟨g89, f89⟩ : ∃ q, q = zm_up g85 0 175 ((g85 0 175) + 1) := ⟨_, rfl⟩
  obtain ⟨g96, f96⟩ : ∃ q, q = zm_up g89 0 176 (zw ((g89 0 176) + (g89 1 37))) := ⟨_, rfl⟩
  obtain ⟨g103, f103⟩ : ∃ q, q = zm_up g96 0 177 (zw ((g96 0 177) + (g96 1 38))) := ⟨_, rfl⟩
  have eG2 : D_X12_goHour_D V g = g103 := by
    rw [eG, c3, hK43]
    dsimp only
    rw [n74, c4, hK74]
    dsimp only
    rw [zlt_e f89, zlt_e f96, zlt_e f103]
  rw [eC2, eG2]
  have aP : ∀ p : Nat, p ≠ 0 → h47 p = a29 p := fun p hp => by rw [q47, zup_o hp, q40, zup_o hp, q33, zup_o hp]
  have bP : ∀ p : Nat, p ≠ 0 → g103 p = g85 p := fun p hp => by rw [f103, zup_o hp, f96, zup_o hp, f89, zup_o hp]
  have b5 : g103 0 175 = g85 0 175 + 1 := by subst f103 f96 f89; simp (disch := omega) only [zm_ne, zm_eq]
  have w175 : g85 0 175 = g 0 175 := by
    have z := W2.2.2.2.2.1.2.2.2
    omega
  obtain ⟨u1, u2, u3, u4, u5, u6⟩ := W2.2.2.2.2.2.2.1
  refine ⟨n1, W2.2.2.2.1.2.2.2.1, zR_last W2 (by rw [w175]; exact hT) (fun i hi => ?_) ?_ ?_ ?_ aP (fun q hq => ?_) b5 ?_ ?_ bP, by rw [b5, w175], ⟨?_, ?_, ?_, ?_, ?_, ?_⟩, fun y y0 y1 => ?_⟩
  · subst q47 q40 q33; simp (disch := omega) only [zm_ne]
  · subst q47 q40 q33; simp (disch := omega) only [zm_ne, zm_eq]
  · subst q47 q40 q33; simp (disch := omega) only [zm_ne, zm_eq]
  · subst q47 q40 q33; simp (disch := omega) only [zm_ne, zm_eq]
  · subst f103 f96 f89; simp (disch := omega) only [zm_ne]
  · subst f103 f96 f89; simp (disch := omega) only [zm_ne, zm_eq]
  · subst f103 f96 f89; simp (disch := omega) only [zm_ne, zm_eq]
  · rw [aP 1 (by decide), bP 1 (by decide)]; exact u1
  · rw [aP 1 (by decide), bP 1 (by decide)]; exact u2
  · rw [aP 1 (by decide), bP 1 (by decide)]; exact u3
  · rw [aP 1 (by decide), bP 1 (by decide)]; exact u5
  · rw [aP 1 (by decide), bP 1 (by decide)]; exact u4
  · rw [aP 1 (by decide), bP 1 (by decide)]; exact u6
  · rw [aP 2 (by decide), bP 2 (by decide)]; exact W2.2.2.2.2.2.2.2 y y0 y1
