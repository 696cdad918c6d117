/-! THE HOUR, row against row: looks (by hand) -/
theorem zw_zw (a b : Int) : zw (zw a + b) = zw (a + b) := by
  unfold zw
  exact Int.bmod_add_bmod
/-- columns: of n CLOCKS the class's row (h 0) holds what the model's (g 0) does -/
def zRv (n : Int) (h g : zM) : Prop := ∀ j c : Nat, j < 15 → j ≠ 12 → (c : Int) < n → h 0 (10 * j + c) = g 0 (15 * c + j)
theorem zRv_g {n : Int} {h g : zM} (H : zRv n h g) (j : Nat) {x : Int} {p q : Nat} (hj : j < 15 ∧ j ≠ 12) (hx : 0 ≤ x ∧ x < n) (hp : (p : Int) = 10 * (j : Int) + x) (hq : (q : Int) = 15 * x + (j : Int)) : h 0 p = g 0 q := by
  have e1 : p = 10 * j + x.toNat := by omega
  have e2 : q = 15 * x.toNat + j := by omega
  rw [e1, e2]
  exact H j x.toNat hj.1 hj.2 (by omega)
theorem zRv_up {n : Int} {h g : zM} (H : zRv n h g) (hn : n ≤ 10) {j : Nat} {x v : Int} {p q : Nat} (hj : j < 15) (hx : 0 ≤ x ∧ x ≤ 9) (hp : (p : Int) = 10 * (j : Int) + x) (hq : (q : Int) = 15 * x + (j : Int)) : zRv n (zm_up h 0 p v) (zm_up g 0 q v) := by
  intro j1 c1 a b e
  by_cases k : j1 = j ∧ (c1 : Int) = x
  · obtain ⟨k1, k2⟩ := k
    subst k1
    have e1 : 10 * j1 + c1 = p := by omega
    have e2 : 15 * c1 + j1 = q := by omega
    rw [e1, e2, zm_eq, zm_eq]
  · rw [zm_ne (Or.inr (by omega)), zm_ne (Or.inr (by omega))]
    exact H j1 c1 a b e
/-- what else is written -/
theorem zRv_cg {n : Int} {h g h1 g1 : zM} (H : zRv n h g) (hn : n ≤ 10) (a : ∀ i : Nat, i < 120 ∨ (130 ≤ i ∧ i < 150) → h1 0 i = h 0 i) (b : ∀ q : Nat, q < 150 → q % 15 ≠ 12 → g1 0 q = g 0 q) : zRv n h1 g1 := by
  intro j c e1 e2 e3
  rw [a _ (by omega), b _ (by omega) (by omega)]
  exact H j c e1 e2 e3
/-- HOURS since it struck, told from what HOUR each is counted -/
def zRs (f : Int → Int) (n : Int) (h g : zM) : Prop := ∀ x : Int, 0 ≤ x → x < n → g 0 (((15 * x) + 7).toNat) = 1 → g 0 (((15 * x) + 12).toNat) = f x - h 0 ((120 + x).toNat)
/-- PERSONS -/
def zRp (h g : zM) : Prop := ∀ p : Int, 0 ≤ p → p ≤ 5 → h 0 ((160 + p).toNat) = g 0 ((150 + (4 * p)).toNat) ∧ h 0 ((166 + p).toNat) = g 0 (((150 + (4 * p)) + 1).toNat) ∧ h 0 ((172 + p).toNat) = g 0 (((150 + (4 * p)) + 2).toNat) ∧ h 0 ((178 + p).toNat) = g 0 (((150 + (4 * p)) + 3).toNat)
def zRl (n : Int) (h g : zM) : Prop := (∀ x : Int, 0 ≤ x → x < n → h 0 ((150 + x).toNat) = g 3 x.toNat) ∧ ∀ x : Int, n ≤ x → x ≤ 9 → g 3 x.toNat = 0
/-- what no HOUR changes -/
def zRq (h g : zM) : Prop := h 6 3 = g 1 26 ∧ h 6 4 = g 1 27 ∧ (∀ r : Int, 0 ≤ r → r < g 1 26 → h 7 r.toNat = g 6 r.toNat ∨ (h 7 r.toNat = -1 ∧ g 6 r.toNat = 5)) ∧ (∀ i : Nat, i < 48 → h 8 i = g 7 i) ∧ (∀ p : Int, 0 ≤ p → p ≤ 5 → h 9 p.toNat = g 8 p.toNat) ∧ (h 1 1 = 0 ↔ g 1 33 = -1) ∧ (0 ≤ g 1 26 ∧ g 1 26 ≤ 5 ∧ 0 ≤ g 1 27 ∧ g 1 27 ≤ 6) ∧ (∀ p : Int, 0 ≤ p → p ≤ 5 → 0 ≤ g 8 p.toNat ∧ g 8 p.toNat ≤ 8 ∧ ∀ k : Int, 0 ≤ k → k < g 8 p.toNat → 0 ≤ g 7 ((8 * p) + k).toNat ∧ g 7 ((8 * p) + k).toNat < g 1 26)
/-- what is so of each CLOCK; FAT at most fm -/
def zGk (n : Int) (g : zM) (x fm : Int) : Prop := (0 ≤ g 0 ((15 * x).toNat) ∧ g 0 ((15 * x).toNat) ≤ 4) ∧ (0 ≤ g 0 (((15 * x) + 1).toNat) ∧ g 0 (((15 * x) + 1).toNat) ≤ 9) ∧ (0 ≤ g 0 (((15 * x) + 2).toNat) ∧ g 0 (((15 * x) + 2).toNat) ≤ fm ∧ (¬ g 0 (((15 * x) + 7).toNat) = 1 → g 0 (((15 * x) + 2).toNat) ≤ 99)) ∧ (0 ≤ g 0 (((15 * x) + 3).toNat) ∧ g 0 (((15 * x) + 3).toNat) ≤ 99) ∧ (1 ≤ g 0 (((15 * x) + 4).toNat) ∧ g 0 (((15 * x) + 4).toNat) ≤ 99) ∧ (0 ≤ g 0 (((15 * x) + 5).toNat) ∧ g 0 (((15 * x) + 5).toNat) ≤ 3) ∧ (-1 ≤ g 0 (((15 * x) + 6).toNat) ∧ g 0 (((15 * x) + 6).toNat) < n) ∧ (0 ≤ g 0 (((15 * x) + 7).toNat) ∧ g 0 (((15 * x) + 7).toNat) ≤ 1) ∧ (0 ≤ g 0 (((15 * x) + 8).toNat) ∧ g 0 (((15 * x) + 8).toNat) ≤ 99) ∧ (0 ≤ g 0 (((15 * x) + 11).toNat) ∧ g 0 (((15 * x) + 11).toNat) ≤ 1) ∧ (-1 ≤ g 0 (((15 * x) + 14).toNat) ∧ g 0 (((15 * x) + 14).toNat) < x) ∧ (-2147483648 ≤ g 0 (((15 * x) + 9).toNat) ∧ g 0 (((15 * x) + 9).toNat) ≤ 2147483647)
def zGc (n : Int) (g : zM) : Prop := ∀ x : Int, 0 ≤ x → x < n → zGk n g x 99
theorem zGk_cg {n : Int} {g g1 : zM} {x fm : Int} (G : zGk n g x fm) (b : ∀ q : Nat, 15 * x ≤ (q : Int) → (q : Int) < 15 * x + 15 → g1 0 q = g 0 q) (hx : 0 ≤ x) : zGk n g1 x fm := by
  unfold zGk at G ⊢
  rw [b ((15 * x).toNat) (by omega) (by omega), b (((15 * x) + 1).toNat) (by omega) (by omega), b (((15 * x) + 2).toNat) (by omega) (by omega), b (((15 * x) + 3).toNat) (by omega) (by omega), b (((15 * x) + 4).toNat) (by omega) (by omega), b (((15 * x) + 5).toNat) (by omega) (by omega), b (((15 * x) + 6).toNat) (by omega) (by omega), b (((15 * x) + 7).toNat) (by omega) (by omega), b (((15 * x) + 8).toNat) (by omega) (by omega), b (((15 * x) + 11).toNat) (by omega) (by omega), b (((15 * x) + 14).toNat) (by omega) (by omega), b (((15 * x) + 9).toNat) (by omega) (by omega)]
  exact G
/-- and of each PERSON -/
def zGp (g : zM) : Prop := ∀ p : Int, 0 ≤ p → p < g 1 27 → (0 ≤ g 0 ((150 + (4 * p)).toNat) ∧ g 0 ((150 + (4 * p)).toNat) ≤ 10) ∧ (0 ≤ g 0 (((150 + (4 * p)) + 2).toNat) ∧ g 0 (((150 + (4 * p)) + 2).toNat) < g 1 26) ∧ (-1 ≤ g 0 (((150 + (4 * p)) + 3).toNat) ∧ g 0 (((150 + (4 * p)) + 3).toNat) < g 1 26)
theorem zR_still {n : Int} {h g : zM} (H : zRv n h g) (hn : h 0 185 = n) (G : zGc n g) {x : Int} (hx : 0 ≤ x ∧ x < n) : D_X3_isStill_D x h = D_X12_isStill_D x g := by
  have e6 : h 0 ((60 + x).toNat) = g 0 (((15 * x) + 6).toNat) := zRv_g H 6 (by decide) hx (by omega) (by omega)
  have e7 : h 0 ((70 + x).toNat) = g 0 (((15 * x) + 7).toNat) := zRv_g H 7 (by decide) hx (by omega) (by omega)
  have b := (G x hx.1 hx.2).2.2.2.2.2.2.1
  unfold D_X3_isStill_D D_X12_isStill_D D_X12_lives_D zlt
  dsimp only
  rw [e6, e7, hn]
  by_cases f0 : g 0 (((15 * x) + 6).toNat) < 0
  · rw [if_pos f0]
    repeat' split
    all_goals first | rfl | omega
  · have e60 : h 0 ((60 + g 0 (((15 * x) + 6).toNat)).toNat) = g 0 (((15 * g 0 (((15 * x) + 6).toNat)) + 6).toNat) := zRv_g H 6 (by decide) ⟨by omega, b.2⟩ (by omega) (by omega)
    have e70 : h 0 ((70 + g 0 (((15 * x) + 6).toNat)).toNat) = g 0 (((15 * g 0 (((15 * x) + 6).toNat)) + 7).toNat) := zRv_g H 7 (by decide) ⟨by omega, b.2⟩ (by omega) (by omega)
    rw [if_neg f0, if_neg (show ¬ n ≤ g 0 (((15 * x) + 6).toNat) by omega), e60, e70]
    repeat' split
    all_goals first | rfl | omega
theorem zR_see {g : zM} {x room : Int} : D_X12_canSee_D x room g = if (g 0 (((15 * x) + 7).toNat) = 1 ∧ D_X12_isStill_D x g = 0) ∧ (g 0 ((15 * x).toNat) = room ∨ g 0 ((15 * x).toNat) = g 6 room.toNat) then 1 else 0 := by
  unfold D_X12_canSee_D D_X12_lives_D zlt
  dsimp only
  by_cases c1 : g 0 (((15 * x) + 7).toNat) = 1
  · rw [if_pos c1, if_neg (show ¬ (1 : Int) = 0 by decide)]
    by_cases c2 : D_X12_isStill_D x g = 0
    · by_cases c3 : g 0 ((15 * x).toNat) = room
      · rw [if_pos c3, if_pos c2, if_pos ⟨⟨c1, c2⟩, Or.inl c3⟩]
      · by_cases c4 : g 0 ((15 * x).toNat) = g 6 room.toNat
        · rw [if_neg c3, if_pos c4, if_pos c2, if_pos ⟨⟨c1, c2⟩, Or.inr c4⟩]
        · rw [if_neg c3, if_neg c4, if_neg (fun z => z.2.elim c3 c4)]
    · rw [if_neg c2, if_neg (show ¬ ((g 0 (((15 * x) + 7).toNat) = 1 ∧ D_X12_isStill_D x g = 0) ∧ (g 0 ((15 * x).toNat) = room ∨ g 0 ((15 * x).toNat) = g 6 room.toNat)) from fun z => c2 z.1.2)]
      repeat' split
      all_goals rfl
  · rw [if_neg c1, if_pos rfl, if_neg (fun z => c1 z.1.1)]
/-- what a look is worth to the class -/
def zwc (V : Int → Int → Int → Int → Int → Int → Int) (p x3 x : Int) (h : zM) : Int :=
  if h 1 1 = 0 then zw ((zw (100 - (h 0 ((20 + x).toNat)))) + (10 * (h 0 ((150 + x).toNat))))
  else zw ((zw (V (h 0 ((20 + x).toNat)) (h 0 ((10 + x).toNat)) (zw ((h 0 184) - (h 0 ((120 + x).toNat)))) (h 0 ((50 + x).toNat)) (if (h 0 ((0 + x).toNat)) = x3 then 0 else 1) p)) + (10 * (h 0 ((150 + x).toNat))))
theorem zC27 (V : Int → Int → Int → Int → Int → Int → Int) (p x3 x4 : Int) (K : Int → Int → Int → zM → Int × zM) (k : Nat) (b t x : Int) (h : zM) :
    DL_X3_choice_D_27 V p x3 x4 K (k + 1) b t x h = if (h 0 185) ≤ x then K b t x h else if ¬ (h 3 x.toNat) = 0 ∧ ((h 0 ((0 + x).toNat)) = x3 ∨ (h 0 ((0 + x).toNat)) = x4) then (if b = -1 ∨ t < zwc V p x3 x h then DL_X3_choice_D_27 V p x3 x4 K k x (zwc V p x3 x h) (x + 1) h else DL_X3_choice_D_27 V p x3 x4 K k b t (x + 1) h) else DL_X3_choice_D_27 V p x3 x4 K k b t (x + 1) h := by
  have fin : ∀ w : Int, w = zwc V p x3 x h → (if b = (-1) then DL_X3_choice_D_27 V p x3 x4 K k x w (x + 1) h else if w ≤ t then DL_X3_choice_D_27 V p x3 x4 K k b t (x + 1) h else DL_X3_choice_D_27 V p x3 x4 K k x w (x + 1) h) = (if b = -1 ∨ t < zwc V p x3 x h then DL_X3_choice_D_27 V p x3 x4 K k x (zwc V p x3 x h) (x + 1) h else DL_X3_choice_D_27 V p x3 x4 K k b t (x + 1) h) := by
    intro w hw
    rw [← hw]
    by_cases cb : b = -1
    · rw [if_pos cb, if_pos (Or.inl cb)]
    · by_cases cw : w ≤ t
      · rw [if_neg cb, if_pos cw, if_neg (fun z => z.elim cb (fun q => by omega))]
      · rw [if_neg cb, if_neg cw, if_pos (Or.inr (by omega))]
  simp only [DL_X3_choice_D_27, zlt]
  by_cases c1 : (h 0 185) ≤ x
  · rw [if_pos c1, if_pos c1]
  · rw [if_neg c1, if_neg c1]
    by_cases c2 : (h 3 x.toNat) = 0
    · rw [if_pos c2, if_neg (fun z => z.1 c2)]
    · rw [if_neg c2]
      by_cases c3 : (h 0 ((0 + x).toNat)) = x3
      · rw [if_pos c3, if_pos (show ¬ (h 3 x.toNat) = 0 ∧ ((h 0 ((0 + x).toNat)) = x3 ∨ (h 0 ((0 + x).toNat)) = x4) from ⟨c2, Or.inl c3⟩)]
        by_cases ct : h 1 1 = 0
        · rw [if_pos ct]
          exact fin _ (by unfold zwc; rw [if_pos ct])
        · rw [if_neg ct, if_pos c3]
          exact fin _ (by unfold zwc; rw [if_neg ct, if_pos c3])
      · rw [if_neg c3]
        by_cases c4 : (h 0 ((0 + x).toNat)) = x4
        · rw [if_pos c4, if_pos (show ¬ (h 3 x.toNat) = 0 ∧ ((h 0 ((0 + x).toNat)) = x3 ∨ (h 0 ((0 + x).toNat)) = x4) from ⟨c2, Or.inr c4⟩)]
          by_cases ct : h 1 1 = 0
          · rw [if_pos ct]
            exact fin _ (by unfold zwc; rw [if_pos ct])
          · rw [if_neg ct, if_neg c3]
            exact fin _ (by unfold zwc; rw [if_neg ct, if_neg c3])
        · rw [if_neg c4, if_neg (fun z => z.2.elim c3 c4)]
theorem zM9 (V : Int → Int → Int → Int → Int → Int → Int) (p room : Int) (K : Int → Int → Int → zM → Int × zM) (k : Nat) (b t x : Int) (g : zM) (w : Int) (hw : w = zwt V (g 1 33) (g 0 ((15 * x + 2).toNat)) (g 0 ((15 * x + 1).toNat)) (g 0 ((15 * x + 12).toNat)) (g 0 ((15 * x + 5).toNat)) (if g 0 ((15 * x).toNat) = room then 0 else 1) p (g 3 (x).toNat)) :
    DL_X12_looksAt_D_9 V p room K (k + 1) b t x g = if (g 0 174) ≤ x then K b t x g else if ¬ D_X12_canSee_D x room g = 0 then (if b = -1 ∨ t < w then DL_X12_looksAt_D_9 V p room K k x w (x + 1) g else DL_X12_looksAt_D_9 V p room K k b t (x + 1) g) else DL_X12_looksAt_D_9 V p room K k b t (x + 1) g := by
  subst hw
  simp only [DL_X12_looksAt_D_9, zlt]
  by_cases c1 : (g 0 174) ≤ x
  · rw [if_pos c1, if_pos c1]
  · rw [if_neg c1, if_neg c1]
    by_cases c2 : D_X12_canSee_D x room g = 0
    · rw [if_pos c2, if_neg (fun z => z c2)]
    · rw [if_neg c2, if_pos c2]
      by_cases cb : b = -1
      · rw [if_pos cb, if_pos (Or.inl cb)]
      · rw [if_neg cb]
        generalize zwt V (g 1 33) (g 0 ((15 * x + 2).toNat)) (g 0 ((15 * x + 1).toNat)) (g 0 ((15 * x + 12).toNat)) (g 0 ((15 * x + 5).toNat)) (if g 0 ((15 * x).toNat) = room then 0 else 1) p (g 3 (x).toNat) = w
        by_cases cw : t < w
        · rw [if_pos cw, if_pos (Or.inr cw)]
        · rw [if_neg cw, if_neg (fun z => z.elim cb cw)]
/-- which can be looked at, as the class has laid it -/
def zRo (n : Int) (h g : zM) : Prop := ∀ x : Int, 0 ≤ x → x < n → (h 3 x.toNat = 0 ↔ ¬ (g 0 (((15 * x) + 7).toNat) = 1 ∧ D_X12_isStill_D x g = 0))
theorem zR_choice {V : Int → Int → Int → Int → Int → Int → Int} {n : Int} {h g : zM} (H : zRv n h g) (S : zRs (fun _ => h 0 184) n h g) (hn : h 0 185 = n) (gn : g 0 174 = n) (G : zGc n g) (O : zRo n h g) (L : zRl n h g) (T : h 1 1 = 0 ↔ g 1 33 = -1) {p room there : Int} (hr : ∀ x : Int, 0 ≤ x → x < n → (g 0 ((15 * x).toNat) = there ↔ g 0 ((15 * x).toNat) = g 6 room.toNat)) (hB : ∀ x : Int, 0 ≤ x → x < n → g 0 (((15 * x) + 7).toNat) = 1 → 0 ≤ g 0 (((15 * x) + 12).toNat) ∧ g 0 (((15 * x) + 12).toNat) ≤ 1000000000)
    {R : Int × zM → Int × zM → Prop} {K K' : Int → Int → Int → zM → Int × zM} (hK : ∀ b t x, -1 ≤ b ∧ b < n → R (K b t x h) (K' b t x g)) :
    ∀ (k : Nat) (b t x : Int), 0 ≤ x → -1 ≤ b ∧ b < n → R (DL_X3_choice_D_27 V p room there K k b t x h) (DL_X12_looksAt_D_9 V p room K' k b t x g) := by
  intro k
  induction k with
  | zero => exact fun b t x _ hb => hK b t x hb
  | succ k ih =>
    intro b t x hx hb
    rw [zC27, zM9 V p room K' k b t x g _ rfl, hn, gn]
    by_cases c1 : n ≤ x
    · rw [if_pos c1, if_pos c1]
      exact hK b t x hb
    · rw [if_neg c1, if_neg c1, zR_see]
      have er : h 0 ((0 + x).toNat) = g 0 ((15 * x).toNat) := zRv_g H 0 (by decide) ⟨hx, by omega⟩ (by omega) (by omega)
      have o := O x hx (by omega)
      have rr := hr x hx (by omega)
      rw [er]
      by_cases c2 : (¬ (h 3 x.toNat) = 0 ∧ ((g 0 ((15 * x).toNat)) = room ∨ (g 0 ((15 * x).toNat)) = there))
      · have c3 : (g 0 (((15 * x) + 7).toNat) = 1 ∧ D_X12_isStill_D x g = 0) ∧ (g 0 ((15 * x).toNat) = room ∨ g 0 ((15 * x).toNat) = g 6 room.toNat) := by
          refine ⟨?_, c2.2.elim Or.inl (fun z => Or.inr (rr.mp z))⟩
          by_cases q : (g 0 (((15 * x) + 7).toNat) = 1 ∧ D_X12_isStill_D x g = 0)
          · exact q
          · exact absurd (o.mpr q) c2.1
        rw [if_pos c2, if_pos c3, if_pos (show ¬ (1 : Int) = 0 by decide)]
        have ew : zwc V p room x h = zwt V (g 1 33) (g 0 ((15 * x + 2).toNat)) (g 0 ((15 * x + 1).toNat)) (g 0 ((15 * x + 12).toNat)) (g 0 ((15 * x + 5).toNat)) (if g 0 ((15 * x).toNat) = room then 0 else 1) p (g 3 (x).toNat) := by
          have e1 : h 0 ((20 + x).toNat) = g 0 ((15 * x + 2).toNat) := zRv_g H 2 (by decide) ⟨hx, by omega⟩ (by omega) (by omega)
          have e2 : h 0 ((10 + x).toNat) = g 0 ((15 * x + 1).toNat) := zRv_g H 1 (by decide) ⟨hx, by omega⟩ (by omega) (by omega)
          have e3 : h 0 ((50 + x).toNat) = g 0 ((15 * x + 5).toNat) := zRv_g H 5 (by decide) ⟨hx, by omega⟩ (by omega) (by omega)
          have e4 : h 0 ((150 + x).toNat) = g 3 x.toNat := L.1 x hx (by omega)
          have e5 := S x hx (by omega) c3.1.1
          have e6 := hB x hx (by omega) c3.1.1
          have e7 : zw (h 0 184 - h 0 ((120 + x).toNat)) = g 0 ((15 * x + 12).toNat) := by
            rw [← e5]
            exact zw_id (by omega)
          unfold zwc zwt
          rw [e1, e2, e3, e4, e7, er]
          by_cases ct : h 1 1 = 0
          · rw [if_pos ct, if_pos (T.mp ct), zw_zw]
          · rw [if_neg ct, if_neg (fun z => ct (T.mpr z)), zw_zw]
        rw [← ew]
        by_cases c4 : b = -1 ∨ t < zwc V p room x h
        · rw [if_pos c4, if_pos c4]
          exact ih _ _ _ (by omega) (by omega)
        · rw [if_neg c4, if_neg c4]
          exact ih _ _ _ (by omega) (by omega)
      · have c3 : ¬ ((g 0 (((15 * x) + 7).toNat) = 1 ∧ D_X12_isStill_D x g = 0) ∧ (g 0 ((15 * x).toNat) = room ∨ g 0 ((15 * x).toNat) = g 6 room.toNat)) := by
          intro z
          exact c2 ⟨fun w => o.mp w z.1, z.2.elim Or.inl (fun w => Or.inr (rr.mpr w))⟩
        rw [if_neg c2, if_neg c3, if_neg (show ¬ ¬ (0 : Int) = 0 by decide)]
        exact ih _ _ _ (by omega) (by omega)
/-- choice and looksAt -/
theorem zR_pick {V : Int → Int → Int → Int → Int → Int → Int} {n : Int} {h g : zM} (H : zRv n h g) (S : zRs (fun _ => h 0 184) n h g) (hn : h 0 185 = n) (gn : g 0 174 = n) (G : zGc n g) (O : zRo n h g) (L : zRl n h g) (Q : zRq h g) {p : Int} (hp : h 0 ((172 + p).toNat) = g 0 (((150 + (4 * p)) + 2).toNat)) (h0n : 0 ≤ n) (hP : 0 ≤ g 0 (((150 + (4 * p)) + 2).toNat) ∧ g 0 (((150 + (4 * p)) + 2).toNat) < g 1 26) (hB : ∀ x : Int, 0 ≤ x → x < n → g 0 (((15 * x) + 7).toNat) = 1 → 0 ≤ g 0 (((15 * x) + 12).toNat) ∧ g 0 (((15 * x) + 12).toNat) ≤ 1000000000) :
    (D_X3_choice_D V p h).1 = (D_X12_looksAt_D V p (g 0 (((150 + (4 * p)) + 2).toNat)) g).1 ∧ (D_X3_choice_D V p h).2 = h ∧ (D_X12_looksAt_D V p (g 0 (((150 + (4 * p)) + 2).toNat)) g).2 = g ∧ -1 ≤ (D_X3_choice_D V p h).1 ∧ (D_X3_choice_D V p h).1 < n := by
  obtain ⟨q1, q2, q3, q4, q5, q6, q7, q8⟩ := Q
  unfold D_X3_choice_D D_X12_looksAt_D zlt D_X6_seenFrom_D
  dsimp only
  rw [hp, q1, if_neg (show ¬ g 0 (((150 + (4 * p)) + 2).toNat) < 0 by omega), if_neg (show ¬ g 1 26 ≤ g 0 (((150 + (4 * p)) + 2).toNat) by omega)]
  refine zR_choice (R := fun a b => a.1 = b.1 ∧ a.2 = h ∧ b.2 = g ∧ -1 ≤ a.1 ∧ a.1 < n) H S hn gn G O L q6 (fun x h0 h1 => ?_) hB (fun b t x hb => ⟨rfl, rfl, rfl, hb.1, hb.2⟩) _ _ _ _ (by decide) ⟨by decide, by omega⟩
  have a := q3 _ hP.1 hP.2
  have b := (G x h0 h1).1
  rcases a with a | a
  · rw [a]
  · rw [a.1, a.2]
    constructor
    · intro z; omega
    · intro z; omega
