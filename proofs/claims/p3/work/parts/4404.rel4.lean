/-! THE HOUR, row against row: who goes wild, who is born (by hand) -/
def zRW (T n n0 x : Int) (h g : zM) : Prop := (zRv n h g ∧ zRl n h g ∧ zRq h g ∧ zRp h g ∧ zGp g) ∧ (∀ y : Int, 0 ≤ y → y < n → zGk n g y (if x ≤ y ∧ y < n0 then 159 else 99)) ∧ (∀ y : Int, 0 ≤ y → y < n → g 0 (((15 * y) + 7).toNat) = 1 → g 0 (((15 * y) + 12).toNat) = (g 0 175 + 1) - h 0 ((120 + y).toNat) ∧ 0 ≤ g 0 (((15 * y) + 12).toNat) ∧ g 0 (((15 * y) + 12).toNat) ≤ g 0 175 + 1) ∧ (h 0 185 = n ∧ g 0 174 = n ∧ 0 ≤ n0 ∧ n0 ≤ n ∧ n ≤ 10) ∧ (h 0 184 = g 0 175 ∧ 0 ≤ g 0 175 ∧ g 0 175 ≤ 999999999 ∧ g 0 175 = T) ∧ (h 0 186 = g 0 176 ∧ h 0 187 = g 0 177) ∧ (h 1 3 = g 1 37 ∧ h 1 4 = g 1 38 ∧ h 1 5 = g 1 39 ∧ h 1 7 = g 1 41 ∧ h 1 6 = g 1 40 ∧ h 1 8 = g 1 42) ∧ (∀ y : Int, 0 ≤ y → y ≤ 9 → h 2 y.toNat = g 2 y.toNat)
/-- whom the newborn's KIND comes from -/
theorem zR_mate {n : Int} {h g : zM} (H : zRv n h g) (hn : h 0 185 = n) (gn : g 0 174 = n) {a : Int} (ha : 0 ≤ a ∧ a < n) :
    ∀ (k : Nat) (x : Int), 0 ≤ x → n - x < k → ∃ b : Int, (b = -1 ∨ (0 ≤ b ∧ b < n)) ∧ DL_X3_mate_D_2 a h (fun _ => a) k x = (if b = -1 then a else b) ∧ ∀ Kb : Int → Int → zM, ∃ x1 : Int, DL_X12_isBorn_D_18 a g Kb k (-1) x = Kb b x1 := by
  intro k
  induction k with
  | zero => exact fun x h0 hk => ⟨-1, Or.inl rfl, by rw [if_pos rfl]; rfl, fun Kb => ⟨x, rfl⟩⟩
  | succ k ih =>
    intro x h0 hk
    simp only [DL_X3_mate_D_2, DL_X12_isBorn_D_18]
    rw [hn, gn]
    by_cases c1 : n ≤ x
    · rw [if_pos c1]
      refine ⟨-1, Or.inl rfl, by rw [if_pos rfl], fun Kb => ⟨x, ?_⟩⟩
      rw [if_pos c1]
    · rw [if_neg c1]
      obtain ⟨b, b1, b2, b3⟩ := ih (x + 1) (by omega) (by omega)
      by_cases c2 : x = a
      · rw [if_pos c2]
        refine ⟨b, b1, b2, fun Kb => ?_⟩
        rw [if_neg c1, if_pos trivial, if_pos c2]
        exact b3 Kb
      · rw [if_neg c2]
        have c7 : h 0 ((70 + x).toNat) = g 0 (((15 * x) + 7).toNat) := zRv_g H 7 (by decide) ⟨h0, by omega⟩ (by omega) (by omega)
        have r0 : h 0 ((0 + x).toNat) = g 0 ((15 * x).toNat) := zRv_g H 0 (by decide) ⟨h0, by omega⟩ (by omega) (by omega)
        have ra : h 0 ((0 + a).toNat) = g 0 ((15 * a).toNat) := zRv_g H 0 (by decide) ha (by omega) (by omega)
        rw [c7, r0, ra]
        by_cases c3 : g 0 (((15 * x) + 7).toNat) = 1
        · have l1 : (1 : Int) = D_X12_lives_D x g := by unfold D_X12_lives_D; rw [if_pos c3]
          rw [if_pos c3]
          by_cases c4 : g 0 ((15 * x).toNat) = g 0 ((15 * a).toNat)
          · rw [if_pos c4]
            refine ⟨x, Or.inr ⟨h0, by omega⟩, by rw [if_neg (by omega)], fun Kb => ?_⟩
            rw [if_neg c1, if_pos trivial, if_neg c2, zlt_e l1, if_neg (show ¬ (1 : Int) = 0 by decide), if_pos c4]
            cases k with
            | zero => exact ⟨x + 1, rfl⟩
            | succ k =>
              simp only [DL_X12_isBorn_D_18]
              rw [gn]
              by_cases c5 : n ≤ x + 1
              · rw [if_pos c5]; exact ⟨x + 1, rfl⟩
              · rw [if_neg c5, if_neg (show ¬ x = -1 by omega)]; exact ⟨x + 1, rfl⟩
          · rw [if_neg c4]
            refine ⟨b, b1, b2, fun Kb => ?_⟩
            rw [if_neg c1, if_pos trivial, if_neg c2, zlt_e l1, if_neg (show ¬ (1 : Int) = 0 by decide), if_neg c4]
            exact b3 Kb
        · have l0 : (0 : Int) = D_X12_lives_D x g := by unfold D_X12_lives_D; rw [if_neg c3]
          rw [if_neg c3]
          refine ⟨b, b1, b2, fun Kb => ?_⟩
          rw [if_neg c1, if_pos trivial, if_neg c2, zlt_e l0, if_pos rfl]
          exact b3 Kb
/-- the copy of a CLOCK's cells -/
theorem zR_cpy {g0 : zM} {a c : Int} (ha : 0 ≤ a ∧ a < c ∧ c ≤ 9) :
    ∀ (k : Nat) (x : Int) (g : zM), 0 ≤ x → x ≤ 15 → 15 - x < k → (∀ p : Nat, p ≠ 0 → g p = g0 p) → (∀ q : Nat, (q : Int) < 15 * c ∨ 15 * c + 15 ≤ (q : Int) → g 0 q = g0 0 q) → (∀ j : Int, 0 ≤ j → j < x → g 0 (((15 * c) + j).toNat) = if j < 5 then g0 0 (((15 * a) + j).toNat) else 0) →
      ∃ (x1 : Int) (g1 : zM), (∀ p : Nat, p ≠ 0 → g1 p = g0 p) ∧ (∀ q : Nat, (q : Int) < 15 * c ∨ 15 * c + 15 ≤ (q : Int) → g1 0 q = g0 0 q) ∧ (∀ j : Int, 0 ≤ j → j < 15 → g1 0 (((15 * c) + j).toNat) = if j < 5 then g0 0 (((15 * a) + j).toNat) else 0) ∧ ∀ (K : Int → zM → zM) (x6 : Int), DL_X12_isBorn_D_105 a c x6 K k x g = K x1 g1 := by
  intro k
  induction k with
  | zero => exact fun x g h0 h9 hk => absurd hk (by omega)
  | succ k ih =>
    intro x g h0 h9 hk a1 a2 a3
    simp only [DL_X12_isBorn_D_105]
    by_cases c1 : 15 ≤ x
    · refine ⟨x, g, a1, a2, fun j j0 j9 => a3 j j0 (by omega), fun K x6 => ?_⟩
      rw [if_pos c1]
    · have st : ∀ v : Int, v = (if x < 5 then g0 0 (((15 * a) + x).toNat) else 0) → ∃ (x1 : Int) (g1 : zM), (∀ p : Nat, p ≠ 0 → g1 p = g0 p) ∧ (∀ q : Nat, (q : Int) < 15 * c ∨ 15 * c + 15 ≤ (q : Int) → g1 0 q = g0 0 q) ∧ (∀ j : Int, 0 ≤ j → j < 15 → g1 0 (((15 * c) + j).toNat) = if j < 5 then g0 0 (((15 * a) + j).toNat) else 0) ∧ ∀ (K : Int → zM → zM) (x6 : Int), DL_X12_isBorn_D_105 a c x6 K k (x + 1) (zm_up g 0 (((15 * c) + x).toNat) v) = K x1 g1 := by
        intro v hv
        refine ih (x + 1) _ (by omega) (by omega) (by omega) (fun p hp => by rw [zup_o hp]; exact a1 p hp) (fun q hq => by rw [zm_ne (Or.inr (by omega))]; exact a2 q hq) (fun j j0 j9 => ?_)
        by_cases e : j = x
        · subst e
          rw [zm_eq]
          exact hv
        · rw [zm_ne (Or.inr (by omega))]
          exact a3 j j0 (by omega)
      by_cases c2 : 5 ≤ x
      · obtain ⟨x1, g1, b1, b2, b3, b4⟩ := st 0 (by rw [if_neg (by omega)])
        refine ⟨x1, g1, b1, b2, b3, fun K x6 => ?_⟩
        rw [if_neg c1, if_pos c2, zlt_e (rfl : zm_up g 0 (((15 * c) + x).toNat) 0 = _)]
        exact b4 K x6
      · obtain ⟨x1, g1, b1, b2, b3, b4⟩ := st (g 0 (((15 * a) + x).toNat)) (by rw [if_pos (by omega), a2 _ (by omega)])
        refine ⟨x1, g1, b1, b2, b3, fun K x6 => ?_⟩
        rw [if_neg c1, if_neg c2, zlt_e (rfl : zm_up g 0 (((15 * c) + x).toNat) (g 0 (((15 * a) + x).toNat)) = _)]
        exact b4 K x6
/-- what the newborn is, in the class's row -/
theorem zC_bear {n a : Int} {h : zM} (hn : h 0 185 = n) (h9 : 0 ≤ n ∧ n ≤ 9) (ha : 0 ≤ a ∧ a < n) (hb : ∀ j : Int, 0 ≤ j → j ≤ 4 → -2147483648 ≤ h 0 ((10 * j + a).toNat) ∧ h 0 ((10 * j + a).toNat) ≤ 2147483647) (hH : 0 ≤ h 0 184 ∧ h 0 184 ≤ 999999999) {b kd : Int} (hb1 : b = a ∨ (0 ≤ b ∧ b < n)) (hm : ∀ h1 : zM, (∀ i : Nat, i % 10 < n.toNat ∧ i < 160 → h1 0 i = h 0 i) → h1 0 185 = n → D_X3_mate_D a h1 = b) (hk : kd = zw (Int.tmod (zw (h 0 ((50 + a).toNat) + h 0 ((50 + b).toNat))) 4)) :
    ∃ h1 : zM, D_X3_bear_D a h = h1 ∧ (∀ i : Nat, i < 160 → i % 10 ≠ n.toNat → h1 0 i = h 0 i) ∧ (∀ i : Nat, 160 ≤ i → i ≠ 185 → h1 0 i = h 0 i) ∧ h1 0 185 = n + 1 ∧ (∀ p : Nat, p ≠ 0 → p ≠ 1 → h1 p = h p) ∧ (∀ i : Nat, i ≠ 6 → h1 1 i = h 1 i) ∧ h1 1 6 = zw (h 1 6 + 1) ∧
      (∀ j : Int, 0 ≤ j → j ≤ 4 → h1 0 ((10 * j + n).toNat) = h 0 ((10 * j + a).toNat)) ∧ h1 0 ((50 + n).toNat) = kd ∧ h1 0 ((60 + n).toNat) = -1 ∧ h1 0 ((70 + n).toNat) = 1 ∧ (∀ j : Int, 8 ≤ j → j ≤ 11 → h1 0 ((10 * j + n).toNat) = 0) ∧ h1 0 ((120 + n).toNat) = h 0 184 + 1 ∧ h1 0 ((130 + n).toNat) = 0 ∧ h1 0 ((140 + n).toNat) = a ∧ h1 0 ((150 + n).toNat) = 0 := by
  have q0 := hb 0 (by decide) (by decide)
  have q1 := hb 1 (by decide) (by decide)
  have q2 := hb 2 (by decide) (by decide)
  have q3 := hb 3 (by decide) (by decide)
  have q4 := hb 4 (by decide) (by decide)
  have e0 : (10 * 0 + a).toNat = (0 + a).toNat := rfl
  rw [show (10 * (0 : Int) + a).toNat = (0 + a).toNat by omega] at q0
  rw [show (10 * (1 : Int) + a).toNat = (10 + a).toNat by omega] at q1
  rw [show (10 * (2 : Int) + a).toNat = (20 + a).toNat by omega] at q2
  rw [show (10 * (3 : Int) + a).toNat = (30 + a).toNat by omega] at q3
  rw [show (10 * (4 : Int) + a).toNat = (40 + a).toNat by omega] at q4
  obtain ⟨h82, e82⟩ : ∃ q, q = zm_up h 0 ((0 + (h 0 185)).toNat) (zw (h 0 ((0 + a).toNat))) := ⟨_, rfl⟩
  obtain ⟨h89, e89⟩ : ∃ q, q = zm_up h82 0 ((10 + (h 0 185)).toNat) (zw (h82 0 ((10 + a).toNat))) := ⟨_, rfl⟩
  obtain ⟨h96, e96⟩ : ∃ q, q = zm_up h89 0 ((20 + (h 0 185)).toNat) (zw (h89 0 ((20 + a).toNat))) := ⟨_, rfl⟩
  obtain ⟨h103, e103⟩ : ∃ q, q = zm_up h96 0 ((30 + (h 0 185)).toNat) (zw (h96 0 ((30 + a).toNat))) := ⟨_, rfl⟩
  obtain ⟨h57, e57⟩ : ∃ q, q = zm_up h103 0 ((40 + (h 0 185)).toNat) (zw (h103 0 ((40 + a).toNat))) := ⟨_, rfl⟩
  have eM : D_X3_mate_D a h57 = b := by
    refine hm _ (fun i hi => ?_) ?_
    · rw [e57, e103, e96, e89, e82, hn]
      simp (disch := omega) only [zm_ne]
    · rw [e57, e103, e96, e89, e82, hn]
      simp (disch := omega) only [zm_ne]
      exact hn
  unfold D_X3_bear_D
  rw [zlt_e e82, zlt_e e89, zlt_e e96, zlt_e e103]
  unfold DL_X3_bear_D_52
  rw [zlt_e e57, zlt_e eM.symm]
  have k1 : h57 0 ((50 + a).toNat) = h 0 ((50 + a).toNat) := by
    rw [e57, e103, e96, e89, e82, hn]
    simp (disch := omega) only [zm_ne]
  have k2 : h57 0 ((50 + b).toNat) = h 0 ((50 + b).toNat) := by
    rw [e57, e103, e96, e89, e82, hn]
    simp (disch := omega) only [zm_ne]
  rw [k1, k2, ← hk]
  have w57 : h57 = zm_up (zm_up (zm_up (zm_up (zm_up h 0 ((0 + n).toNat) (h 0 ((0 + a).toNat))) 0 ((10 + n).toNat) (h 0 ((10 + a).toNat))) 0 ((20 + n).toNat) (h 0 ((20 + a).toNat))) 0 ((30 + n).toNat) (h 0 ((30 + a).toNat))) 0 ((40 + n).toNat) (h 0 ((40 + a).toNat)) := by
    rw [e57, e103, e96, e89, e82, hn]
    simp (disch := omega) only [zm_ne]
    rw [zw_id q0, zw_id q1, zw_id q2, zw_id q3, zw_id q4]
  unfold DL_X3_bear_D_96 DL_X3_bear_D_124 DL_X3_bear_D_152 zlt
  dsimp only
  rw [hn]
  refine ⟨_, rfl, ?_⟩
  rw [w57]
  have eh : zw (h 0 184 + 1) = h 0 184 + 1 := zw_id (by omega)
  refine ⟨fun i i1 i2 => ?_, fun i i1 i2 => ?_, ?_, fun p p0 p1 => ?_, fun i i1 => ?_, ?_, fun j j0 j1 => ?_, ?_, ?_, ?_, fun j j0 j1 => ?_, ?_, ?_, ?_, ?_⟩
  · simp (disch := omega) only [zm_ne]
  · simp (disch := omega) only [zm_ne]
  · simp (disch := omega) only [zm_ne, zm_eq]
    rw [hn]
  · funext j
    simp (disch := omega) only [zm_ne]
  · simp (disch := omega) only [zm_ne]
  · simp (disch := omega) only [zm_ne, zm_eq]
  · rcases (show j = 0 ∨ j = 1 ∨ j = 2 ∨ j = 3 ∨ j = 4 by omega) with k | k | k | k | k <;> subst k <;> simp (disch := omega) only [zm_ne, zm_eqq] <;> exact congrArg (h 0) (by omega)
  · simp (disch := omega) only [zm_ne, zm_eq]
  · simp (disch := omega) only [zm_ne, zm_eq]
  · simp (disch := omega) only [zm_ne, zm_eq]
  · rcases (show j = 8 ∨ j = 9 ∨ j = 10 ∨ j = 11 by omega) with k | k | k | k <;> subst k <;> simp (disch := omega) only [zm_ne, zm_eqq]
  · simp (disch := omega) only [zm_ne, zm_eq]
    exact eh
  · simp (disch := omega) only [zm_ne, zm_eq]
  · simp (disch := omega) only [zm_ne, zm_eq]
  · simp (disch := omega) only [zm_ne, zm_eq]
