/-! HOUSE, as the model reads it: numbers -/
theorem zn2_1 (b : Nat → Int) (n a : Int) (h : 48 ≤ zpk b n (znx b n a) ∧ zpk b n (znx b n a) ≤ 57) (h2 : zpk b n (znx b n a + 1) < 48 ∨ 57 < zpk b n (znx b n a + 1)) : (zn2 b n a).1 = 1 ∧ (zn2 b n a).2.1 = znx b n a + 1 ∧ (zn2 b n a).2.2 = zpk b n (znx b n a) - 48 := by
  have e : zn2 b n a = (1, znx b n a + 1, zpk b n (znx b n a) - 48) := (if_neg (by omega)).trans (if_pos h2)
  rw [e]; exact ⟨rfl, rfl, rfl⟩
theorem zn2_2 (b : Nat → Int) (n a : Int) (h : 48 ≤ zpk b n (znx b n a) ∧ zpk b n (znx b n a) ≤ 57) (h2 : 48 ≤ zpk b n (znx b n a + 1) ∧ zpk b n (znx b n a + 1) ≤ 57) (h3 : zpk b n (znx b n a + 1 + 1) < 48 ∨ 57 < zpk b n (znx b n a + 1 + 1)) : (zn2 b n a).1 = 1 ∧ (zn2 b n a).2.1 = znx b n a + 1 + 1 ∧ (zn2 b n a).2.2 = 10 * (zpk b n (znx b n a) - 48) + (zpk b n (znx b n a + 1) - 48) := by
  have e : zn2 b n a = (1, znx b n a + 1 + 1, 10 * (zpk b n (znx b n a) - 48) + (zpk b n (znx b n a + 1) - 48)) := (if_neg (by omega)).trans ((if_neg (by omega)).trans (if_pos h3))
  rw [e]; exact ⟨rfl, rfl, rfl⟩
theorem zn2_3 (b : Nat → Int) (n a : Int) (h : 48 ≤ zpk b n (znx b n a) ∧ zpk b n (znx b n a) ≤ 57) (h2 : 48 ≤ zpk b n (znx b n a + 1) ∧ zpk b n (znx b n a + 1) ≤ 57) (h3 : 48 ≤ zpk b n (znx b n a + 1 + 1) ∧ zpk b n (znx b n a + 1 + 1) ≤ 57) : (zn2 b n a).1 = 0 ∧ (zn2 b n a).2.1 = znx b n a + 1 + 1 := by
  have e : zn2 b n a = (0, znx b n a + 1 + 1, 0) := (if_neg (by omega)).trans ((if_neg (by omega)).trans (if_neg (by omega)))
  rw [e]; exact ⟨rfl, rfl⟩
theorem zpk_l2 {b : Nat → Int} {n a : Int} (h : zpk b n a ≠ -1) : a < n := by
  by_cases q : a < n
  · exact q
  · exact absurd (zpk_out (by omega)) h
theorem zn2_g (b : Nat → Int) (n a : Int) (h0 : 0 ≤ a) (h1 : a ≤ n) : a ≤ (zn2 b n a).2.1 ∧ (zn2 b n a).2.1 ≤ n ∧ ((zn2 b n a).1 ≠ 0 → a < (zn2 b n a).2.1) := by
  have g := znx_b (b := b) (n := n) a
  by_cases q : zpk b n (znx b n a) < 48 ∨ 57 < zpk b n (znx b n a)
  · have e := zn2_n b n a q
    omega
  · have l1 := zpk_l2 (b := b) (n := n) (a := znx b n a) (by omega)
    by_cases q2 : zpk b n (znx b n a + 1) < 48 ∨ 57 < zpk b n (znx b n a + 1)
    · have e := zn2_1 b n a (by omega) q2
      omega
    · have l2 := zpk_l2 (b := b) (n := n) (a := znx b n a + 1) (by omega)
      by_cases q3 : zpk b n (znx b n a + 1 + 1) < 48 ∨ 57 < zpk b n (znx b n a + 1 + 1)
      · have e := zn2_2 b n a (by omega) (by omega) q3
        omega
      · have e := zn2_3 b n a (by omega) (by omega) (by omega)
        omega
theorem zits_g {b : Nat → Int} {n : Int} {L : List Int} {lo hi : Nat → Int} (hL : zix L 0 (-1) = -1) (hn : n ≤ 240) : ∀ (k : Nat) (had a : Int) (v : Nat → Int), 0 ≤ a → a ≤ n → a ≤ (zits b n L lo hi k had a v).2.1 ∧ (zits b n L lo hi k had a v).2.1 ≤ n := by
  intro k
  induction k with
  | zero => intro had a v h0 h1; exact ⟨Int.le_refl a, h1⟩
  | succ k ih =>
    intro had a v h0 h1
    have g := znx_b (b := b) (n := n) a
    by_cases h : zix L 0 (zpk b n (znx b n a)) = -1
    · rw [zits_no k had a v h]
      show a ≤ znx b n a ∧ znx b n a ≤ n
      omega
    · have l1 : znx b n a < n := zpk_l2 (b := b) (fun q => h (by rw [q]; exact hL))
      have g2 := zn2_g b n (znx b n a + 1) (by omega) (by omega)
      by_cases h1 : zb_and (zb_shr had (zix L 0 (zpk b n (znx b n a)))) 1 = 1
      · rw [zits_had k had a v h h1]
        show a ≤ znx b n a ∧ znx b n a ≤ n
        omega
      · by_cases h2 : (zn2 b n (znx b n a + 1)).1 = 0
        · rw [zits_bad k had a v h h1 h2]
          show a ≤ (zn2 b n (znx b n a + 1)).2.1 ∧ (zn2 b n (znx b n a + 1)).2.1 ≤ n
          omega
        · by_cases h3 : (zn2 b n (znx b n a + 1)).2.2 < lo (zix L 0 (zpk b n (znx b n a))).toNat ∨ hi (zix L 0 (zpk b n (znx b n a))).toNat < (zn2 b n (znx b n a + 1)).2.2
          · rw [zits_out k had a v h h1 h2 h3]
            show a ≤ (zn2 b n (znx b n a + 1)).2.1 - 1 ∧ (zn2 b n (znx b n a + 1)).2.1 - 1 ≤ n
            omega
          · rw [zits_st k had a v h h1 h2 h3]
            have := ih (zb_or had (zb_shl 1 (zix L 0 (zpk b n (znx b n a))))) (zn2 b n (znx b n a + 1)).2.1 (zvu v (zix L 0 (zpk b n (znx b n a))).toNat (zn2 b n (znx b n a + 1)).2.2) (by omega) (by omega)
            omega
theorem zix_m1 : zix zLs0 0 (-1) = -1 ∧ zix zLs1 0 (-1) = -1 ∧ zix zLs2 0 (-1) = -1 := by decide
theorem zwy_g {b : Nat → Int} {n : Int} : ∀ (k i : Nat) (a : Int) (v : Nat → Int), 0 ≤ a → a ≤ n → a ≤ (zwy b n k i a v).2.1 ∧ (zwy b n k i a v).2.1 ≤ n := by
  intro k
  induction k with
  | zero => intro i a v h0 h1; exact ⟨Int.le_refl a, h1⟩
  | succ k ih =>
    intro i a v h0 h1
    have g := znx_b (b := b) (n := n) a
    by_cases h : zpk b n (znx b n a) < 48 ∨ 57 < zpk b n (znx b n a)
    · rw [zwy_d k i a v h]
      show a ≤ znx b n a ∧ znx b n a ≤ n
      omega
    · by_cases h2 : i = 8 ∨ 52 < zpk b n (znx b n a)
      · rw [zwy_x k i a v h h2]
        show a ≤ znx b n a ∧ znx b n a ≤ n
        omega
      · rw [zwy_s k i a v h h2]
        have l := zpk_l2 (b := b) (n := n) (a := znx b n a) (by omega)
        have := ih (i + 1) (znx b n a + 1) (zvu v i (zpk b n (znx b n a) - 48)) (by omega) (by omega)
        omega
theorem ztk_g2 (b : Nat → Int) (n s a : Int) (hs : s ≠ -1) (h0 : 0 ≤ a) (h1 : a ≤ n) : a ≤ (ztk b n s a).2 ∧ (ztk b n s a).2 ≤ n := by
  have g := znx_b (b := b) (n := n) a
  have e := ztk_f b n s a
  by_cases q : zpk b n (znx b n a) = s
  · have l := zpk_l2 (b := b) (n := n) (a := znx b n a) (by omega)
    have := e.1 q
    omega
  · have := e.2 q
    omega
theorem zcl_g (b : Nat → Int) (n a : Int) (w : zM) (hn : n ≤ 240) (h0 : 0 ≤ a) (h1 : a ≤ n) : a ≤ (zcl b n a w).2.1 ∧ (zcl b n a w).2.1 ≤ n ∧ ((zcl b n a w).1 ≠ 0 → a < (zcl b n a w).2.1) := by
  have g := znx_b (b := b) (n := n) a
  by_cases c1 : zpk b n (znx b n a) = 114 ∧ w 79 28 < 5
  · have l := zpk_l2 (b := b) (n := n) (a := znx b n a) (by omega)
    have e := zcl_1 (b := b) (n := n) (a := a) (w := w) rfl c1.1 c1.2
    have i : znx b n a + 1 ≤ (zir b n (znx b n a + 1)).2.1 ∧ (zir b n (znx b n a + 1)).2.1 ≤ n := zits_g zix_m1.1 hn 2 0 _ _ (by omega) (by omega)
    have e2 : (zcl_r b n (znx b n a + 1) w).2.1 = (zir b n (znx b n a + 1)).2.1 := by
      unfold zcl_r
      split <;> rfl
    omega
  · by_cases c2 : zpk b n (znx b n a) = 99 ∧ w 79 29 < 6
    · have l := zpk_l2 (b := b) (n := n) (a := znx b n a) (by omega)
      have e := zcl_2 (b := b) (n := n) (a := a) (w := w) rfl c2.1 c2.2
      have i : znx b n a + 1 ≤ (zic b n (znx b n a + 1)).2.1 ∧ (zic b n (znx b n a + 1)).2.1 ≤ n := zits_g zix_m1.2.1 hn 8 0 _ _ (by omega) (by omega)
      have e2 : (zcl_c b n (znx b n a + 1) w).2.1 = (zic b n (znx b n a + 1)).2.1 := by
        unfold zcl_c
        split <;> rfl
      omega
    · by_cases c3 : zpk b n (znx b n a) = 112 ∧ w 79 30 < 6
      · have l := zpk_l2 (b := b) (n := n) (a := znx b n a) (by omega)
        have e := zcl_3 (b := b) (n := n) (a := a) (w := w) rfl c3.1 c3.2
        have i : znx b n a + 1 ≤ (zipn b n (znx b n a + 1)).2.1 ∧ (zipn b n (znx b n a + 1)).2.1 ≤ n := zits_g zix_m1.2.2 hn 3 0 _ _ (by omega) (by omega)
        have t := ztk_g2 b n 58 (zipn b n (znx b n a + 1)).2.1 (by decide) (by omega) i.2
        have y : zwa b n (znx b n a + 1) ≤ (zwz b n (zwa b n (znx b n a + 1))).2.1 ∧ (zwz b n (zwa b n (znx b n a + 1))).2.1 ≤ n := zwy_g 9 0 _ _ (show 0 ≤ (ztk b n 58 (zipn b n (znx b n a + 1)).2.1).2 by omega) t.2
        have ya : zwa b n (znx b n a + 1) = (ztk b n 58 (zipn b n (znx b n a + 1)).2.1).2 := rfl
        by_cases p1 : (zipn b n (znx b n a + 1)).1 = 0
        · have := zcl_p_0 b n (znx b n a + 1) w p1
          omega
        · by_cases p2 : (ztk b n 58 (zipn b n (znx b n a + 1)).2.1).1 = 0
          · have := zcl_p_1 b n (znx b n a + 1) w p1 p2
            omega
          · by_cases p3 : (zwz b n (zwa b n (znx b n a + 1))).1 = 0
            · have := zcl_p_2 b n (znx b n a + 1) w p1 p2 p3
              omega
            · have e3 : zcl_p b n (znx b n a + 1) w = (1, (zwz b n (zwa b n (znx b n a + 1))).2.1, _) := (if_neg p1).trans ((if_neg p2).trans (if_neg p3))
              have e4 : (zcl_p b n (znx b n a + 1) w).2.1 = (zwz b n (zwa b n (znx b n a + 1))).2.1 := by rw [e3]
              omega
      · have := zcl_0 c1 c2 c3
        omega
theorem zcs_m {b : Nat → Int} {n : Int} (hn : n ≤ 240) : ∀ (k : Nat) (a : Int) (w : zM), 0 ≤ a → a ≤ n → n - a < k → zcs b n (k + 1) a w = zcs b n k a w := by
  intro k
  induction k with
  | zero => intro a w h0 h1 h2; omega
  | succ k ih =>
    intro a w h0 h1 h2
    have g := zcl_g b n a w hn h0 h1
    have g2 := znx_b (b := b) (n := n) (zcl b n a w).2.1
    have st : ∀ j : Nat, zcs b n (j + 1) a w = if (zcl b n a w).1 = 0 then zcl b n a w else if zpk b n (znx b n (zcl b n a w).2.1) = 59 then zcs b n j (znx b n (zcl b n a w).2.1 + 1) (zcl b n a w).2.2 else (1, znx b n (zcl b n a w).2.1, (zcl b n a w).2.2) := fun j => rfl
    rw [st (k + 1), st k]
    by_cases q : (zcl b n a w).1 = 0
    · rw [if_pos q, if_pos q]
    · rw [if_neg q, if_neg q]
      by_cases q2 : zpk b n (znx b n (zcl b n a w).2.1) = 59
      · have l := zpk_l2 (b := b) (n := n) (a := znx b n (zcl b n a w).2.1) (by omega)
        have g3 := g.2.2 q
        rw [if_pos q2, if_pos q2, ih _ _ (by omega) (by omega) (by omega)]
      · rw [if_neg q2, if_neg q2]
theorem zcs_ge {b : Nat → Int} {n a : Int} {w : zM} (hn : n ≤ 240) (h0 : 0 ≤ a) (h1 : a ≤ n) (k : Nat) (hk : n - a < k) : ∀ j : Nat, zcs b n (k + j) a w = zcs b n k a w := by
  intro j
  induction j with
  | zero => rfl
  | succ j ih =>
    rw [show k + (j + 1) = (k + j) + 1 by omega, zcs_m hn (k + j) a w h0 h1 (by omega), ih]
theorem zcs_p2 {b : Nat → Int} {n a p : Int} {w w1 : zM} {F : Int × Int × zM} (hn : n ≤ 240) (J : F = zcs b n (241 - a).toNat a w) (h0 : 0 ≤ a) (h1 : a ≤ n) (h : (zcl b n a w).1 ≠ 0) (h2 : zpk b n (znx b n (zcl b n a w).2.1) = 59) (hp : p = znx b n (zcl b n a w).2.1 + 1) (hw : w1 = (zcl b n a w).2.2) : F = zcs b n (241 - p).toNat p w1 := by
  have g := zcl_g b n a w hn h0 h1
  have g2 := znx_b (b := b) (n := n) (zcl b n a w).2.1
  have l := zpk_l2 (b := b) (n := n) (a := znx b n (zcl b n a w).2.1) (by omega)
  have g3 := g.2.2 h
  have e := zcs_l2 (x := a) J (by omega) h h2 hp hw
  rw [e, show (241 - (a + 1)).toNat = (241 - p).toNat + (p - (a + 1)).toNat by omega]
  exact zcs_ge hn (by omega) (by omega) _ (by omega) _
/-! the store that the model's memory shows -/
def zs79 (m : zM) : Nat → Int := fun i => if i = 28 then m 79 28 else if i = 29 then m 79 29 else if i = 30 then m 79 30 else 0
def zs85 (m : zM) : Nat → Int := fun i => if (i : Int) < m 79 28 then m 85 i else 0
def zs86 (m : zM) : Nat → Int := fun i => if ((i / 7 : Nat) : Int) < m 79 29 then m 86 i else 0
def zs87 (m : zM) : Nat → Int := fun i => if ((i / 2 : Nat) : Int) < m 79 30 then m 87 i else 0
def zs91 (m : zM) : Nat → Int := fun i => if (i : Int) < m 79 30 then m 91 i else 0
def zs89 (m : zM) : Nat → Int := fun i => if ((i / 8 : Nat) : Int) < m 79 30 ∧ ((i % 8 : Nat) : Int) < m 91 (i / 8) then m 89 i else 0
def zWm (m : zM) : zM := zsel (zs79 m) (zs85 m) (zs86 m) (zs87 m) (zs91 m) (zs89 m)
theorem zWm_28 (m : zM) : zWm m 79 28 = m 79 28 := by unfold zWm; rw [zsel_79]; rfl
theorem zWm_29 (m : zM) : zWm m 79 29 = m 79 29 := by unfold zWm; rw [zsel_79]; rfl
theorem zWm_30 (m : zM) : zWm m 79 30 = m 79 30 := by unfold zWm; rw [zsel_79]; rfl
theorem zWm_c {m M : zM} (h28 : M 79 28 = m 79 28) (h29 : M 79 29 = m 79 29) (h30 : M 79 30 = m 79 30) (h5 : M 85 = m 85) (h6 : M 86 = m 86) (h7 : M 87 = m 87) (h9 : M 89 = m 89) (h1 : M 91 = m 91) : zWm M = zWm m := by
  unfold zWm zs79 zs85 zs86 zs87 zs91 zs89
  rw [h28, h29, h30, h5, h6, h7, h9, h1]
theorem zWm_D {m M : zM} (h : zD9 (fun p i => p = 79 ∧ (10 ≤ i ∧ i ≤ 12)) m M) : zWm M = zWm m := by
  have e : ∀ p, p ≠ 79 → M p = m p := fun p hp => funext fun i => h p i (fun q => hp q.1)
  exact zWm_c (h 79 28 (by omega)) (h 79 29 (by omega)) (h 79 30 (by omega)) (e 85 (by decide)) (e 86 (by decide)) (e 87 (by decide)) (e 89 (by decide)) (e 91 (by decide))
theorem zWm_10 (m : zM) (i : Nat) (x : Int) (hi : i < 28) : zWm (zm_up m 79 i x) = zWm m :=
  zWm_c (zm_ne (Or.inr (by omega))) (zm_ne (Or.inr (by omega))) (zm_ne (Or.inr (by omega))) (zup_o (by decide)) (zup_o (by decide)) (zup_o (by decide)) (zup_o (by decide)) (zup_o (by decide))
theorem zWm_room {m M : zM} {n : Nat} {v : Nat → Int} (hn : m 79 28 = n) (h28 : M 79 28 = n + 1) (h29 : M 79 29 = m 79 29) (h30 : M 79 30 = m 79 30) (h6 : M 86 = m 86) (h7 : M 87 = m 87) (h9 : M 89 = m 89) (h1 : M 91 = m 91) (hv : M 85 n = v 0) (ho : ∀ i, i < n → M 85 i = m 85 i) :
    zWm M = zput (zm_up (zWm m) 79 28 (n + 1)) 85 n 1 v := by
  refine zsel_ext ?_ ?_ ?_ ?_ ?_ ?_ ?_
  · rw [zput_o (by decide), zvu_up]
    funext i
    show (if i = 28 then ((n : Int) + 1) else zWm m 79 i) = (if i = 28 then M 79 28 else if i = 29 then M 79 29 else if i = 30 then M 79 30 else 0)
    by_cases q : i = 28
    · rw [if_pos q, if_pos q, h28]
    · rw [if_neg q, if_neg q, h29, h30]
      unfold zWm
      rw [zsel_79]
      exact if_neg q
  · rw [zput_r]
    funext i
    show (if n ≤ i ∧ i < n + 1 then v (i - n) else zm_up (zWm m) 79 28 (n + 1) 85 i) = (if (i : Int) < M 79 28 then M 85 i else 0)
    rw [h28]
    by_cases q : i = n
    · rw [if_pos (by omega), if_pos (by omega), q, Nat.sub_self, hv]
    · rw [if_neg (by omega), zup_o (by decide)]
      unfold zWm
      rw [zsel_85]
      unfold zs85
      rw [hn]
      by_cases q2 : (i : Int) < n
      · rw [if_pos q2, if_pos (by omega), ho i (by omega)]
      · rw [if_neg q2, if_neg (by omega)]
  · rw [zput_o (by decide), zup_o (by decide)]
    unfold zWm
    rw [zsel_86]
    unfold zs86
    rw [h6, h29]
  · rw [zput_o (by decide), zup_o (by decide)]
    unfold zWm
    rw [zsel_87]
    unfold zs87
    rw [h7, h30]
  · rw [zput_o (by decide), zup_o (by decide)]
    unfold zWm
    rw [zsel_91]
    unfold zs91
    rw [h1, h30]
  · rw [zput_o (by decide), zup_o (by decide)]
    unfold zWm
    rw [zsel_89]
    unfold zs89
    rw [h1, h9, h30]
  · intro p h1 h2 h3 h4 h5 h6
    rw [zput_o h2, zup_o h1]
    exact zsel_0 h1 h2 h3 h4 h5 h6
theorem zWm_clock {m M : zM} {n : Nat} {v : Nat → Int} (hn : m 79 29 = n) (h29 : M 79 29 = n + 1) (h28 : M 79 28 = m 79 28) (h30 : M 79 30 = m 79 30) (h5 : M 85 = m 85) (h7 : M 87 = m 87) (h9 : M 89 = m 89) (h1 : M 91 = m 91) (hv : ∀ j, j < 7 → M 86 (7 * n + j) = v j) (ho : ∀ i, i < 7 * n → M 86 i = m 86 i) :
    zWm M = zput (zm_up (zWm m) 79 29 (n + 1)) 86 (7 * n) 7 v := by
  refine zsel_ext ?_ ?_ ?_ ?_ ?_ ?_ ?_
  · rw [zput_o (by decide), zvu_up]
    funext i
    show (if i = 29 then ((n : Int) + 1) else zWm m 79 i) = (if i = 28 then M 79 28 else if i = 29 then M 79 29 else if i = 30 then M 79 30 else 0)
    by_cases q : i = 29
    · rw [if_pos q, if_neg (by omega), if_pos q, h29]
    · rw [if_neg q, if_neg q, h28, h30]
      unfold zWm
      rw [zsel_79]
      unfold zs79
      rw [if_neg q]
  · rw [zput_o (by decide), zup_o (by decide)]
    unfold zWm
    rw [zsel_85]
    unfold zs85
    rw [h28, h5]
  · rw [zput_r]
    funext i
    show (if 7 * n ≤ i ∧ i < 7 * n + 7 then v (i - 7 * n) else zm_up (zWm m) 79 29 (n + 1) 86 i) = (if ((i / 7 : Nat) : Int) < M 79 29 then M 86 i else 0)
    rw [h29]
    by_cases q : 7 * n ≤ i ∧ i < 7 * n + 7
    · rw [if_pos q, if_pos (by omega), ← hv (i - 7 * n) (by omega)]
      exact congrArg (M 86) (by omega)
    · rw [if_neg q, zup_o (by decide)]
      unfold zWm
      rw [zsel_86]
      unfold zs86
      rw [hn]
      by_cases q2 : ((i / 7 : Nat) : Int) < n
      · rw [if_pos q2, if_pos (by omega), ho i (by omega)]
      · rw [if_neg q2, if_neg (by omega)]
  · rw [zput_o (by decide), zup_o (by decide)]
    unfold zWm
    rw [zsel_87]
    unfold zs87
    rw [h7, h30]
  · rw [zput_o (by decide), zup_o (by decide)]
    unfold zWm
    rw [zsel_91]
    unfold zs91
    rw [h1, h30]
  · rw [zput_o (by decide), zup_o (by decide)]
    unfold zWm
    rw [zsel_89]
    unfold zs89
    rw [h1, h9, h30]
  · intro p h1 h2 h3 h4 h5 h6
    rw [zput_o h3, zup_o h1]
    exact zsel_0 h1 h2 h3 h4 h5 h6
theorem zWm_person {m M : zM} {n : Nat} {v : Nat → Int} (hn : m 79 30 = n) (h30 : M 79 30 = n + 1) (h28 : M 79 28 = m 79 28) (h29 : M 79 29 = m 79 29) (h5 : M 85 = m 85) (h6 : M 86 = m 86) (h9 : M 89 = m 89) (h1 : M 91 = zvu (m 91) n 0) (hv : ∀ j, j < 2 → M 87 (2 * n + j) = v j) (ho : ∀ i, i < 2 * n → M 87 i = m 87 i) :
    zWm M = zcl_q (zWm m) v := by
  have g30 : zWm m 79 30 = n := (zWm_30 m).trans hn
  unfold zcl_q
  rw [g30, show ((n : Int)).toNat = n by omega]
  refine zsel_ext ?_ ?_ ?_ ?_ ?_ ?_ ?_
  · rw [zput_o (by decide), zup_o (by decide), zvu_up]
    funext i
    show (if i = 30 then ((n : Int) + 1) else zWm m 79 i) = (if i = 28 then M 79 28 else if i = 29 then M 79 29 else if i = 30 then M 79 30 else 0)
    by_cases q : i = 30
    · rw [if_pos q, if_neg (by omega), if_neg (by omega), if_pos q, h30]
    · rw [if_neg q, if_neg q, h28, h29]
      unfold zWm
      rw [zsel_79]
      unfold zs79
      rw [if_neg q]
  · rw [zput_o (by decide), zup_o (by decide), zup_o (by decide)]
    unfold zWm
    rw [zsel_85]
    unfold zs85
    rw [h28, h5]
  · rw [zput_o (by decide), zup_o (by decide), zup_o (by decide)]
    unfold zWm
    rw [zsel_86]
    unfold zs86
    rw [h29, h6]
  · rw [zput_r]
    funext i
    show (if 2 * n ≤ i ∧ i < 2 * n + 2 then v (i - 2 * n) else zm_up (zm_up (zWm m) 79 30 (n + 1)) 91 n 0 87 i) = (if ((i / 2 : Nat) : Int) < M 79 30 then M 87 i else 0)
    rw [h30]
    by_cases q : 2 * n ≤ i ∧ i < 2 * n + 2
    · rw [if_pos q, if_pos (by omega), ← hv (i - 2 * n) (by omega)]
      exact congrArg (M 87) (by omega)
    · rw [if_neg q, zup_o (by decide), zup_o (by decide)]
      unfold zWm
      rw [zsel_87]
      unfold zs87
      rw [hn]
      by_cases q2 : ((i / 2 : Nat) : Int) < n
      · rw [if_pos q2, if_pos (by omega), ho i (by omega)]
      · rw [if_neg q2, if_neg (by omega)]
  · rw [zput_o (by decide), zvu_up, zup_o (by decide)]
    funext i
    show (if i = n then 0 else zWm m 91 i) = (if (i : Int) < M 79 30 then M 91 i else 0)
    rw [h30, h1]
    show (if i = n then 0 else zWm m 91 i) = (if (i : Int) < n + 1 then (if i = n then 0 else m 91 i) else 0)
    by_cases q : i = n
    · rw [if_pos q, if_pos q]
      by_cases q2 : (i : Int) < n + 1
      · rw [if_pos q2]
      · rw [if_neg q2]
    · rw [if_neg q, if_neg q]
      unfold zWm
      rw [zsel_91]
      unfold zs91
      rw [hn]
      by_cases q2 : (i : Int) < n
      · rw [if_pos q2, if_pos (by omega)]
      · rw [if_neg q2, if_neg (by omega)]
  · rw [zput_o (by decide), zup_o (by decide), zup_o (by decide)]
    unfold zWm
    rw [zsel_89]
    funext i
    show (if ((i / 8 : Nat) : Int) < m 79 30 ∧ ((i % 8 : Nat) : Int) < m 91 (i / 8) then m 89 i else 0) = (if ((i / 8 : Nat) : Int) < M 79 30 ∧ ((i % 8 : Nat) : Int) < M 91 (i / 8) then M 89 i else 0)
    rw [h30, hn, h9, h1]
    show _ = (if ((i / 8 : Nat) : Int) < n + 1 ∧ ((i % 8 : Nat) : Int) < (if i / 8 = n then 0 else m 91 (i / 8)) then m 89 i else 0)
    by_cases q : i / 8 = n
    · rw [if_pos q, if_neg (by omega), if_neg (by omega)]
    · rw [if_neg q]
      by_cases q2 : ((i / 8 : Nat) : Int) < n ∧ ((i % 8 : Nat) : Int) < m 91 (i / 8)
      · rw [if_pos q2, if_pos ⟨by omega, q2.2⟩]
      · rw [if_neg q2, if_neg (fun z => q2 ⟨by omega, z.2⟩)]
  · intro p h1 h2 h3 h4 h5 h6
    rw [zput_o h4, zup_o h5, zup_o h1]
    exact zsel_0 h1 h2 h3 h4 h5 h6
theorem zWm_way {m M : zM} {n k : Nat} {v : Nat → Int} (hn : (n : Int) < m 79 30) (h28 : M 79 28 = m 79 28) (h29 : M 79 29 = m 79 29) (h30 : M 79 30 = m 79 30) (h5 : M 85 = m 85) (h6 : M 86 = m 86) (h87 : M 87 = m 87) (h70 : m 91 n = 0) (h7 : M 91 = zvu (m 91) n k) (hk : k ≤ 8) (h9 : ∀ i, i < 8 * n ∨ 8 * n + 8 ≤ i → M 89 i = m 89 i) (hv : ∀ j, j < k → M 89 (8 * n + j) = v j) :
    zWm M = zput (zm_up (zWm m) 91 n k) 89 (8 * n) k v := by
  refine zsel_ext ?_ ?_ ?_ ?_ ?_ ?_ ?_
  · rw [zput_o (by decide), zup_o (by decide)]
    unfold zWm
    rw [zsel_79]
    unfold zs79
    rw [h28, h29, h30]
  · rw [zput_o (by decide), zup_o (by decide)]
    unfold zWm
    rw [zsel_85]
    unfold zs85
    rw [h28, h5]
  · rw [zput_o (by decide), zup_o (by decide)]
    unfold zWm
    rw [zsel_86]
    unfold zs86
    rw [h29, h6]
  · rw [zput_o (by decide), zup_o (by decide)]
    unfold zWm
    rw [zsel_87]
    unfold zs87
    rw [h30, h87]
  · rw [zput_o (by decide), zvu_up]
    funext i
    show (if i = n then (k : Int) else zWm m 91 i) = (if (i : Int) < M 79 30 then M 91 i else 0)
    rw [h30, h7]
    show (if i = n then (k : Int) else zWm m 91 i) = (if (i : Int) < m 79 30 then (if i = n then (k : Int) else m 91 i) else 0)
    by_cases q : i = n
    · rw [if_pos q, if_pos q, if_pos (by omega)]
    · rw [if_neg q, if_neg q]
      unfold zWm
      rw [zsel_91]
      rfl
  · rw [zput_r]
    funext i
    show (if 8 * n ≤ i ∧ i < 8 * n + k then v (i - 8 * n) else zm_up (zWm m) 91 n k 89 i) = (if ((i / 8 : Nat) : Int) < M 79 30 ∧ ((i % 8 : Nat) : Int) < M 91 (i / 8) then M 89 i else 0)
    rw [h30, h7]
    show _ = (if ((i / 8 : Nat) : Int) < m 79 30 ∧ ((i % 8 : Nat) : Int) < (if i / 8 = n then (k : Int) else m 91 (i / 8)) then M 89 i else 0)
    by_cases q : i / 8 = n
    · rw [if_pos q]
      by_cases q2 : i < 8 * n + k
      · rw [if_pos ⟨by omega, q2⟩, if_pos ⟨by omega, by omega⟩, ← hv (i - 8 * n) (by omega)]
        exact congrArg (M 89) (by omega)
      · rw [if_neg (by omega), if_neg (by omega), zup_o (by decide)]
        unfold zWm
        rw [zsel_89]
        unfold zs89
        rw [q, h70]
        exact if_neg (by omega)
    · rw [if_neg q, if_neg (by omega), zup_o (by decide), h9 i (by omega)]
      unfold zWm
      rw [zsel_89]
      rfl
  · intro p h1 h2 h3 h4 h5 h6
    rw [zput_o h6, zup_o h5]
    exact zsel_0 h1 h2 h3 h4 h5 h6
theorem zWm_0 {m : zM} (h8 : m 79 28 = 0) (h9 : m 79 29 = 0) (h0 : m 79 30 = 0) : zWm m = zw0 := by
  refine zsel_ext ?_ ?_ ?_ ?_ ?_ ?_ (fun p _ _ _ _ _ _ => rfl) <;> funext i
  · show 0 = (if i = 28 then m 79 28 else if i = 29 then m 79 29 else if i = 30 then m 79 30 else 0)
    rw [h8, h9, h0]
    by_cases q : i = 28
    · rw [if_pos q]
    · rw [if_neg q]
      by_cases q : i = 29
      · rw [if_pos q]
      · rw [if_neg q]
        by_cases q : i = 30
        · rw [if_pos q]
        · rw [if_neg q]
  · exact (if_neg (by omega)).symm
  · exact (if_neg (by omega)).symm
  · exact (if_neg (by omega)).symm
  · exact (if_neg (by omega)).symm
  · exact (if_neg (fun q => by omega)).symm
/-! what is told is there, as the model asks -/
theorem zWm_85k {m : zM} {k : Nat} (h : (k : Int) < m 79 28) : zWm m 85 k = m 85 k := by unfold zWm; rw [zsel_85]; exact if_pos h
theorem zWm_86k {m : zM} {k j : Nat} (h : (k : Int) < m 79 29) (hj : j < 7) : zWm m 86 (7 * k + j) = m 86 (7 * k + j) := by
  unfold zWm; rw [zsel_86]; exact if_pos (by omega)
theorem zWm_91k {m : zM} {p : Nat} (h : (p : Int) < m 79 30) : zWm m 91 p = m 91 p := by unfold zWm; rw [zsel_91]; exact if_pos h
theorem zWm_89k {m : zM} {p k : Nat} (h : (p : Int) < m 79 30) (hk : (k : Int) < m 91 p) (h8 : m 91 p ≤ 8) : zWm m 89 (8 * p + k) = m 89 (8 * p + k) := by
  unfold zWm
  rw [zsel_89]
  have g1 : (8 * p + k) / 8 = p := by omega
  have g2 : (8 * p + k) % 8 = k := by omega
  show (if (((8 * p + k) / 8 : Nat) : Int) < m 79 30 ∧ (((8 * p + k) % 8 : Nat) : Int) < m 91 ((8 * p + k) / 8) then m 89 (8 * p + k) else 0) = _
  rw [g1, g2]
  exact if_pos ⟨h, hk⟩
def zmA (m : zM) (x : Int) : Prop := 0 < m 79 28 ∧ 0 < m 79 29 ∧ 0 < m 79 30 ∧ ∀ k : Nat, (k : Int) < x → m 85 k = 5 ∨ m 85 k < m 79 28
def zmB (m : zM) (x : Int) : Prop := zmA m (m 79 28) ∧ ∀ k : Nat, (k : Int) < x → m 86 (7 * k) < m 79 28 ∧ m 86 (7 * k + 6) ≠ k ∧ (m 86 (7 * k + 6) = 6 ∨ m 86 (7 * k + 6) < m 79 29)
def zmC (m : zM) (x : Int) : Prop := zmB m (m 79 29) ∧ ∀ p : Nat, (p : Int) < x → ∀ k : Nat, (k : Int) < m 91 p → m 89 (8 * p + k) < m 79 28
def zmD (m : zM) (q x : Int) : Prop := zmC m q ∧ ∀ k : Nat, (k : Int) < x → m 89 (8 * q.toNat + k) < m 79 28
theorem zwh_M {m : zM} (h8 : ∀ p, m 91 p ≤ 8) : zwh (zWm m) ↔ zmC m (m 79 30) := by
  unfold zwh zmC zmB zmA
  rw [zWm_28, zWm_29, zWm_30]
  refine ⟨fun h => ⟨⟨⟨h.1, h.2.1, h.2.2.1, fun k hk => ?_⟩, fun k hk => ?_⟩, fun p hp k hk => ?_⟩, fun h => ⟨h.1.1.1, h.1.1.2.1, h.1.1.2.2.1, fun k hk => ?_, fun k hk => ?_, fun p hp k hk => ?_⟩⟩
  · have g := h.2.2.2.1 k hk
    rw [zWm_85k hk] at g
    exact g
  · have g := h.2.2.2.2.1 k hk
    have e0 : zWm m 86 (7 * k) = m 86 (7 * k) := zWm_86k (j := 0) hk (by decide)
    rw [e0, zWm_86k hk (by decide)] at g
    exact g
  · have g := h.2.2.2.2.2 p hp k (by rw [zWm_91k hp]; exact hk)
    rw [zWm_89k hp hk (h8 p)] at g
    exact g
  · rw [zWm_85k hk]
    exact h.1.1.2.2.2 k hk
  · have e0 : zWm m 86 (7 * k) = m 86 (7 * k) := zWm_86k (j := 0) hk (by decide)
    rw [e0, zWm_86k hk (by decide)]
    exact h.1.2 k hk
  · rw [zWm_91k hp] at hk
    rw [zWm_89k hp hk (h8 p)]
    exact h.2 p hp k hk
theorem zmA_0 {m : zM} (h : 0 < m 79 28 ∧ 0 < m 79 29 ∧ 0 < m 79 30) : zmA m 0 := ⟨h.1, h.2.1, h.2.2, fun k hk => by omega⟩
theorem zmA_s {m : zM} {x : Int} (h : zmA m x) (h1 : m 85 x.toNat = 5 ∨ m 85 x.toNat < m 79 28) : zmA m (x + 1) :=
  ⟨h.1, h.2.1, h.2.2.1, fun k hk => by
    by_cases q : (k : Int) < x
    · exact h.2.2.2 k q
    · rw [show k = x.toNat by omega]; exact h1⟩
theorem zmA_n {m : zM} {x : Int} (hx : 0 ≤ x) (h : zmA m (x + 1)) : zmA m x ∧ (m 85 x.toNat = 5 ∨ m 85 x.toNat < m 79 28) :=
  ⟨⟨h.1, h.2.1, h.2.2.1, fun k hk => h.2.2.2 k (by omega)⟩, h.2.2.2 x.toNat (by omega)⟩
theorem zmB_0 {m : zM} {x : Int} (h : zmA m x) (hx : x = m 79 28) : zmB m 0 := ⟨hx ▸ h, fun k hk => by omega⟩
theorem zmB_s {m : zM} {x : Int} (h : zmB m x) (h1 : m 86 (7 * x.toNat) < m 79 28 ∧ m 86 (7 * x.toNat + 6) ≠ (x.toNat : Int) ∧ (m 86 (7 * x.toNat + 6) = 6 ∨ m 86 (7 * x.toNat + 6) < m 79 29)) : zmB m (x + 1) :=
  ⟨h.1, fun k hk => by
    by_cases q : (k : Int) < x
    · exact h.2 k q
    · rw [show k = x.toNat by omega]; exact h1⟩
theorem zmB_n {m : zM} {x : Int} (hx : 0 ≤ x) (h : zmB m (x + 1)) : zmB m x ∧ (m 86 (7 * x.toNat) < m 79 28 ∧ m 86 (7 * x.toNat + 6) ≠ (x.toNat : Int) ∧ (m 86 (7 * x.toNat + 6) = 6 ∨ m 86 (7 * x.toNat + 6) < m 79 29)) :=
  ⟨⟨h.1, fun k hk => h.2 k (by omega)⟩, h.2 x.toNat (by omega)⟩
theorem zmC_0 {m : zM} {x : Int} (h : zmB m x) (hx : x = m 79 29) : zmC m 0 := ⟨hx ▸ h, fun p hp => by omega⟩
theorem zmD_0 {m : zM} {q : Int} (h : zmC m q) : zmD m q 0 := ⟨h, fun k hk => by omega⟩
theorem zmD_s {m : zM} {q x : Int} (h : zmD m q x) (h1 : m 89 (8 * q.toNat + x.toNat) < m 79 28) : zmD m q (x + 1) :=
  ⟨h.1, fun k hk => by
    by_cases z : (k : Int) < x
    · exact h.2 k z
    · rw [show k = x.toNat by omega]; exact h1⟩
theorem zmD_n {m : zM} {q x : Int} (hx : 0 ≤ x) (h : zmD m q (x + 1)) : zmD m q x ∧ m 89 (8 * q.toNat + x.toNat) < m 79 28 :=
  ⟨⟨h.1, fun k hk => h.2 k (by omega)⟩, h.2 x.toNat (by omega)⟩
theorem zmC_s {m : zM} {q x : Int} (hq : 0 ≤ q) (h : zmD m q x) (hx : m 91 q.toNat ≤ x) : zmC m (q + 1) :=
  ⟨h.1.1, fun p hp k hk => by
    by_cases z : (p : Int) < q
    · exact h.1.2 p z k hk
    · have e : p = q.toNat := by omega
      rw [e] at hk ⊢
      exact h.2 k (by omega)⟩
theorem zmC_n {m : zM} {q x : Int} (hq : 0 ≤ q) (h : zmC m (q + 1)) (hx : x = m 91 q.toNat) : zmD m q x :=
  ⟨⟨h.1, fun p hp => h.2 p (by omega)⟩, fun k hk => h.2 q.toNat (by omega) k (by omega)⟩
/-! ITEMS, as the model's loop meets them -/
def zpc (a : Int) : Int := zb_and a 1 + zb_and (zb_shr a 1) 1 + zb_and (zb_shr a 2) 1 + zb_and (zb_shr a 3) 1 + zb_and (zb_shr a 4) 1 + zb_and (zb_shr a 5) 1 + zb_and (zb_shr a 6) 1
theorem zpc_0 : zpc 0 = 0 := by decide +kernel
theorem zpc_t7 : ∀ (x : Fin 128) (y : Fin 7), 0 ≤ zpc x.val ∧ zpc x.val ≤ 7 ∧ (zb_and (zb_shr (x.val : Int) (y.val : Int)) 1 ≠ 1 → 0 ≤ zb_or x.val (zb_shl 1 y.val) ∧ zb_or x.val (zb_shl 1 y.val) ≤ 127 ∧ zpc (zb_or x.val (zb_shl 1 y.val)) = zpc x.val + 1) := by decide +kernel
theorem zpc_t2 : ∀ (x : Fin 4) (y : Fin 2), 0 ≤ zpc x.val ∧ zpc x.val ≤ 2 ∧ (zb_and (zb_shr (x.val : Int) (y.val : Int)) 1 ≠ 1 → 0 ≤ zb_or x.val (zb_shl 1 y.val) ∧ zb_or x.val (zb_shl 1 y.val) ≤ 3 ∧ zpc (zb_or x.val (zb_shl 1 y.val)) = zpc x.val + 1) := by decide +kernel
theorem zpc_t1 : ∀ (x : Fin 2) (y : Fin 1), 0 ≤ zpc x.val ∧ zpc x.val ≤ 1 ∧ (zb_and (zb_shr (x.val : Int) (y.val : Int)) 1 ≠ 1 → 0 ≤ zb_or x.val (zb_shl 1 y.val) ∧ zb_or x.val (zb_shl 1 y.val) ≤ 1 ∧ zpc (zb_or x.val (zb_shl 1 y.val)) = zpc x.val + 1) := by decide +kernel
theorem zpc_7 (a i : Int) (h : 0 ≤ a ∧ a ≤ 127) (hi : 0 ≤ i ∧ i < 7) : 0 ≤ zpc a ∧ zpc a ≤ 7 ∧ (zb_and (zb_shr a i) 1 ≠ 1 → 0 ≤ zb_or a (zb_shl 1 i) ∧ zb_or a (zb_shl 1 i) ≤ 127 ∧ zpc (zb_or a (zb_shl 1 i)) = zpc a + 1) := by
  have e := zpc_t7 ⟨a.toNat, by omega⟩ ⟨i.toNat, by omega⟩
  rw [show ((⟨a.toNat, by omega⟩ : Fin 128).val : Int) = a by show ((a.toNat : Nat) : Int) = a; omega, show ((⟨i.toNat, by omega⟩ : Fin 7).val : Int) = i by show ((i.toNat : Nat) : Int) = i; omega] at e
  exact e
theorem zpc_2 (a i : Int) (h : 0 ≤ a ∧ a ≤ 3) (hi : 0 ≤ i ∧ i < 2) : 0 ≤ zpc a ∧ zpc a ≤ 2 ∧ (zb_and (zb_shr a i) 1 ≠ 1 → 0 ≤ zb_or a (zb_shl 1 i) ∧ zb_or a (zb_shl 1 i) ≤ 3 ∧ zpc (zb_or a (zb_shl 1 i)) = zpc a + 1) := by
  have e := zpc_t2 ⟨a.toNat, by omega⟩ ⟨i.toNat, by omega⟩
  rw [show ((⟨a.toNat, by omega⟩ : Fin 4).val : Int) = a by show ((a.toNat : Nat) : Int) = a; omega, show ((⟨i.toNat, by omega⟩ : Fin 2).val : Int) = i by show ((i.toNat : Nat) : Int) = i; omega] at e
  exact e
theorem zpc_1 (a i : Int) (h : 0 ≤ a ∧ a ≤ 1) (hi : 0 ≤ i ∧ i < 1) : 0 ≤ zpc a ∧ zpc a ≤ 1 ∧ (zb_and (zb_shr a i) 1 ≠ 1 → 0 ≤ zb_or a (zb_shl 1 i) ∧ zb_or a (zb_shl 1 i) ≤ 1 ∧ zpc (zb_or a (zb_shl 1 i)) = zpc a + 1) := by
  have e := zpc_t1 ⟨a.toNat, by omega⟩ ⟨i.toNat, by omega⟩
  rw [show ((⟨a.toNat, by omega⟩ : Fin 2).val : Int) = a by show ((a.toNat : Nat) : Int) = a; omega, show ((⟨i.toNat, by omega⟩ : Fin 1).val : Int) = i by show ((i.toNat : Nat) : Int) = i; omega] at e
  exact e
/-- what stands for the letters, in a row of the model -/
def zvi (r : Nat → Int) (row len : Nat) (U : List Int) : Nat → Int := fun j => if j < len then r (row + j) else zlst U j
theorem zvi_0 {r : Nat → Int} {row len : Nat} {U : List Int} (h : ∀ j, j < len → r (row + j) = zlst U j) : zvi r row len U = zlst U := by
  funext j
  unfold zvi
  by_cases q : j < len
  · rw [if_pos q]; exact h j q
  · rw [if_neg q]
theorem zvi_s {r r1 : Nat → Int} {row len i : Nat} {U : List Int} {x : Int} (h : r1 = zvu r (row + i) x) (hi : i < len) : zvi r1 row len U = zvu (zvi r row len U) i x := by
  funext j
  unfold zvi
  rw [h]
  show (if j < len then (if row + j = row + i then x else r (row + j)) else zlst U j) = (if j = i then x else if j < len then r (row + j) else zlst U j)
  by_cases q : j = i
  · rw [if_pos q, if_pos (by omega), if_pos (by omega)]
  · rw [if_neg q, if_neg (show ¬ row + j = row + i by omega)]
theorem zvi_j {r : Nat → Int} {row len : Nat} {U : List Int} {F : Nat → Int} (h : F = zvi r row len U) (j : Nat) (hj : j < len) : r (row + j) = F j := by
  rw [h]; exact (if_pos hj).symm
section
variable {b : Nat → Int} {n : Int} {L : List Int} {lo hi : Nat → Int} {F : Int × Int × (Nat → Int)} {had x K a : Int} {v : Nat → Int}
theorem zits_m1 (J : F = zits b n L lo hi (K - x).toNat had a v) (hx : x < K) (hz : znx b n a = a) {r : Int} (hr : r = zix L 0 (zpk b n a)) (h : r = -1) : F.1 = 1 ∧ F.2.1 = a ∧ F.2.2 = v := by
  have e := zits_l1 J hx (by rw [hz, ← hr]; exact h)
  rw [hz] at e; exact e
theorem zits_m2 (J : F = zits b n L lo hi (K - x).toNat had a v) (hx : x < K) (hz : znx b n a = a) {r : Int} (hr : r = zix L 0 (zpk b n a)) (h : r ≠ -1) (h1 : zb_and (zb_shr had r) 1 = 1) : F.1 = 0 ∧ F.2.1 = a := by
  have e := zits_l2 J hx (by rw [hz]; exact hr) h h1
  rw [hz] at e; exact e
theorem zits_m3 (J : F = zits b n L lo hi (K - x).toNat had a v) (hx : x < K) (hz : znx b n a = a) {r : Int} (hr : r = zix L 0 (zpk b n a)) (h : r ≠ -1) (h1 : zb_and (zb_shr had r) 1 ≠ 1) (h2 : (zn2 b n (a + 1)).1 = 0) : F.1 = 0 ∧ F.2.1 = (zn2 b n (a + 1)).2.1 := by
  have e := zits_l3 J hx (by rw [hz]; exact hr) h h1 (by rw [hz]; exact h2)
  rw [hz] at e; exact e
theorem zits_m4 (J : F = zits b n L lo hi (K - x).toNat had a v) (hx : x < K) (hz : znx b n a = a) {r : Int} (hr : r = zix L 0 (zpk b n a)) (h : r ≠ -1) (h1 : zb_and (zb_shr had r) 1 ≠ 1) (h2 : (zn2 b n (a + 1)).1 ≠ 0) (h3 : (zn2 b n (a + 1)).2.2 < lo r.toNat ∨ hi r.toNat < (zn2 b n (a + 1)).2.2) : F.1 = 0 ∧ F.2.1 = (zn2 b n (a + 1)).2.1 - 1 := by
  have e := zits_l4 (u := (zn2 b n (a + 1)).2.2) J hx (by rw [hz]; exact hr) h h1 (by rw [hz]; exact h2) (by rw [hz]) h3
  rw [hz] at e; exact e
theorem zits_m5 (J : F = zits b n L lo hi (K - x).toNat had a v) (hx : x < K) (hz : znx b n a = a) {r p : Int} {v1 : Nat → Int} (hr : r = zix L 0 (zpk b n a)) (h : r ≠ -1) (h1 : zb_and (zb_shr had r) 1 ≠ 1) (h2 : (zn2 b n (a + 1)).1 ≠ 0) (h3 : lo r.toNat ≤ (zn2 b n (a + 1)).2.2 ∧ (zn2 b n (a + 1)).2.2 ≤ hi r.toNat) (hp : p = (zn2 b n (a + 1)).2.1) (hv : v1 = zvu v r.toNat (zn2 b n (a + 1)).2.2) {y g : Int} (hy : y = x + 1) (hg : g = zb_or had (zb_shl 1 r)) : F = zits b n L lo hi (K - y).toNat g p v1 := by
  subst hy hg
  exact zits_l5 (u := (zn2 b n (a + 1)).2.2) J hx (by rw [hz]; exact hr) h h1 (by rw [hz]; exact h2) (by rw [hz]) (by omega) (by rw [hz]; exact hp) hv
end
theorem zits_nx {b : Nat → Int} {n : Int} {L : List Int} {lo hi : Nat → Int} (k : Nat) (had a : Int) (v : Nat → Int) (h0 : 0 ≤ a) (hn : n ≤ 240) : zits b n L lo hi (k + 1) had (znx b n a) v = zits b n L lo hi (k + 1) had a v := by
  have e : ∀ c, zits b n L lo hi (k + 1) had c v = if zix L 0 (zpk b n (znx b n c)) = -1 then (1, znx b n c, v)
    else if zb_and (zb_shr had (zix L 0 (zpk b n (znx b n c)))) 1 = 1 then (0, znx b n c, v)
    else if (zn2 b n (znx b n c + 1)).1 = 0 then (0, (zn2 b n (znx b n c + 1)).2.1, v)
    else if (zn2 b n (znx b n c + 1)).2.2 < lo (zix L 0 (zpk b n (znx b n c))).toNat ∨ hi (zix L 0 (zpk b n (znx b n c))).toNat < (zn2 b n (znx b n c + 1)).2.2 then (0, (zn2 b n (znx b n c + 1)).2.1 - 1, v)
    else zits b n L lo hi k (zb_or had (zb_shl 1 (zix L 0 (zpk b n (znx b n c))))) (zn2 b n (znx b n c + 1)).2.1 (zvu v (zix L 0 (zpk b n (znx b n c))).toNat (zn2 b n (znx b n c + 1)).2.2) := fun c => rfl
  rw [e, e, znx_i h0 hn]
/-- a number of the list, by its place -/
theorem zls_7 {l : List Int} {i r a0 a1 a2 a3 a4 a5 a6 : Int} (hl : l = [a0, a1, a2, a3, a4, a5, a6]) (hi : 0 ≤ i ∧ i ≤ 6) (h : (i = 0 → r = a0) ∧ (i = 1 → r = a1) ∧ (i = 2 → r = a2) ∧ (i = 3 → r = a3) ∧ (i = 4 → r = a4) ∧ (i = 5 → r = a5) ∧ (i = 6 → r = a6)) : r = zlst l i.toNat := by
  subst hl
  rcases (show i = 0 ∨ i = 1 ∨ i = 2 ∨ i = 3 ∨ i = 4 ∨ i = 5 ∨ i = 6 by omega) with q | q | q | q | q | q | q <;> subst q
  · exact h.1 rfl
  · exact h.2.1 rfl
  · exact h.2.2.1 rfl
  · exact h.2.2.2.1 rfl
  · exact h.2.2.2.2.1 rfl
  · exact h.2.2.2.2.2.1 rfl
  · exact h.2.2.2.2.2.2 rfl
theorem zls_2 {l : List Int} {i r a0 a1 : Int} (hl : l = [a0, a1]) (hi : 0 ≤ i ∧ i ≤ 1) (h : (i = 0 → r = a0) ∧ (i = 1 → r = a1)) : r = zlst l i.toNat := by
  subst hl
  rcases (show i = 0 ∨ i = 1 by omega) with q | q <;> subst q
  · exact h.1 rfl
  · exact h.2 rfl
theorem zls_1 {l : List Int} {i r a0 : Int} (hl : l = [a0]) (hi : 0 ≤ i ∧ i ≤ 0) (h : i = 0 → r = a0) : r = zlst l i.toNat := by
  subst hl
  rcases (show i = 0 by omega) with q
  subst q
  exact h rfl
theorem zD9_m {m m1 : zM} {p : Nat} (h : zD9 (fun p i => p = 79 ∧ (10 ≤ i ∧ i ≤ 12)) m m1) (hp : p ≠ 79) : m1 p = m p := funext fun i => h p i (fun q => hp q.1)
theorem zits_m6 {b : Nat → Int} {n : Int} {L : List Int} {lo hi : Nat → Int} {F : Int × Int × (Nat → Int)} {K y g p q : Int} {v : Nat → Int} (J : F = zits b n L lo hi (K - y).toNat g p v) (hy : y < K) (hq : q = znx b n p) (h0 : 0 ≤ p) (hn : n ≤ 240) : F = zits b n L lo hi (K - y).toNat g q v := by
  rw [J, hq, show (K - y).toNat = (K - y - 1).toNat + 1 by omega, zits_nx _ _ _ _ h0 hn]
/-! a WAY, as the model's loop meets it -/
def zwr (r : Nat → Int) (p x : Int) : Nat → Int := fun k => if (k : Int) < x then r (8 * p.toNat + k) else 0
theorem zwr_0 (r : Nat → Int) (p : Int) : zwr r p 0 = fun _ => 0 := funext fun k => if_neg (by omega)
theorem zwr_s {r r1 : Nat → Int} {p x d : Int} (h : r1 = zvu r (8 * p.toNat + x.toNat) d) (hx : 0 ≤ x) : zwr r1 p (x + 1) = zvu (zwr r p x) x.toNat d := by
  funext k
  unfold zwr
  rw [h]
  show (if (k : Int) < x + 1 then (if 8 * p.toNat + k = 8 * p.toNat + x.toNat then d else r (8 * p.toNat + k)) else 0) = (if k = x.toNat then d else if (k : Int) < x then r (8 * p.toNat + k) else 0)
  by_cases q : k = x.toNat
  · rw [if_pos q, if_pos (by omega), if_pos (by omega)]
  · rw [if_neg q]
    by_cases q2 : (k : Int) < x
    · rw [if_pos q2, if_pos (by omega), if_neg (by omega)]
    · rw [if_neg q2, if_neg (by omega)]
theorem zwy_nx {b : Nat → Int} {n : Int} (k i : Nat) (a : Int) (v : Nat → Int) (h0 : 0 ≤ a) (hn : n ≤ 240) : zwy b n (k + 1) i (znx b n a) v = zwy b n (k + 1) i a v := by
  have e : ∀ c, zwy b n (k + 1) i c v = if zpk b n (znx b n c) < 48 ∨ 57 < zpk b n (znx b n c) then (if i = 0 then 0 else 1, znx b n c, i, v)
    else if i = 8 ∨ 52 < zpk b n (znx b n c) then (0, znx b n c, i, v)
    else zwy b n k (i + 1) (znx b n c + 1) (zvu v i (zpk b n (znx b n c) - 48)) := fun c => rfl
  rw [e, e, znx_i h0 hn]
section
variable {b : Nat → Int} {n : Int} {F : Int × Int × Nat × (Nat → Int)} {x a : Int} {v : Nat → Int}
theorem zwy_m1 (J : F = zwy b n (9 - x).toNat x.toNat a v) (hx : 0 ≤ x ∧ x ≤ 8) (hz : znx b n a = a) (h : zpk b n a < 48 ∨ 57 < zpk b n a) : (x = 0 → F.1 = 0) ∧ (x ≠ 0 → F.1 = 1) ∧ F.2.1 = a ∧ (F.2.2.1 : Int) = x ∧ F.2.2.2 = v := by
  have e := zwy_l1 J hx (by rw [hz]; exact h)
  rw [hz] at e; exact e
theorem zwy_m2 (J : F = zwy b n (9 - x).toNat x.toNat a v) (hx : 0 ≤ x ∧ x ≤ 8) (hz : znx b n a = a) (h : 48 ≤ zpk b n a ∧ zpk b n a ≤ 57) (h2 : x = 8 ∨ 52 < zpk b n a) : F.1 = 0 ∧ F.2.1 = a := by
  have e := zwy_l2 J hx (by rw [hz]; exact h) (by rw [hz]; exact h2)
  rw [hz] at e; exact e
theorem zwy_m3 {q : Int} {v1 : Nat → Int} (J : F = zwy b n (9 - x).toNat x.toNat a v) (hx : 0 ≤ x ∧ x ≤ 7) (hz : znx b n a = a) (h : 48 ≤ zpk b n a ∧ zpk b n a ≤ 52) (hq : q = znx b n (a + 1)) (hv : v1 = zvu v x.toNat (zpk b n a - 48)) (h0 : 0 ≤ a) (hn : n ≤ 240) : F = zwy b n (9 - (x + 1)).toNat (x + 1).toNat q v1 := by
  have e := zwy_l3 (p := a + 1) (v1 := v1) J hx (by rw [hz]; exact h) (by rw [hz]) (by rw [hz]; exact hv)
  rw [e, hq, show (9 - (x + 1)).toNat = (7 - x).toNat + 1 by omega, zwy_nx _ _ _ _ (by omega) hn]
end
theorem zwm_e {F : Int × Int × Nat × (Nat → Int)} {m m0 M : zM} {p x : Int} (h9 : m 91 = m0 91) (hE : (F.2.2.1 : Int) = x) (hE2 : F.2.2.2 = zwr (m 89) p x) (hx8 : x ≤ 8) {k : Nat} (hM : M = zm_up m 91 k x) (hk : k = p.toNat) :
    M 91 = zvu (m0 91) p.toNat (F.2.2.1 : Int) ∧ F.2.2.1 ≤ 8 ∧ ∀ j : Nat, j < F.2.2.1 → M 89 (8 * p.toNat + j) = F.2.2.2 j := by
  subst hk
  refine ⟨?_, by omega, fun j hj => ?_⟩
  · rw [hM, zvu_up, h9, hE]
  · rw [hM, zm_ne (Or.inl (by decide)), hE2]
    exact (if_pos (by omega)).symm
theorem zpk_n {mC m : zM} {t a : Int} {e : Nat} (hJ : zJ mC t e m) (h0 : 0 ≤ a) (h : zpk (zbT mC) (mC 79 6) a = -1) : mC 79 6 ≤ a := by
  by_cases q : a < mC 79 6
  · rw [zpk_in q] at h
    have e1 : m 80 a.toNat = mC 80 a.toNat := hJ.2.1 80 _ (by omega)
    have e2 : -128 ≤ m 80 a.toNat ∧ m 80 a.toNat ≤ 127 := hJ.1 80 a.toNat
    have e3 := zub_f (mC 80 a.toNat)
    have e4 : zub (mC 80 a.toNat) = -1 := h
    omega
  · omega
