/-! the class's TasteReader: TERM, SUM, ATOM (by hand) -/
theorem zCk_term_l {b : Nat → Int} {n Lv : Int} {F : zM → Int × zM} {f : Int → Int × Int} {fv : (Nat → Int) → Int → Int} {B : (Nat → Int) → List Int} {bn dd ee : Nat} (hF : zCk b n F f (fun _ => []) fv 0 ee) (hg : zgd n f) (l : ee + 1 ≤ dd) {h0 : zM} (T : zTx b n h0) (a0 : 0 ≤ h0 1 2) (an : h0 1 2 ≤ n) (c0 : 0 ≤ h0 10 2 ∧ h0 10 2 ≤ h0 1 2) :
    ∀ (k : Nat) (x2 : Int) (h : zM) (C : List Int) (v : (Nat → Int) → Int), 240 - x2 < k → x2 < h 1 2 - h0 1 2 → h 1 2 ≤ n → zPt C h0 h (h 1 2) → (C.length : Int) ≤ h 1 2 - h0 1 2 → zwo C → (∀ L, zpu L (B L) C (v L)) → zfi bn dd C → h0 1 2 < h 1 2 → (zt_loop b n 42 47 f 241 (h 1 2)).1 ≠ 0 →
      ∃ (h1 : zM) (C1 : List Int), DL_X10_term_G_D_12 F Lv (fun _ q => (0, q)) k x2 h = (1, h1) ∧ zPt C1 h0 h1 (zt_loop b n 42 47 f 241 (h 1 2)).2 ∧ (C1.length : Int) ≤ (zt_loop b n 42 47 f 241 (h 1 2)).2 - h0 1 2 ∧ zwo C1 ∧ (∀ L, zpu L (B L) C1 (zv_loop b n 42 47 zo_t f (fv L) 241 (h 1 2) (v L))) ∧ zfi bn dd C1 := by
  intro k
  induction k with
  | zero =>
    intro x2 h C v hk hx hn
    have := T.2.2.1
    exact absurd hk (by omega)
  | succ k ih =>
    intro x2 h C v hk hx hn P lC wC vC fC ha ok
    have n240 := T.2.2.1
    have Th := zTx_P T P
    have ap : 0 ≤ h 1 2 := by omega
    have w := znx_le (b := b) (n := n) (a := h 1 2) hn
    have hs0 : (42 : Int) ≠ -1 ∧ (47 : Int) ≠ -1 := by decide
    rw [zt_loop_e hs0 hg ap hn n240] at ok ⊢
    have ev : ∀ L, zv_loop b n 42 47 zo_t f (fv L) 241 (h 1 2) (v L) = _ := fun L => zv_loop_e hs0 hg ap hn n240
    simp only [DL_X10_term_G_D_12]
    rw [if_neg (show ¬ 240 ≤ x2 by omega), zl2_p (zD_nx Th ap)]
    by_cases c : zpk b n (znx b n (h 1 2)) ≠ 42 ∧ zpk b n (znx b n (h 1 2)) ≠ 47
    · rw [if_pos c, if_neg c.1, if_neg c.2]
      refine ⟨_, C, rfl, ?_, ?_, wC, fun L => ?_, fC⟩
      · have q := zPt_tr P (zPt_nx (h := h) (x := znx b n (h 1 2)))
        rw [List.append_nil] at q
        exact q
      · show (C.length : Int) ≤ znx b n (h 1 2) - h0 1 2
        omega
      · rw [ev L, if_pos c]
        exact vC L
    · rw [if_neg c] at ok ⊢
      have lt := zpk_lt (b := b) (n := n) (a := znx b n (h 1 2)) (by omega)
      have hg1 := hg (znx b n (h 1 2) + 1) (by omega) (by omega)
      have okf : (f (znx b n (h 1 2) + 1)).1 ≠ 0 := by
        intro z
        rw [if_pos z] at ok
        exact ok z
      rw [if_neg okf] at ok ⊢
      have em : zm_up (zm_up h 1 2 (znx b n (h 1 2))) 1 2 ((zm_up h 1 2 (znx b n (h 1 2)) 1 2) + 1) = zm_up h 1 2 (znx b n (h 1 2) + 1) := by rw [zm_eq, zm_up2]
      by_cases c1 : zpk b n (znx b n (h 1 2)) = 42
      · obtain ⟨h15, h22, C2, d1, d2, d3, d4, d5, d6, d7⟩ := zCk_turn (s := 7) (o := 0) hF hg l (by decide) T a0 an c0 P lC wC vC fC (h5 := zm_up h 1 2 (znx b n (h 1 2) + 1)) rfl (by omega) okf
        rw [if_pos c1, zlt_e em.symm, zl2_p d1, if_neg (show ¬ (1 : Int) = 0 by decide), if_pos c1, zl2_p d2]
        have e12 : h22 1 2 = (f (znx b n (h 1 2) + 1)).2 := d3.1.1
        rw [← e12] at d3 d4 ok ⊢
        obtain ⟨h1, C1, i1, i2, i3, i4, i5, i6⟩ := ih (x2 + 1) h22 C2 (fun L => zop 7 (v L) (fv L (znx b n (h 1 2) + 1))) (by omega) (by omega) (by omega) d3 d4 d5 d6 d7 (by omega) ok
        refine ⟨h1, C1, i1, i2, i3, i4, fun L => ?_, i6⟩
        rw [ev L, if_neg c, ← e12]
        unfold zo_t at *
        rw [if_pos c1]
        exact i5 L
      · have c2 : zpk b n (znx b n (h 1 2)) = 47 := by omega
        obtain ⟨h15, h22, C2, d1, d2, d3, d4, d5, d6, d7⟩ := zCk_turn (s := 8) (o := 0) hF hg l (by decide) T a0 an c0 P lC wC vC fC (h5 := zm_up h 1 2 (znx b n (h 1 2) + 1)) rfl (by omega) okf
        rw [if_neg c1, if_pos c2, zlt_e em.symm, zl2_p d1, if_neg (show ¬ (1 : Int) = 0 by decide), if_neg c1, zl2_p d2]
        have e12 : h22 1 2 = (f (znx b n (h 1 2) + 1)).2 := d3.1.1
        rw [← e12] at d3 d4 ok ⊢
        obtain ⟨h1, C1, i1, i2, i3, i4, i5, i6⟩ := ih (x2 + 1) h22 C2 (fun L => zop 8 (v L) (fv L (znx b n (h 1 2) + 1))) (by omega) (by omega) (by omega) d3 d4 d5 d6 d7 (by omega) ok
        refine ⟨h1, C1, i1, i2, i3, i4, fun L => ?_, i6⟩
        rw [ev L, if_neg c, ← e12]
        unfold zo_t at *
        rw [if_neg c1]
        exact i5 L
theorem zCk_term {b : Nat → Int} {n Lv : Int} {F : zM → Int × zM} {f : Int → Int × Int} {fv : (Nat → Int) → Int → Int} {dd ee : Nat} (hF : zCk b n F f (fun _ => []) fv 0 ee) (hg : zgd n f) (l : ee + 1 ≤ dd) : zCk b n (D_X10_term_G_D F Lv) (zt_list b n 42 47 f f) (fun _ => []) (fun L => zv_list b n 42 47 zo_t f f (fv L) (fv L)) 0 dd := by
  intro h T a0 an c0 c1 ok
  unfold zt_list at ok ⊢
  have okf : (f (h 1 2)).1 ≠ 0 := by
    intro z
    rw [if_pos z] at ok
    exact ok z
  rw [if_neg okf] at ok ⊢
  obtain ⟨h57, C, d1, d2, d3, d4, d5, d6⟩ := hF h T a0 an c0 c1 okf
  have g1 := hg (h 1 2) a0 an
  have e12 : h57 1 2 = (f (h 1 2)).2 := d2.1.1
  unfold D_X10_term_G_D
  rw [zl2_p d1, if_neg (show ¬ (1 : Int) = 0 by decide)]
  rw [← e12] at d2 d3 ok ⊢
  obtain ⟨h1, C1, i1, i2, i3, i4, i5, i6⟩ := zCk_term_l (Lv := Lv) (B := fun _ => []) (bn := 0) hF hg l T a0 an ⟨c0, c1⟩ ((240 - (0 : Int)).toNat + 1) 0 h57 C (fun L => fv L (h 1 2)) (by omega) (by have := g1.2.2 okf; omega) (by omega) d2 d3 d4 d5 (zfi_up d6 (by omega)) (by have := g1.2.2 okf; omega) ok
  refine ⟨h1, C1, i1, i2, i3, i4, fun L => ?_, i6⟩
  have q := i5 L
  rw [e12] at q
  exact q
theorem zCk_sum_l {b : Nat → Int} {n Lv : Int} {F : zM → Int × zM} {f : Int → Int × Int} {fv : (Nat → Int) → Int → Int} {B : (Nat → Int) → List Int} {bn dd ee : Nat} (hF : zCk b n F f (fun _ => []) fv 0 ee) (hg : zgd n f) (l : ee + 1 ≤ dd) {h0 : zM} (T : zTx b n h0) (a0 : 0 ≤ h0 1 2) (an : h0 1 2 ≤ n) (c0 : 0 ≤ h0 10 2 ∧ h0 10 2 ≤ h0 1 2) :
    ∀ (k : Nat) (x2 : Int) (h : zM) (C : List Int) (v : (Nat → Int) → Int), 240 - x2 < k → x2 < h 1 2 - h0 1 2 → h 1 2 ≤ n → zPt C h0 h (h 1 2) → (C.length : Int) ≤ h 1 2 - h0 1 2 → zwo C → (∀ L, zpu L (B L) C (v L)) → zfi bn dd C → h0 1 2 < h 1 2 → (zt_loop b n 43 45 f 241 (h 1 2)).1 ≠ 0 →
      ∃ (h1 : zM) (C1 : List Int), DL_X10_sum_G_D_12 F Lv (fun _ q => (0, q)) k x2 h = (1, h1) ∧ zPt C1 h0 h1 (zt_loop b n 43 45 f 241 (h 1 2)).2 ∧ (C1.length : Int) ≤ (zt_loop b n 43 45 f 241 (h 1 2)).2 - h0 1 2 ∧ zwo C1 ∧ (∀ L, zpu L (B L) C1 (zv_loop b n 43 45 zo_s f (fv L) 241 (h 1 2) (v L))) ∧ zfi bn dd C1 := by
  intro k
  induction k with
  | zero =>
    intro x2 h C v hk hx hn
    have := T.2.2.1
    exact absurd hk (by omega)
  | succ k ih =>
    intro x2 h C v hk hx hn P lC wC vC fC ha ok
    have n240 := T.2.2.1
    have Th := zTx_P T P
    have ap : 0 ≤ h 1 2 := by omega
    have w := znx_le (b := b) (n := n) (a := h 1 2) hn
    have hs0 : (43 : Int) ≠ -1 ∧ (45 : Int) ≠ -1 := by decide
    rw [zt_loop_e hs0 hg ap hn n240] at ok ⊢
    have ev : ∀ L, zv_loop b n 43 45 zo_s f (fv L) 241 (h 1 2) (v L) = _ := fun L => zv_loop_e hs0 hg ap hn n240
    simp only [DL_X10_sum_G_D_12]
    rw [if_neg (show ¬ 240 ≤ x2 by omega), zl2_p (zD_nx Th ap)]
    by_cases c : zpk b n (znx b n (h 1 2)) ≠ 43 ∧ zpk b n (znx b n (h 1 2)) ≠ 45
    · rw [if_pos c, if_neg c.1, if_neg c.2]
      refine ⟨_, C, rfl, ?_, ?_, wC, fun L => ?_, fC⟩
      · have q := zPt_tr P (zPt_nx (h := h) (x := znx b n (h 1 2)))
        rw [List.append_nil] at q
        exact q
      · show (C.length : Int) ≤ znx b n (h 1 2) - h0 1 2
        omega
      · rw [ev L, if_pos c]
        exact vC L
    · rw [if_neg c] at ok ⊢
      have lt := zpk_lt (b := b) (n := n) (a := znx b n (h 1 2)) (by omega)
      have hg1 := hg (znx b n (h 1 2) + 1) (by omega) (by omega)
      have okf : (f (znx b n (h 1 2) + 1)).1 ≠ 0 := by
        intro z
        rw [if_pos z] at ok
        exact ok z
      rw [if_neg okf] at ok ⊢
      have em : zm_up (zm_up h 1 2 (znx b n (h 1 2))) 1 2 ((zm_up h 1 2 (znx b n (h 1 2)) 1 2) + 1) = zm_up h 1 2 (znx b n (h 1 2) + 1) := by rw [zm_eq, zm_up2]
      by_cases c1 : zpk b n (znx b n (h 1 2)) = 43
      · obtain ⟨h15, h22, C2, d1, d2, d3, d4, d5, d6, d7⟩ := zCk_turn (s := 5) (o := 0) hF hg l (by decide) T a0 an c0 P lC wC vC fC (h5 := zm_up h 1 2 (znx b n (h 1 2) + 1)) rfl (by omega) okf
        rw [if_pos c1, zlt_e em.symm, zl2_p d1, if_neg (show ¬ (1 : Int) = 0 by decide), if_pos c1, zl2_p d2]
        have e12 : h22 1 2 = (f (znx b n (h 1 2) + 1)).2 := d3.1.1
        rw [← e12] at d3 d4 ok ⊢
        obtain ⟨h1, C1, i1, i2, i3, i4, i5, i6⟩ := ih (x2 + 1) h22 C2 (fun L => zop 5 (v L) (fv L (znx b n (h 1 2) + 1))) (by omega) (by omega) (by omega) d3 d4 d5 d6 d7 (by omega) ok
        refine ⟨h1, C1, i1, i2, i3, i4, fun L => ?_, i6⟩
        rw [ev L, if_neg c, ← e12]
        unfold zo_s at *
        rw [if_pos c1]
        exact i5 L
      · have c2 : zpk b n (znx b n (h 1 2)) = 45 := by omega
        obtain ⟨h15, h22, C2, d1, d2, d3, d4, d5, d6, d7⟩ := zCk_turn (s := 6) (o := 0) hF hg l (by decide) T a0 an c0 P lC wC vC fC (h5 := zm_up h 1 2 (znx b n (h 1 2) + 1)) rfl (by omega) okf
        rw [if_neg c1, if_pos c2, zlt_e em.symm, zl2_p d1, if_neg (show ¬ (1 : Int) = 0 by decide), if_neg c1, zl2_p d2]
        have e12 : h22 1 2 = (f (znx b n (h 1 2) + 1)).2 := d3.1.1
        rw [← e12] at d3 d4 ok ⊢
        obtain ⟨h1, C1, i1, i2, i3, i4, i5, i6⟩ := ih (x2 + 1) h22 C2 (fun L => zop 6 (v L) (fv L (znx b n (h 1 2) + 1))) (by omega) (by omega) (by omega) d3 d4 d5 d6 d7 (by omega) ok
        refine ⟨h1, C1, i1, i2, i3, i4, fun L => ?_, i6⟩
        rw [ev L, if_neg c, ← e12]
        unfold zo_s at *
        rw [if_neg c1]
        exact i5 L
theorem zCk_sum {b : Nat → Int} {n Lv : Int} {F : zM → Int × zM} {f : Int → Int × Int} {fv : (Nat → Int) → Int → Int} {dd ee : Nat} (hF : zCk b n F f (fun _ => []) fv 0 ee) (hg : zgd n f) (l : ee + 1 ≤ dd) : zCk b n (D_X10_sum_G_D F Lv) (zt_list b n 43 45 f f) (fun _ => []) (fun L => zv_list b n 43 45 zo_s f f (fv L) (fv L)) 0 dd := by
  intro h T a0 an c0 c1 ok
  unfold zt_list at ok ⊢
  have okf : (f (h 1 2)).1 ≠ 0 := by
    intro z
    rw [if_pos z] at ok
    exact ok z
  rw [if_neg okf] at ok ⊢
  obtain ⟨h57, C, d1, d2, d3, d4, d5, d6⟩ := hF h T a0 an c0 c1 okf
  have g1 := hg (h 1 2) a0 an
  have e12 : h57 1 2 = (f (h 1 2)).2 := d2.1.1
  unfold D_X10_sum_G_D
  rw [zl2_p d1, if_neg (show ¬ (1 : Int) = 0 by decide)]
  rw [← e12] at d2 d3 ok ⊢
  obtain ⟨h1, C1, i1, i2, i3, i4, i5, i6⟩ := zCk_sum_l (Lv := Lv) (B := fun _ => []) (bn := 0) hF hg l T a0 an ⟨c0, c1⟩ ((240 - (0 : Int)).toNat + 1) 0 h57 C (fun L => fv L (h 1 2)) (by omega) (by have := g1.2.2 okf; omega) (by omega) d2 d3 d4 d5 (zfi_up d6 (by omega)) (by have := g1.2.2 okf; omega) ok
  refine ⟨h1, C1, i1, i2, i3, i4, fun L => ?_, i6⟩
  have q := i5 L
  rw [e12] at q
  exact q
