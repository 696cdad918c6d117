/-! the model's reader of TASTES: units, CONDITIONS (by hand) -/
theorem zt_unit_two {b : Nat → Int} {n a : Int} (d : Nat) (c : ¬ (zpk b n (znx b n a) = 33 ∨ zpk b n (znx b n a) = 40)) : zt_unit b n d a = zt_two b n d a := by
  cases d <;> exact if_neg c
theorem zv_unit_two {b : Nat → Int} {n a : Int} {L : Nat → Int} (d : Nat) (c : ¬ (zpk b n (znx b n a) = 33 ∨ zpk b n (znx b n a) = 40)) : zv_unit b n L d a = zv_cmp b n L d (zv_sum b n L d a) (zt_sum b n d a).2 := by
  cases d with
  | zero => rfl
  | succ d => exact (if_neg (fun z => c (Or.inl z))).trans (if_neg (fun z => c (Or.inr z)))
theorem zt_two_nx {b : Nat → Int} {n a : Int} (d : Nat) (h0 : 0 ≤ a) (hn : n ≤ 240) : zt_two b n d (znx b n a) = zt_two b n d a := by
  unfold zt_two
  rw [zt_sum_nx d h0 hn]
theorem zMk_unit {b : Nat → Int} {n Lv : Int} {d : Nat} {Fs : zM → Int × zM} {Fu : zM → Int × zM} {Fk : Int → Int → zM → Int × zM} (hF : zMk b n Lv Fs (zt_sum b n d) (fun r => zv_sum b n (zLm r) d)) (hd : (d = 0 ∧ Lv = 6) ∨ ∃ q : Nat, d = q + 1 ∧ Lv ≠ 6 ∧ zMk b n (Lv + 1) Fu (zt_unit b n q) (fun r => zv_unit b n (zLm r) q) ∧ zMk b n (Lv + 1) (Fk 0 0) (zt_co b n q 0) (fun r => zv_conds b n (zt_unit b n q) (zt_unit b n q) (zv_unit b n (zLm r) q) (zv_unit b n (zLm r) q))) : zMk b n Lv (D_X12_unit_G_D (D_X12_compares_G_D Fs) Fu Fk) (zt_unit b n d) (fun r => zv_unit b n (zLm r) d) := by
  intro h T a0 an f dp ok
  have n240 := T.2.1
  have w := znx_le (b := b) (n := n) (a := h 79 10) an
  have T5 := zTk_up (v := znx b n (h 79 10)) T (show (10 : Nat) ≠ 5 ∧ (10 : Nat) ≠ 9 ∧ (10 : Nat) ≠ 8 by decide)
  have a5 : zm_up h 79 10 (znx b n (h 79 10)) 79 10 = znx b n (h 79 10) := zm_eq
  have f5 : zm_up h 79 10 (znx b n (h 79 10)) 79 11 = -1 := (zm_ne (Or.inr (by decide))).trans f
  have d5 : zm_up h 79 10 (znx b n (h 79 10)) 79 12 = Lv := (zm_ne (Or.inr (by decide))).trans dp
  have r5 : zm_up h 79 10 (znx b n (h 79 10)) 83 = h 83 := zup_o (by decide)
  unfold D_X12_unit_G_D
  rw [zl2_p (zMk_nx T a0)]
  by_cases c : zpk b n (znx b n (h 79 10)) = 33 ∨ zpk b n (znx b n (h 79 10)) = 40
  · rcases hd with ⟨hd, _⟩ | ⟨q, hd, hL, kU, kC⟩
    · subst hd
      have e : zt_unit b n 0 (h 79 10) = (0, znx b n (h 79 10)) := if_pos c
      rw [e] at ok
      exact absurd rfl ok
    · subst hd
      have lt := zpk_lt (b := b) (n := n) (a := znx b n (h 79 10)) (by omega)
      have e : zt_unit b n (q + 1) (h 79 10) = zt_dp b n q (zpk b n (znx b n (h 79 10))) (znx b n (h 79 10)) := by
        refine (if_pos c).trans ?_
        unfold zt_deep zt_dp
        rw [zt_co_0, zt_un_0]
      have gi := zMk_in (n := n) d5 hL
      rw [a5] at gi
      obtain ⟨h40, e40⟩ : ∃ q, q = zm_up (zm_up (zm_up h 79 10 (znx b n (h 79 10))) 79 12 (Lv + 1)) 79 10 (znx b n (h 79 10) + 1) := ⟨_, rfl⟩
      rw [← e40] at gi
      have T40 : zTk b n h40 := by rw [e40]; exact zTk_up (zTk_up T5 (by decide)) (by decide)
      have a40 : h40 79 10 = znx b n (h 79 10) + 1 := by rw [e40]; exact zm_eq
      have f40 : h40 79 11 = -1 := by rw [e40, zm_ne (Or.inr (by decide)), zm_ne (Or.inr (by decide))]; exact f5
      have d40 : h40 79 12 = Lv + 1 := by rw [e40, zm_ne (Or.inr (by decide))]; exact zm_eq
      have r40 : h40 83 = h 83 := by rw [e40, zup_o (by decide), zup_o (by decide)]; exact r5
      have back : ∀ Z : Int, zm_up h 79 10 Z = zm_up (zm_up h40 79 10 Z) 79 12 ((zm_up h40 79 10 Z 79 12) - 1) := by
        intro Z
        have e53 : zm_up h40 79 10 Z 79 12 = Lv + 1 := (zm_ne (Or.inr (by decide))).trans d40
        rw [e53, show Lv + 1 - 1 = Lv by omega, e40, zm_up2, zm_dd d5.symm, zm_up2]
      rw [e] at ok ⊢
      by_cases c33 : zpk b n (znx b n (h 79 10)) = 33
      · have e2 : zt_dp b n q (zpk b n (znx b n (h 79 10))) (znx b n (h 79 10)) = zt_unit b n q (znx b n (h 79 10) + 1) := by
          unfold zt_dp
          rw [if_pos c33, zt_un_0]
        rw [e2] at ok ⊢
        have s := kU h40 T40 (by omega) (by omega) f40 d40 (by rw [a40]; exact ok)
        rw [a40, r40] at s
        dsimp only at s
        rw [if_pos c33, zl2_p gi, if_neg (show ¬ (1 : Int) = 0 by decide), zl2_p s, zlt_e (back _)]
        have ev : zv_unit b n (zLm (h 83)) (q + 1) (h 79 10) = 1 - zv_unit b n (zLm (h 83)) q (znx b n (h 79 10) + 1) := if_pos c33
        show _ = (zv_unit b n (zLm (h 83)) (q + 1) (h 79 10), _)
        rw [ev]
        rcases z01_unit (b := b) (n := n) (L := zLm (h 83)) q (znx b n (h 79 10) + 1) with z | z
        · rw [z, if_pos rfl]; rfl
        · rw [z, if_neg (by decide)]; rfl
      · have c40 := c.resolve_left c33
        have e2 : zt_dp b n q (zpk b n (znx b n (h 79 10))) (znx b n (h 79 10)) = if (zt_co b n q 0 (znx b n (h 79 10) + 1)).1 = 0 then zt_co b n q 0 (znx b n (h 79 10) + 1) else ztk b n 41 (zt_co b n q 0 (znx b n (h 79 10) + 1)).2 := if_neg c33
        have okf : (zt_co b n q 0 (znx b n (h 79 10) + 1)).1 ≠ 0 := by
          intro z
          rw [e2, if_pos z] at ok
          exact ok z
        rw [e2, if_neg okf] at ok ⊢
        have g1 := zt_co_g (b := b) (n := n) q 0 (znx b n (h 79 10) + 1) (by omega) (by omega)
        have s := kC h40 T40 (by omega) (by omega) f40 d40 (by rw [a40]; exact okf)
        rw [a40, r40] at s
        dsimp only at s
        have T47 := zTk_up (v := (zt_co b n q 0 (znx b n (h 79 10) + 1)).2) T40 (show (10 : Nat) ≠ 5 ∧ (10 : Nat) ≠ 9 ∧ (10 : Nat) ≠ 8 by decide)
        have a47 : zm_up h40 79 10 (zt_co b n q 0 (znx b n (h 79 10) + 1)).2 79 10 = (zt_co b n q 0 (znx b n (h 79 10) + 1)).2 := zm_eq
        have t := zMk_tk (s := 41) T47 (by omega) ((zm_ne (Or.inr (by decide))).trans f40) (by rw [a47]; exact ok)
        rw [a47, zm_up2] at t
        have ev : zv_unit b n (zLm (h 83)) (q + 1) (h 79 10) = zv_conds b n (zt_unit b n q) (zt_unit b n q) (zv_unit b n (zLm (h 83)) q) (zv_unit b n (zLm (h 83)) q) (znx b n (h 79 10) + 1) := (if_neg c33).trans (if_pos c40)
        rw [if_neg c33, if_pos c40, zl2_p gi, if_neg (show ¬ (1 : Int) = 0 by decide), zl2_p s, zl2_p t, if_neg (show ¬ (1 : Int) = 0 by decide), zlt_e (back _)]
        show _ = (zv_unit b n (zLm (h 83)) (q + 1) (h 79 10), _)
        rw [ev]
  · rw [zt_unit_two d c] at ok ⊢
    have enx := zt_two_nx (b := b) (n := n) (a := h 79 10) d a0 n240
    have s := zMk_two (rd := 0) hF _ T5 (by omega) (by omega) f5 d5 (by rw [a5, enx]; exact ok)
    rw [a5, enx, r5, zm_up2] at s
    dsimp only at s
    rw [zv_sum_nx d a0 n240, zt_sum_nx d a0 n240] at s
    rw [if_neg (fun z => c (Or.inl z)), if_neg (fun z => c (Or.inr z)), zl2_p s]
    show _ = (zv_unit b n (zLm (h 83)) d (h 79 10), _)
    rw [zv_unit_two d c]
theorem zMk_part_l {b : Nat → Int} {n Lv has rd : Int} {Fc : Int → Int → zM → Int × zM} {Fu : zM → Int × zM} {f : Int → Int × Int} {fv : (Nat → Int) → Int → Int} (hF : zMk b n Lv Fu f fv) (hg : zgd n f) (h01 : ∀ r a, z01 (fv r a)) : ∀ (k : Nat) (x3 : Int) (h : zM), 241 - h 79 10 < k → z01 x3 → zTk b n h → 0 ≤ h 79 10 → h 79 10 ≤ n → h 79 11 = -1 → h 79 12 = Lv → (zt_loop b n 38 38 f 241 (h 79 10)).1 ≠ 0 → DL_X12_part_G_D_18 Fc Fu has rd (fun x q => (x, q)) k x3 h = (zv_loop b n 38 38 zo_a f (fv (h 83)) 241 (h 79 10) x3, zm_up h 79 10 (zt_loop b n 38 38 f 241 (h 79 10)).2) := by
  intro k
  induction k with
  | zero =>
    intro x3 h hk _ T
    have := T.2.1
    exact fun a0 an => absurd hk (by omega)
  | succ k ih =>
    intro x3 h hk hx T a0 an f0 d ok
    have n240 := T.2.1
    have w := znx_le (b := b) (n := n) (a := h 79 10) an
    have hs0 : (38 : Int) ≠ -1 ∧ (38 : Int) ≠ -1 := by decide
    have nx1 := zMk_nx T a0
    rw [zt_loop_e hs0 hg a0 an n240] at ok ⊢
    rw [zv_loop_e hs0 hg a0 an n240]
    simp only [DL_X12_part_G_D_18]
    by_cases c : zpk b n (znx b n (h 79 10)) = 38
    · have c2 : ¬ (zpk b n (znx b n (h 79 10)) ≠ 38 ∧ zpk b n (znx b n (h 79 10)) ≠ 38) := by omega
      rw [if_neg c2] at ok ⊢
      rw [if_neg c2]
      have lt := zpk_lt (b := b) (n := n) (a := znx b n (h 79 10)) (by omega)
      have hg1 := hg (znx b n (h 79 10) + 1) (by omega) (by omega)
      have okf : (f (znx b n (h 79 10) + 1)).1 ≠ 0 := by
        intro z
        rw [if_pos z] at ok
        exact ok z
      rw [if_neg okf] at ok ⊢
      have em : zm_up h 79 10 (znx b n (h 79 10) + 1) = zm_up (zm_up h 79 10 (znx b n (h 79 10))) 79 10 ((zm_up h 79 10 (znx b n (h 79 10)) 79 10) + 1) := by rw [zm_eq, zm_up2]
      have T20 := zTk_up (v := znx b n (h 79 10) + 1) T (show (10 : Nat) ≠ 5 ∧ (10 : Nat) ≠ 9 ∧ (10 : Nat) ≠ 8 by decide)
      have a20 : zm_up h 79 10 (znx b n (h 79 10) + 1) 79 10 = znx b n (h 79 10) + 1 := zm_eq
      have r20 : zm_up h 79 10 (znx b n (h 79 10) + 1) 83 = h 83 := zup_o (by decide)
      have s := hF _ T20 (by omega) (by omega) ((zm_ne (Or.inr (by decide))).trans f0) ((zm_ne (Or.inr (by decide))).trans d) (by rw [a20]; exact okf)
      rw [a20, r20, zm_up2] at s
      have T25 := zTk_up (v := (f (znx b n (h 79 10) + 1)).2) T (show (10 : Nat) ≠ 5 ∧ (10 : Nat) ≠ 9 ∧ (10 : Nat) ≠ 8 by decide)
      have a25 : zm_up h 79 10 (f (znx b n (h 79 10) + 1)).2 79 10 = (f (znx b n (h 79 10) + 1)).2 := zm_eq
      have r25 : zm_up h 79 10 (f (znx b n (h 79 10) + 1)).2 83 = h 83 := zup_o (by decide)
      have y01 := h01 (h 83) (znx b n (h 79 10) + 1)
      have fin := ih (zo_a (zpk b n (znx b n (h 79 10))) x3 (fv (h 83) (znx b n (h 79 10) + 1))) (zm_up h 79 10 (f (znx b n (h 79 10) + 1)).2) (by omega) (z01_ar hx y01) T25 (by omega) (by omega) ((zm_ne (Or.inr (by decide))).trans f0) ((zm_ne (Or.inr (by decide))).trans d) (by rw [a25]; exact ok)
      rw [a25, r25, zm_up2] at fin
      rw [if_pos f0, zl2_p nx1, if_pos c, zlt_e em, zl2_p s]
      generalize fv (h 83) (znx b n (h 79 10) + 1) = y at *
      refine Eq.trans ?_ fin
      rw [z01_a hx y01]
      by_cases z : x3 = 0
      · rw [if_pos z, if_pos z]
      · rw [if_neg z, if_neg z]
        by_cases z2 : y = 0
        · rw [if_pos z2, if_pos z2]
        · rw [if_neg z2, if_neg z2]
    · have c2 : zpk b n (znx b n (h 79 10)) ≠ 38 ∧ zpk b n (znx b n (h 79 10)) ≠ 38 := ⟨c, c⟩
      rw [if_pos c2, if_pos c2, if_pos f0, zl2_p nx1, if_neg c]
theorem zMk_con_l {b : Nat → Int} {n Lv has rd : Int} {Fp : Int → Int → zM → Int × zM} {f : Int → Int × Int} {fv : (Nat → Int) → Int → Int} (hF : zMk b n Lv (Fp 0 0) f fv) (hg : zgd n f) (h01 : ∀ r a, z01 (fv r a)) : ∀ (k : Nat) (x3 : Int) (h : zM), 241 - h 79 10 < k → z01 x3 → zTk b n h → 0 ≤ h 79 10 → h 79 10 ≤ n → h 79 11 = -1 → h 79 12 = Lv → (zt_loop b n 124 124 f 241 (h 79 10)).1 ≠ 0 → DL_X12_condition_G_D_7 Fp has rd (fun x q => (x, q)) k x3 h = (zv_loop b n 124 124 zo_o f (fv (h 83)) 241 (h 79 10) x3, zm_up h 79 10 (zt_loop b n 124 124 f 241 (h 79 10)).2) := by
  intro k
  induction k with
  | zero =>
    intro x3 h hk _ T
    have := T.2.1
    exact fun a0 an => absurd hk (by omega)
  | succ k ih =>
    intro x3 h hk hx T a0 an f0 d ok
    have n240 := T.2.1
    have w := znx_le (b := b) (n := n) (a := h 79 10) an
    have hs0 : (124 : Int) ≠ -1 ∧ (124 : Int) ≠ -1 := by decide
    have nx1 := zMk_nx T a0
    rw [zt_loop_e hs0 hg a0 an n240] at ok ⊢
    rw [zv_loop_e hs0 hg a0 an n240]
    simp only [DL_X12_condition_G_D_7]
    by_cases c : zpk b n (znx b n (h 79 10)) = 124
    · have c2 : ¬ (zpk b n (znx b n (h 79 10)) ≠ 124 ∧ zpk b n (znx b n (h 79 10)) ≠ 124) := by omega
      rw [if_neg c2] at ok ⊢
      rw [if_neg c2]
      have lt := zpk_lt (b := b) (n := n) (a := znx b n (h 79 10)) (by omega)
      have hg1 := hg (znx b n (h 79 10) + 1) (by omega) (by omega)
      have okf : (f (znx b n (h 79 10) + 1)).1 ≠ 0 := by
        intro z
        rw [if_pos z] at ok
        exact ok z
      rw [if_neg okf] at ok ⊢
      have em : zm_up h 79 10 (znx b n (h 79 10) + 1) = zm_up (zm_up h 79 10 (znx b n (h 79 10))) 79 10 ((zm_up h 79 10 (znx b n (h 79 10)) 79 10) + 1) := by rw [zm_eq, zm_up2]
      have T20 := zTk_up (v := znx b n (h 79 10) + 1) T (show (10 : Nat) ≠ 5 ∧ (10 : Nat) ≠ 9 ∧ (10 : Nat) ≠ 8 by decide)
      have a20 : zm_up h 79 10 (znx b n (h 79 10) + 1) 79 10 = znx b n (h 79 10) + 1 := zm_eq
      have r20 : zm_up h 79 10 (znx b n (h 79 10) + 1) 83 = h 83 := zup_o (by decide)
      have s := hF _ T20 (by omega) (by omega) ((zm_ne (Or.inr (by decide))).trans f0) ((zm_ne (Or.inr (by decide))).trans d) (by rw [a20]; exact okf)
      rw [a20, r20, zm_up2] at s
      have T25 := zTk_up (v := (f (znx b n (h 79 10) + 1)).2) T (show (10 : Nat) ≠ 5 ∧ (10 : Nat) ≠ 9 ∧ (10 : Nat) ≠ 8 by decide)
      have a25 : zm_up h 79 10 (f (znx b n (h 79 10) + 1)).2 79 10 = (f (znx b n (h 79 10) + 1)).2 := zm_eq
      have r25 : zm_up h 79 10 (f (znx b n (h 79 10) + 1)).2 83 = h 83 := zup_o (by decide)
      have y01 := h01 (h 83) (znx b n (h 79 10) + 1)
      have fin := ih (zo_o (zpk b n (znx b n (h 79 10))) x3 (fv (h 83) (znx b n (h 79 10) + 1))) (zm_up h 79 10 (f (znx b n (h 79 10) + 1)).2) (by omega) (z01_or hx y01) T25 (by omega) (by omega) ((zm_ne (Or.inr (by decide))).trans f0) ((zm_ne (Or.inr (by decide))).trans d) (by rw [a25]; exact ok)
      rw [a25, r25, zm_up2] at fin
      rw [if_pos f0, zl2_p nx1, if_pos c, zlt_e em, zl2_p s]
      generalize fv (h 83) (znx b n (h 79 10) + 1) = y at *
      refine Eq.trans ?_ fin
      rw [z01_o hx y01]
      by_cases z : x3 = 0
      · rw [if_pos z, if_pos z]
        by_cases z2 : y = 0
        · rw [if_pos z2, if_pos z2]
        · rw [if_neg z2, if_neg z2]
      · rw [if_neg z, if_neg z]
    · have c2 : zpk b n (znx b n (h 79 10)) ≠ 124 ∧ zpk b n (znx b n (h 79 10)) ≠ 124 := ⟨c, c⟩
      rw [if_pos c2, if_pos c2, if_pos f0, zl2_p nx1, if_neg c]
theorem zMk_part0 {b : Nat → Int} {n Lv rd : Int} {Fc : Int → Int → zM → Int × zM} {Fu : zM → Int × zM} {f0 f : Int → Int × Int} {fv0 fv : (Nat → Int) → Int → Int} (h0 : zMk b n Lv Fu f0 fv0) (hF : zMk b n Lv Fu f fv) (g0 : zgd n f0) (hg : zgd n f) (o0 : ∀ r a, z01 (fv0 r a)) (h01 : ∀ r a, z01 (fv r a)) : zMk b n Lv (D_X12_part_G_D Fc Fu 0 rd) (zt_list b n 38 38 f0 f) (fun r => zv_list b n 38 38 zo_a f0 f (fv0 r) (fv r)) := by
  intro h T a0 an ff d ok
  unfold zt_list at ok ⊢
  have okf : (f0 (h 79 10)).1 ≠ 0 := by
    intro z
    rw [if_pos z] at ok
    exact ok z
  rw [if_neg okf] at ok ⊢
  have g1 := g0 (h 79 10) a0 an
  have s := h0 h T a0 an ff d okf
  have T25 := zTk_up (v := (f0 (h 79 10)).2) T (show (10 : Nat) ≠ 5 ∧ (10 : Nat) ≠ 9 ∧ (10 : Nat) ≠ 8 by decide)
  have a25 : zm_up h 79 10 (f0 (h 79 10)).2 79 10 = (f0 (h 79 10)).2 := zm_eq
  have r25 : zm_up h 79 10 (f0 (h 79 10)).2 83 = h 83 := zup_o (by decide)
  have fin := zMk_part_l (Fc := Fc) (has := 0) (rd := rd) hF hg h01 ((241 - zm_up h 79 10 (f0 (h 79 10)).2 79 10).toNat + 1) (fv0 (h 83) (h 79 10)) (zm_up h 79 10 (f0 (h 79 10)).2) (by omega) (o0 _ _) T25 (by omega) (by omega) ((zm_ne (Or.inr (by decide))).trans ff) ((zm_ne (Or.inr (by decide))).trans d) (by rw [a25]; exact ok)
  unfold D_X12_part_G_D
  rw [if_pos rfl, zl2_p s]
  refine fin.trans ?_
  rw [a25, r25, zm_up2]
  rfl
theorem zMk_part1 {b : Nat → Int} {n Lv rd : Int} {Fc : Int → Int → zM → Int × zM} {Fu : zM → Int × zM} {f0 f : Int → Int × Int} {fv0 fv : (Nat → Int) → Int → Int} (h0 : zMk b n Lv (Fc 1 rd) f0 fv0) (hF : zMk b n Lv Fu f fv) (g0 : zgd n f0) (hg : zgd n f) (o0 : ∀ r a, z01 (fv0 r a)) (h01 : ∀ r a, z01 (fv r a)) : zMk b n Lv (D_X12_part_G_D Fc Fu 1 rd) (zt_list b n 38 38 f0 f) (fun r => zv_list b n 38 38 zo_a f0 f (fv0 r) (fv r)) := by
  intro h T a0 an ff d ok
  unfold zt_list at ok ⊢
  have okf : (f0 (h 79 10)).1 ≠ 0 := by
    intro z
    rw [if_pos z] at ok
    exact ok z
  rw [if_neg okf] at ok ⊢
  have g1 := g0 (h 79 10) a0 an
  have s := h0 h T a0 an ff d okf
  have T25 := zTk_up (v := (f0 (h 79 10)).2) T (show (10 : Nat) ≠ 5 ∧ (10 : Nat) ≠ 9 ∧ (10 : Nat) ≠ 8 by decide)
  have a25 : zm_up h 79 10 (f0 (h 79 10)).2 79 10 = (f0 (h 79 10)).2 := zm_eq
  have r25 : zm_up h 79 10 (f0 (h 79 10)).2 83 = h 83 := zup_o (by decide)
  have fin := zMk_part_l (Fc := Fc) (has := 1) (rd := rd) hF hg h01 ((241 - zm_up h 79 10 (f0 (h 79 10)).2 79 10).toNat + 1) (fv0 (h 83) (h 79 10)) (zm_up h 79 10 (f0 (h 79 10)).2) (by omega) (o0 _ _) T25 (by omega) (by omega) ((zm_ne (Or.inr (by decide))).trans ff) ((zm_ne (Or.inr (by decide))).trans d) (by rw [a25]; exact ok)
  unfold D_X12_part_G_D
  rw [if_neg (show ¬ (1 : Int) = 0 by decide), zl2_p s]
  refine fin.trans ?_
  rw [a25, r25, zm_up2]
  rfl
theorem zMk_con {b : Nat → Int} {n Lv has rd : Int} {Fp : Int → Int → zM → Int × zM} {f0 f : Int → Int × Int} {fv0 fv : (Nat → Int) → Int → Int} (h0 : zMk b n Lv (Fp has rd) f0 fv0) (hF : zMk b n Lv (Fp 0 0) f fv) (g0 : zgd n f0) (hg : zgd n f) (o0 : ∀ r a, z01 (fv0 r a)) (h01 : ∀ r a, z01 (fv r a)) : zMk b n Lv (D_X12_condition_G_D Fp has rd) (zt_list b n 124 124 f0 f) (fun r => zv_list b n 124 124 zo_o f0 f (fv0 r) (fv r)) := by
  intro h T a0 an ff d ok
  unfold zt_list at ok ⊢
  have okf : (f0 (h 79 10)).1 ≠ 0 := by
    intro z
    rw [if_pos z] at ok
    exact ok z
  rw [if_neg okf] at ok ⊢
  have g1 := g0 (h 79 10) a0 an
  have s := h0 h T a0 an ff d okf
  have T25 := zTk_up (v := (f0 (h 79 10)).2) T (show (10 : Nat) ≠ 5 ∧ (10 : Nat) ≠ 9 ∧ (10 : Nat) ≠ 8 by decide)
  have a25 : zm_up h 79 10 (f0 (h 79 10)).2 79 10 = (f0 (h 79 10)).2 := zm_eq
  have r25 : zm_up h 79 10 (f0 (h 79 10)).2 83 = h 83 := zup_o (by decide)
  have fin := zMk_con_l (has := has) (rd := rd) hF hg h01 ((241 - zm_up h 79 10 (f0 (h 79 10)).2 79 10).toNat + 1) (fv0 (h 83) (h 79 10)) (zm_up h 79 10 (f0 (h 79 10)).2) (by omega) (o0 _ _) T25 (by omega) (by omega) ((zm_ne (Or.inr (by decide))).trans ff) ((zm_ne (Or.inr (by decide))).trans d) (by rw [a25]; exact ok)
  unfold D_X12_condition_G_D
  rw [zl2_p s]
  refine fin.trans ?_
  rw [a25, r25, zm_up2]
  rfl
theorem zMk_s {b : Nat → Int} {n Lv : Int} {d : Nat} {F : zM → Int × zM} (h : zMk b n Lv F (zt_atom b n (zt_in b n d)) (fun r => zv_atom b n (zLm r) (zv_in b n (zLm r) d))) : zMk b n Lv (D_X12_sum_G_D (fun h => D_X12_term_G_D F h)) (zt_sum b n d) (fun r => zv_sum b n (zLm r) d) := by
  have g : zgd n (zt_atom b n (zt_in b n d)) := zt_atom_g (fun q hq => by
    cases d with
    | zero => exact absurd hq (by unfold zt_in; exact fun z => by cases z)
    | succ d =>
      have : q = zt_sum b n d := by
        unfold zt_in at hq
        exact (Option.some.inj hq).symm
      subst this
      exact zt_sum_g d)
  rw [zt_sum_eq, show (fun r => zv_sum b n (zLm r) d) = (fun r => zv_list b n 43 45 zo_s (zt_term b n (zt_in b n d)) (zt_term b n (zt_in b n d)) (zv_term b n (zLm r) (zt_in b n d) (zv_in b n (zLm r) d)) (zv_term b n (zLm r) (zt_in b n d) (zv_in b n (zLm r) d))) from funext fun r => zv_sum_eq b n (zLm r) d]
  exact zMk_sum (F := fun h => D_X12_term_G_D F h) (zMk_term h g) (zt_list_g (by decide) g g)
/-- a CONDITION, from what its first TRUTH is -/
theorem zMk_k {b : Nat → Int} {n Lv rd : Int} {d : Nat} {Fc : Int → Int → zM → Int × zM} {Fu : zM → Int × zM} (hU : zMk b n Lv Fu (zt_unit b n d) (fun r => zv_unit b n (zLm r) d)) : zMk b n Lv (D_X12_condition_G_D (fun has rd h => D_X12_part_G_D Fc Fu has rd h) 0 rd) (zt_co b n d 0) (fun r => zv_conds b n (zt_unit b n d) (zt_unit b n d) (zv_unit b n (zLm r) d) (zv_unit b n (zLm r) d)) := by
  rw [← zt_co_0]
  have p : ∀ rd : Int, zMk b n Lv (D_X12_part_G_D Fc Fu 0 rd) (zt_list b n 38 38 (zt_unit b n d) (zt_unit b n d)) (fun r => zv_list b n 38 38 zo_a (zt_unit b n d) (zt_unit b n d) (zv_unit b n (zLm r) d) (zv_unit b n (zLm r) d)) := fun rd => zMk_part0 hU hU (zt_unit_g d) (zt_unit_g d) (fun _ _ => z01_unit _ _) (fun _ _ => z01_unit _ _)
  exact zMk_con (Fp := fun has rd h => D_X12_part_G_D Fc Fu has rd h) (p rd) (p 0) (zt_list_g (by decide) (zt_unit_g d) (zt_unit_g d)) (zt_list_g (by decide) (zt_unit_g d) (zt_unit_g d)) (fun _ _ => z01_tr (z01_unit _) (z01_unit _)) (fun _ _ => z01_tr (z01_unit _) (z01_unit _))
theorem zMk_kb {b : Nat → Int} {n Lv v : Int} {d : Nat} {Fs : zM → Int × zM} {Fu : zM → Int × zM} (hF : zMk b n Lv Fs (zt_sum b n d) (fun r => zv_sum b n (zLm r) d)) (hU : zMk b n Lv Fu (zt_unit b n d) (fun r => zv_unit b n (zLm r) d)) : zMk b n Lv (D_X12_condition_G_D (fun has rd h => D_X12_part_G_D (D_X12_compares_G_D Fs) Fu has rd h) 1 v) (zt_co b n d 1) (fun r => zv_conds b n (zt_cmp b n d) (zt_unit b n d) (zv_cmp b n (zLm r) d v) (zv_unit b n (zLm r) d)) := by
  rw [← zt_co_1]
  have hc : zMk b n Lv (D_X12_compares_G_D Fs 1 v) (zt_cmp b n d) (fun r => zv_cmp b n (zLm r) d v) := fun h T a0 an f dp ok => (zMcmp_1 (by decide) h).trans (zMk_cmp hF v h T a0 an f dp ok)
  have p0 : zMk b n Lv (D_X12_part_G_D (D_X12_compares_G_D Fs) Fu 0 0) (zt_list b n 38 38 (zt_unit b n d) (zt_unit b n d)) (fun r => zv_list b n 38 38 zo_a (zt_unit b n d) (zt_unit b n d) (zv_unit b n (zLm r) d) (zv_unit b n (zLm r) d)) := zMk_part0 hU hU (zt_unit_g d) (zt_unit_g d) (fun _ _ => z01_unit _ _) (fun _ _ => z01_unit _ _)
  have p1 : zMk b n Lv (D_X12_part_G_D (D_X12_compares_G_D Fs) Fu 1 v) (zt_list b n 38 38 (zt_cmp b n d) (zt_unit b n d)) (fun r => zv_list b n 38 38 zo_a (zt_cmp b n d) (zt_unit b n d) (zv_cmp b n (zLm r) d v) (zv_unit b n (zLm r) d)) := zMk_part1 hc hU (zt_cmp_g d) (zt_unit_g d) (fun _ _ => z01_cmp) (fun _ _ => z01_unit _ _)
  exact zMk_con (Fp := fun has rd h => D_X12_part_G_D (D_X12_compares_G_D Fs) Fu has rd h) p1 p0 (zt_list_g (by decide) (zt_cmp_g d) (zt_unit_g d)) (zt_list_g (by decide) (zt_unit_g d) (zt_unit_g d)) (fun _ _ => z01_tr (fun _ => z01_cmp) (z01_unit _)) (fun _ _ => z01_tr (z01_unit _) (z01_unit _))
theorem zMk_S6 {b : Nat → Int} {n : Int} : zMk b n 6 D_X12_sum_L6_D (zt_sum b n 0) (fun r => zv_sum b n (zLm r) 0) := zMk_s (d := 0) (Lv := 6) (zMk_atom (Lv := 6) (inner := zt_in b n 0) (iv := fun L => zv_in b n L 0) (Or.inl ⟨rfl, rfl⟩))
theorem zMk_U6 {b : Nat → Int} {n : Int} : zMk b n 6 D_X12_unit_L6_D (zt_unit b n 0) (fun r => zv_unit b n (zLm r) 0) := zMk_unit (Lv := 6) (Fs := D_X12_sum_L6_D) (Fu := (fun h => (0, h))) (Fk := (fun _ _ h => (0, h))) zMk_S6 (Or.inl ⟨rfl, rfl⟩)
theorem zMk_K6 {b : Nat → Int} {n : Int} : zMk b n 6 (D_X12_condition_L6_D 0 0) (zt_co b n 0 0) (fun r => zv_conds b n (zt_unit b n 0) (zt_unit b n 0) (zv_unit b n (zLm r) 0) (zv_unit b n (zLm r) 0)) := zMk_k (Fc := D_X12_compares_L6_D) (Fu := D_X12_unit_L6_D) zMk_U6
theorem zMk_S5 {b : Nat → Int} {n : Int} : zMk b n 5 D_X12_sum_L5_D (zt_sum b n 1) (fun r => zv_sum b n (zLm r) 1) := zMk_s (d := 1) (Lv := 5) (zMk_atom (Lv := 5) (inner := zt_in b n 1) (iv := fun L => zv_in b n L 1) (Or.inr ⟨zt_sum b n 0, rfl, by decide, zMk_S6, zt_sum_g 0⟩))
theorem zMk_U5 {b : Nat → Int} {n : Int} : zMk b n 5 D_X12_unit_L5_D (zt_unit b n 1) (fun r => zv_unit b n (zLm r) 1) := zMk_unit (Lv := 5) (Fs := D_X12_sum_L5_D) (Fu := D_X12_unit_L6_D) (Fk := D_X12_condition_L6_D) zMk_S5 (Or.inr ⟨0, rfl, by decide, zMk_U6, zMk_K6⟩)
theorem zMk_K5 {b : Nat → Int} {n : Int} : zMk b n 5 (D_X12_condition_L5_D 0 0) (zt_co b n 1 0) (fun r => zv_conds b n (zt_unit b n 1) (zt_unit b n 1) (zv_unit b n (zLm r) 1) (zv_unit b n (zLm r) 1)) := zMk_k (Fc := D_X12_compares_L5_D) (Fu := D_X12_unit_L5_D) zMk_U5
theorem zMk_S4 {b : Nat → Int} {n : Int} : zMk b n 4 D_X12_sum_L4_D (zt_sum b n 2) (fun r => zv_sum b n (zLm r) 2) := zMk_s (d := 2) (Lv := 4) (zMk_atom (Lv := 4) (inner := zt_in b n 2) (iv := fun L => zv_in b n L 2) (Or.inr ⟨zt_sum b n 1, rfl, by decide, zMk_S5, zt_sum_g 1⟩))
theorem zMk_U4 {b : Nat → Int} {n : Int} : zMk b n 4 D_X12_unit_L4_D (zt_unit b n 2) (fun r => zv_unit b n (zLm r) 2) := zMk_unit (Lv := 4) (Fs := D_X12_sum_L4_D) (Fu := D_X12_unit_L5_D) (Fk := D_X12_condition_L5_D) zMk_S4 (Or.inr ⟨1, rfl, by decide, zMk_U5, zMk_K5⟩)
theorem zMk_K4 {b : Nat → Int} {n : Int} : zMk b n 4 (D_X12_condition_L4_D 0 0) (zt_co b n 2 0) (fun r => zv_conds b n (zt_unit b n 2) (zt_unit b n 2) (zv_unit b n (zLm r) 2) (zv_unit b n (zLm r) 2)) := zMk_k (Fc := D_X12_compares_L4_D) (Fu := D_X12_unit_L4_D) zMk_U4
theorem zMk_S3 {b : Nat → Int} {n : Int} : zMk b n 3 D_X12_sum_L3_D (zt_sum b n 3) (fun r => zv_sum b n (zLm r) 3) := zMk_s (d := 3) (Lv := 3) (zMk_atom (Lv := 3) (inner := zt_in b n 3) (iv := fun L => zv_in b n L 3) (Or.inr ⟨zt_sum b n 2, rfl, by decide, zMk_S4, zt_sum_g 2⟩))
theorem zMk_U3 {b : Nat → Int} {n : Int} : zMk b n 3 D_X12_unit_L3_D (zt_unit b n 3) (fun r => zv_unit b n (zLm r) 3) := zMk_unit (Lv := 3) (Fs := D_X12_sum_L3_D) (Fu := D_X12_unit_L4_D) (Fk := D_X12_condition_L4_D) zMk_S3 (Or.inr ⟨2, rfl, by decide, zMk_U4, zMk_K4⟩)
theorem zMk_K3 {b : Nat → Int} {n : Int} : zMk b n 3 (D_X12_condition_L3_D 0 0) (zt_co b n 3 0) (fun r => zv_conds b n (zt_unit b n 3) (zt_unit b n 3) (zv_unit b n (zLm r) 3) (zv_unit b n (zLm r) 3)) := zMk_k (Fc := D_X12_compares_L3_D) (Fu := D_X12_unit_L3_D) zMk_U3
theorem zMk_S2 {b : Nat → Int} {n : Int} : zMk b n 2 D_X12_sum_L2_D (zt_sum b n 4) (fun r => zv_sum b n (zLm r) 4) := zMk_s (d := 4) (Lv := 2) (zMk_atom (Lv := 2) (inner := zt_in b n 4) (iv := fun L => zv_in b n L 4) (Or.inr ⟨zt_sum b n 3, rfl, by decide, zMk_S3, zt_sum_g 3⟩))
theorem zMk_U2 {b : Nat → Int} {n : Int} : zMk b n 2 D_X12_unit_L2_D (zt_unit b n 4) (fun r => zv_unit b n (zLm r) 4) := zMk_unit (Lv := 2) (Fs := D_X12_sum_L2_D) (Fu := D_X12_unit_L3_D) (Fk := D_X12_condition_L3_D) zMk_S2 (Or.inr ⟨3, rfl, by decide, zMk_U3, zMk_K3⟩)
theorem zMk_K2 {b : Nat → Int} {n : Int} : zMk b n 2 (D_X12_condition_L2_D 0 0) (zt_co b n 4 0) (fun r => zv_conds b n (zt_unit b n 4) (zt_unit b n 4) (zv_unit b n (zLm r) 4) (zv_unit b n (zLm r) 4)) := zMk_k (Fc := D_X12_compares_L2_D) (Fu := D_X12_unit_L2_D) zMk_U2
theorem zMk_S1 {b : Nat → Int} {n : Int} : zMk b n 1 D_X12_sum_L1_D (zt_sum b n 5) (fun r => zv_sum b n (zLm r) 5) := zMk_s (d := 5) (Lv := 1) (zMk_atom (Lv := 1) (inner := zt_in b n 5) (iv := fun L => zv_in b n L 5) (Or.inr ⟨zt_sum b n 4, rfl, by decide, zMk_S2, zt_sum_g 4⟩))
theorem zMk_U1 {b : Nat → Int} {n : Int} : zMk b n 1 D_X12_unit_L1_D (zt_unit b n 5) (fun r => zv_unit b n (zLm r) 5) := zMk_unit (Lv := 1) (Fs := D_X12_sum_L1_D) (Fu := D_X12_unit_L2_D) (Fk := D_X12_condition_L2_D) zMk_S1 (Or.inr ⟨4, rfl, by decide, zMk_U2, zMk_K2⟩)
theorem zMk_K1 {b : Nat → Int} {n : Int} : zMk b n 1 (D_X12_condition_L1_D 0 0) (zt_co b n 5 0) (fun r => zv_conds b n (zt_unit b n 5) (zt_unit b n 5) (zv_unit b n (zLm r) 5) (zv_unit b n (zLm r) 5)) := zMk_k (Fc := D_X12_compares_L1_D) (Fu := D_X12_unit_L1_D) zMk_U1
theorem zMk_S0 {b : Nat → Int} {n : Int} : zMk b n 0 D_X12_sum_L0_D (zt_sum b n 6) (fun r => zv_sum b n (zLm r) 6) := zMk_s (d := 6) (Lv := 0) (zMk_atom (Lv := 0) (inner := zt_in b n 6) (iv := fun L => zv_in b n L 6) (Or.inr ⟨zt_sum b n 5, rfl, by decide, zMk_S1, zt_sum_g 5⟩))
theorem zMk_U0 {b : Nat → Int} {n : Int} : zMk b n 0 D_X12_unit_L0_D (zt_unit b n 6) (fun r => zv_unit b n (zLm r) 6) := zMk_unit (Lv := 0) (Fs := D_X12_sum_L0_D) (Fu := D_X12_unit_L1_D) (Fk := D_X12_condition_L1_D) zMk_S0 (Or.inr ⟨5, rfl, by decide, zMk_U1, zMk_K1⟩)
theorem zMk_K0 {b : Nat → Int} {n : Int} : zMk b n 0 (D_X12_condition_L0_D 0 0) (zt_co b n 6 0) (fun r => zv_conds b n (zt_unit b n 6) (zt_unit b n 6) (zv_unit b n (zLm r) 6) (zv_unit b n (zLm r) 6)) := zMk_k (Fc := D_X12_compares_L0_D) (Fu := D_X12_unit_L0_D) zMk_U0
theorem zMk_K0b {b : Nat → Int} {n : Int} (v : Int) : zMk b n 0 (D_X12_condition_L0_D 1 v) (zt_co b n 6 1) (fun r => zv_conds b n (zt_cmp b n 6) (zt_unit b n 6) (zv_cmp b n (zLm r) 6 v) (zv_unit b n (zLm r) 6)) := zMk_kb (Fs := D_X12_sum_L0_D) (Fu := D_X12_unit_L0_D) zMk_S0 zMk_U0
