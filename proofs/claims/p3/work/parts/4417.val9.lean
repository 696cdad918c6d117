/-! the model's reader of TASTES: what it gives where there is no FAULT (by hand) -/
def zTk (b : Nat → Int) (n : Int) (h : zM) : Prop := (h 79 5 = 81 ∧ h 79 9 = n ∧ 0 ≤ h 79 8) ∧ (n ≤ 240) ∧ (∀ i : Nat, b i = zub (h 81 ((h 79 8).toNat + i)) ∧ -128 ≤ h 81 ((h 79 8).toNat + i) ∧ h 81 ((h 79 8).toNat + i) ≤ 127)
theorem zTk_up {b : Nat → Int} {n v : Int} {i : Nat} {h : zM} (T : zTk b n h) (e : i ≠ 5 ∧ i ≠ 9 ∧ i ≠ 8) : zTk b n (zm_up h 79 i v) := by
  obtain ⟨⟨t1, t2, t3⟩, t4, t5⟩ := T
  have e8 : zm_up h 79 i v 79 8 = h 79 8 := zm_ne (Or.inr (by omega))
  have e81 : ∀ j : Nat, zm_up h 79 i v 81 j = h 81 j := fun j => zm_ne (Or.inl (by decide))
  refine ⟨⟨?_, ?_, ?_⟩, t4, fun j => ?_⟩
  · rw [zm_ne (Or.inr (by omega))]; exact t1
  · rw [zm_ne (Or.inr (by omega))]; exact t2
  · rw [e8]; exact t3
  · rw [e8, e81]; exact t5 j
theorem zTk_r {b : Nat → Int} {n : Int} {h : zM} (T : zTk b n h) (a0 : 0 ≤ h 79 10) : b (h 79 10).toNat = zub (h 81 ((h 79 8 + h 79 10).toNat)) ∧ -128 ≤ h 81 ((h 79 8 + h 79 10).toNat) ∧ h 81 ((h 79 8 + h 79 10).toNat) ≤ 127 := by
  have q := T.2.2 (h 79 10).toNat
  rw [show (h 79 8).toNat + (h 79 10).toNat = (h 79 8 + h 79 10).toNat by have := T.1.2.2; omega] at q
  exact q
theorem zTk_b {b : Nat → Int} {n : Int} {h : zM} (T : zTk b n h) (i : Nat) : 0 ≤ b i ∧ b i ≤ 255 := by
  have q := T.2.2 i
  rw [q.1]
  unfold zub
  split <;> omega
theorem zMk_nx_l {b : Nat → Int} {n : Int} : ∀ (k : Nat) (h : zM), zTk b n h → 0 ≤ h 79 10 → 241 - h 79 10 < k → ∀ K : zM → Int × zM, DL_X12_look_D_0 K k h = K (zm_up h 79 10 (znx b n (h 79 10))) := by
  intro k
  induction k with
  | zero =>
    intro h T h0 hk K
    have e : znx b n (h 79 10) = h 79 10 := znx_0 (Or.inl (by have := T.2.1; omega))
    rw [e, zm_self]
    rfl
  | succ k ih =>
    intro h T h0 hk K
    have r := zTk_r T h0
    simp only [DL_X12_look_D_0]
    rw [T.1.2.1]
    by_cases c1 : n ≤ h 79 10
    · rw [if_pos c1, znx_0 (Or.inl c1), zm_self]
    · rw [if_neg c1, zlt_e (show (81 : Nat) = (h 79 5).toNat by have := T.1.1; omega)]
      by_cases c2 : h 81 ((h 79 8 + h 79 10).toNat) = 32
      · rw [if_pos c2]
        have c3 : b (h 79 10).toNat = 32 := by rw [r.1, c2]; rfl
        obtain ⟨h6, e6⟩ : ∃ q, q = zm_up h 79 10 ((h 79 10) + 1) := ⟨_, rfl⟩
        have v6 : h6 79 10 = h 79 10 + 1 := by rw [e6]; exact zm_eq
        have T6 : zTk b n h6 := by rw [e6]; exact zTk_up T (by decide)
        rw [zlt_e e6, ih h6 T6 (by omega) (by omega) K, v6, znx_s h0 T.2.1 (by omega) c3, e6, zm_up2]
      · have c3 : b (h 79 10).toNat ≠ 32 := by
          rw [r.1]
          unfold zub
          split <;> omega
        rw [if_neg c2, znx_0 (Or.inr c3), zm_self]
theorem zMk_nx {b : Nat → Int} {n : Int} {h : zM} (T : zTk b n h) (h0 : 0 ≤ h 79 10) : D_X12_look_D h = (zpk b n (znx b n (h 79 10)), zm_up h 79 10 (znx b n (h 79 10))) := by
  unfold D_X12_look_D
  rw [zMk_nx_l _ h T h0 (by omega)]
  have w := znx_b (b := b) (n := n) (h 79 10)
  have T1 := zTk_up (v := znx b n (h 79 10)) T (show (10 : Nat) ≠ 5 ∧ (10 : Nat) ≠ 9 ∧ (10 : Nat) ≠ 8 by decide)
  have v : zm_up h 79 10 (znx b n (h 79 10)) 79 10 = znx b n (h 79 10) := zm_eq
  generalize zm_up h 79 10 (znx b n (h 79 10)) = h6 at T1 v ⊢
  have r := zTk_r T1 (by omega)
  rw [T1.1.2.1, v] at *
  by_cases c : n ≤ znx b n (h 79 10)
  · rw [if_pos c, zpk_out c]
  · rw [if_neg c, zlt_e (show (81 : Nat) = (h6 79 5).toNat by have := T1.1.1; omega), zpk_in (by omega), r.1, zb_255 rfl r.2]
theorem zMk_tk {b : Nat → Int} {n s : Int} {h : zM} (T : zTk b n h) (h0 : 0 ≤ h 79 10) (f : h 79 11 = -1) (ok : (ztk b n s (h 79 10)).1 ≠ 0) : D_X12_takes_D s h = (1, zm_up h 79 10 (ztk b n s (h 79 10)).2) := by
  have t := ztk_f b n s (h 79 10)
  have c : zpk b n (znx b n (h 79 10)) = s := by
    by_cases q : zpk b n (znx b n (h 79 10)) = s
    · exact q
    · exact absurd (t.2 q).1 ok
  unfold D_X12_takes_D
  rw [if_pos f, zl2_p (zMk_nx T h0), if_pos c, zm_eq, zlt_e (rfl : zm_up (zm_up h 79 10 (znx b n (h 79 10))) 79 10 (znx b n (h 79 10) + 1) = _), zm_up2, (t.1 c).2]
theorem zMk_dg {b : Nat → Int} {n : Int} {h : zM} (T : zTk b n h) (h0 : 0 ≤ h 79 10) : D_X12_isDigit_D h = if 48 ≤ zpk b n (h 79 10) ∧ zpk b n (h 79 10) ≤ 57 then 1 else 0 := by
  have r := zTk_r T h0
  unfold D_X12_isDigit_D
  rw [T.1.2.1]
  by_cases c : n ≤ h 79 10
  · rw [if_pos c, zpk_out c, if_neg (by decide)]
  · rw [if_neg c, zlt_e (show (81 : Nat) = (h 79 5).toNat by have := T.1.1; omega), zpk_in (by omega), r.1]
    unfold zub
    by_cases c1 : h 81 ((h 79 8 + h 79 10).toNat) < 48
    · rw [if_pos c1]
      by_cases c2 : 0 ≤ h 81 ((h 79 8 + h 79 10).toNat)
      · rw [if_pos c2, if_neg (by omega)]
      · rw [if_neg c2, if_neg (by omega)]
    · rw [if_neg c1]
      by_cases c2 : 57 < h 81 ((h 79 8 + h 79 10).toNat)
      · rw [if_pos c2, if_pos (show 0 ≤ h 81 ((h 79 8 + h 79 10).toNat) by omega), if_neg (by omega)]
      · rw [if_neg c2, if_pos (show 0 ≤ h 81 ((h 79 8 + h 79 10).toNat) by omega), if_pos (by omega)]
/-- F reads as f does, and gives the value fv -/
def zMk (b : Nat → Int) (n Lv : Int) (F : zM → Int × zM) (f : Int → Int × Int) (fv : (Nat → Int) → Int → Int) : Prop := ∀ h : zM, zTk b n h → 0 ≤ h 79 10 → h 79 10 ≤ n → h 79 11 = -1 → h 79 12 = Lv → (f (h 79 10)).1 ≠ 0 → F h = (fv (h 83) (h 79 10), zm_up h 79 10 (f (h 79 10)).2)
/-- the LETTERS, by place -/
def zLm (r : Nat → Int) : Nat → Int := fun i => if i = 0 then r 102 else if i = 1 then r 104 else if i = 2 then r 115 else if i = 3 then r 107 else if i = 4 then r 100 else r 112
theorem zLm_x {r : Nat → Int} {a : Int} (h : zix zLs3 0 a ≠ -1) (b : 0 ≤ a ∧ a ≤ 255) : r a.toNat = zLm r (zix zLs3 0 a).toNat := by
  have k : ∀ q : Fin 256, zix zLs3 0 (q.val : Int) = -1 ∨ (q.val = 102 ∧ zix zLs3 0 (q.val : Int) = 0) ∨ (q.val = 104 ∧ zix zLs3 0 (q.val : Int) = 1) ∨ (q.val = 115 ∧ zix zLs3 0 (q.val : Int) = 2) ∨ (q.val = 107 ∧ zix zLs3 0 (q.val : Int) = 3) ∨ (q.val = 100 ∧ zix zLs3 0 (q.val : Int) = 4) ∨ (q.val = 112 ∧ zix zLs3 0 (q.val : Int) = 5) := by decide +kernel
  have k1 := k ⟨a.toNat, by omega⟩
  rw [show (((⟨a.toNat, by omega⟩ : Fin 256).val : Nat) : Int) = a from Int.toNat_of_nonneg b.1] at k1
  rcases k1 with q | q | q | q | q | q | q
  · exact absurd q h
  all_goals (rw [q.2]; show r a.toNat = _; rw [show a.toNat = _ from q.1]; rfl)
theorem zix_3_no : ∀ q : Fin 256, (q.val = 91 ∨ (48 ≤ q.val ∧ q.val ≤ 57)) → zix zLs3 0 (q.val : Int) = -1 := by decide +kernel
theorem zMk_num {b : Nat → Int} {n x1 : Int} {F : zM → Int × zM} : ∀ (j : Nat) (h : zM) (v : Int), zTk b n h → 0 ≤ h 79 10 → h 79 10 ≤ n → h 79 11 = -1 → 0 ≤ v ∧ (j = 4 ∧ v ≤ 0 ∨ j = 3 ∧ v ≤ 9 ∨ j = 2 ∧ v ≤ 99 ∨ j = 1 ∧ v ≤ 999 ∨ j = 0 ∧ v ≤ 9999) → (zn4 b n j (h 79 10)).1 ≠ 0 →
    DL_X12_atom_G_D_90 F x1 (fun x2 _ q => (x2, q)) (j + 1) v (4 - j) h = (zv_n4 b n j (h 79 10) v, zm_up h 79 10 (zn4 b n j (h 79 10)).2) := by
  intro j
  induction j with
  | zero =>
    intro h v T a0 an f hb ok
    have d := zMk_dg T a0
    unfold zn4 at ok ⊢
    by_cases c : zpk b n (h 79 10) < 48 ∨ 57 < zpk b n (h 79 10)
    · rw [if_neg (by omega)] at d
      simp only [DL_X12_atom_G_D_90]
      rw [zlt_e d.symm, if_pos rfl, if_pos c, zm_self]
      rfl
    · rw [if_neg c] at ok
      exact absurd rfl ok
  | succ j ih =>
    intro h v T a0 an f hb ok
    have n240 := T.2.1
    have d := zMk_dg T a0
    unfold zn4 at ok ⊢
    by_cases c : zpk b n (h 79 10) < 48 ∨ 57 < zpk b n (h 79 10)
    · rw [if_neg (by omega)] at d
      rw [DL_X12_atom_G_D_90]
      rw [zlt_e d.symm, if_pos rfl, if_pos c, zm_self]
      unfold zv_n4
      rw [if_pos c]
    · rw [if_neg c] at ok ⊢
      rw [if_pos (by omega)] at d
      have lt := zpk_lt (b := b) (n := n) (a := h 79 10) (by omega)
      have r := zTk_r T a0
      have er : zpk b n (h 79 10) = h 81 ((h 79 8 + h 79 10).toNat) := by
        rw [zpk_in lt, r.1] at c ⊢
        unfold zub at c ⊢
        split at c
        · rw [if_pos ‹_›]
        · exact absurd c (by omega)
      obtain ⟨h21, e21⟩ : ∃ q, q = zm_up h 79 10 ((h 79 10) + 1) := ⟨_, rfl⟩
      have v21 : h21 79 10 = h 79 10 + 1 := by rw [e21]; exact zm_eq
      have f21 : h21 79 11 = -1 := by rw [e21, zm_ne (Or.inr (by decide))]; exact f
      have T21 : zTk b n h21 := by rw [e21]; exact zTk_up T (by decide)
      have i := ih h21 (v * 10 + zpk b n (h 79 10) - 48) T21 (by omega) (by omega) f21 (by omega) (by rw [v21]; exact ok)
      rw [DL_X12_atom_G_D_90]
      rw [zlt_e d.symm, if_neg (show ¬ (1 : Int) = 0 by decide), if_pos f, if_neg (show ¬ 4 - ((j + 1 : Nat) : Int) = 4 by omega), zlt_e (show (81 : Nat) = (h 79 5).toNat by have := T.1.1; omega), zlt_e e21, ← er, zw_id (by omega), show 10 * v + zpk b n (h 79 10) - 48 = v * 10 + zpk b n (h 79 10) - 48 by omega, show (4 - ((j + 1 : Nat) : Int)) + 1 = 4 - (j : Int) by omega, i, v21]
      have ev : zv_n4 b n (j + 1) (h 79 10) v = zv_n4 b n j (h 79 10 + 1) (10 * v + (zpk b n (h 79 10) - 48)) := if_neg c
      rw [ev, e21, zm_up2, show v * 10 + zpk b n (h 79 10) - 48 = 10 * v + (zpk b n (h 79 10) - 48) by omega]
theorem zm_dd {h : zM} {a b c : Int} (e : c = h 79 12) : zm_up (zm_up (zm_up h 79 12 b) 79 10 a) 79 12 c = zm_up h 79 10 a := by
  subst e
  funext q j
  by_cases x : q = 79 ∧ j = 12
  · rw [x.1, x.2, zm_eq, zm_ne (Or.inr (by decide))]
  · rw [zm_ne (show q ≠ 79 ∨ j ≠ 12 by omega)]
    by_cases y : q = 79 ∧ j = 10
    · rw [y.1, y.2, zm_eq, zm_eq]
    · rw [zm_ne (show q ≠ 79 ∨ j ≠ 10 by omega), zm_ne (show q ≠ 79 ∨ j ≠ 12 by omega), zm_ne (show q ≠ 79 ∨ j ≠ 10 by omega)]
theorem zMk_in {n Lv : Int} {h : zM} (d : h 79 12 = Lv) (hL : Lv ≠ 6) : D_X12_goesIn_D h = (1, zm_up (zm_up h 79 12 (Lv + 1)) 79 10 (h 79 10 + 1)) := by
  unfold D_X12_goesIn_D
  rw [d, if_neg hL, zlt_e (rfl : zm_up h 79 12 (Lv + 1) = _), zm_ne (p := 79) (q := 79) (i := 12) (j := 10) (Or.inr (by decide)), zlt_e (rfl : zm_up (zm_up h 79 12 (Lv + 1)) 79 10 (h 79 10 + 1) = _)]
theorem zMk_atom {b : Nat → Int} {n Lv : Int} {F : zM → Int × zM} {inner : Option (Int → Int × Int)} {iv : (Nat → Int) → Int → Int} (hI : (inner = none ∧ Lv = 6) ∨ ∃ f, inner = some f ∧ Lv ≠ 6 ∧ zMk b n (Lv + 1) F f (fun r => iv (zLm r)) ∧ zgd n f) : zMk b n Lv (D_X12_atom_G_D F) (zt_atom b n inner) (fun r => zv_atom b n (zLm r) (iv (zLm r))) := by
  intro h T a0 an f d ok
  have n240 := T.2.1
  have w := znx_le (b := b) (n := n) (a := h 79 10) an
  have T5 := zTk_up (v := znx b n (h 79 10)) T (show (10 : Nat) ≠ 5 ∧ (10 : Nat) ≠ 9 ∧ (10 : Nat) ≠ 8 by decide)
  have a5 : zm_up h 79 10 (znx b n (h 79 10)) 79 10 = znx b n (h 79 10) := zm_eq
  have f5 : zm_up h 79 10 (znx b n (h 79 10)) 79 11 = -1 := (zm_ne (Or.inr (by decide))).trans f
  have d5 : zm_up h 79 10 (znx b n (h 79 10)) 79 12 = Lv := (zm_ne (Or.inr (by decide))).trans d
  have r5 : zm_up h 79 10 (znx b n (h 79 10)) 83 = h 83 := zup_o (by decide)
  unfold D_X12_atom_G_D
  rw [zl2_p (zMk_nx T a0)]
  show _ = (zv_atom b n (zLm (h 83)) (iv (zLm (h 83))) (h 79 10), _)
  have bb : zpk b n (znx b n (h 79 10)) = -1 ∨ (0 ≤ zpk b n (znx b n (h 79 10)) ∧ zpk b n (znx b n (h 79 10)) ≤ 255) := by
    unfold zpk
    split
    · exact Or.inr (zTk_b T _)
    · exact Or.inl rfl
  have nol : zpk b n (znx b n (h 79 10)) = 91 ∨ (48 ≤ zpk b n (znx b n (h 79 10)) ∧ zpk b n (znx b n (h 79 10)) ≤ 57) → zix zLs3 0 (zpk b n (znx b n (h 79 10))) = -1 := by
    intro q
    have k := zix_3_no ⟨(zpk b n (znx b n (h 79 10))).toNat, by omega⟩ (by show (zpk b n (znx b n (h 79 10))).toNat = 91 ∨ (48 ≤ (zpk b n (znx b n (h 79 10))).toNat ∧ (zpk b n (znx b n (h 79 10))).toNat ≤ 57); omega)
    rw [show (((⟨(zpk b n (znx b n (h 79 10))).toNat, by omega⟩ : Fin 256).val : Nat) : Int) = zpk b n (znx b n (h 79 10)) from Int.toNat_of_nonneg (by omega)] at k
    exact k
  by_cases c91 : zpk b n (znx b n (h 79 10)) = 91
  · have lt := zpk_lt (b := b) (n := n) (a := znx b n (h 79 10)) (by omega)
    have ev : zv_atom b n (zLm (h 83)) (iv (zLm (h 83))) (h 79 10) = iv (zLm (h 83)) (znx b n (h 79 10) + 1) := if_pos c91
    rw [ev]
    rcases hI with ⟨hn, _⟩ | ⟨g, hf, hL, hF, hg⟩
    · subst hn
      have e : zt_atom b n none (h 79 10) = (0, znx b n (h 79 10)) := if_pos c91
      rw [e] at ok
      exact absurd rfl ok
    · subst hf
      have e : zt_atom b n (some g) (h 79 10) = if (g (znx b n (h 79 10) + 1)).1 = 0 then g (znx b n (h 79 10) + 1) else ztk b n 93 (g (znx b n (h 79 10) + 1)).2 := if_pos c91
      rw [e] at ok ⊢
      have okf : (g (znx b n (h 79 10) + 1)).1 ≠ 0 := by
        intro z
        rw [if_pos z] at ok
        exact ok z
      rw [if_neg okf] at ok ⊢
      have gi := zMk_in (n := n) d5 hL
      rw [a5] at gi
      obtain ⟨h40, e40⟩ : ∃ q, q = zm_up (zm_up (zm_up h 79 10 (znx b n (h 79 10))) 79 12 (Lv + 1)) 79 10 (znx b n (h 79 10) + 1) := ⟨_, rfl⟩
      rw [← e40] at gi
      have T40 : zTk b n h40 := by rw [e40]; exact zTk_up (zTk_up T5 (by decide)) (by decide)
      have a40 : h40 79 10 = znx b n (h 79 10) + 1 := by rw [e40]; exact zm_eq
      have f40 : h40 79 11 = -1 := by rw [e40, zm_ne (Or.inr (by decide)), zm_ne (Or.inr (by decide))]; exact f5
      have d40 : h40 79 12 = Lv + 1 := by rw [e40, zm_ne (Or.inr (by decide))]; exact zm_eq
      have r40 : h40 83 = h 83 := by rw [e40, zup_o (by decide), zup_o (by decide)]; exact r5
      have g1 := hg (znx b n (h 79 10) + 1) (by omega) (by omega)
      have s := hF h40 T40 (by omega) (by omega) f40 d40 (by rw [a40]; exact okf)
      rw [a40, r40] at s
      dsimp only at s
      have T47 := zTk_up (v := (g (znx b n (h 79 10) + 1)).2) T40 (show (10 : Nat) ≠ 5 ∧ (10 : Nat) ≠ 9 ∧ (10 : Nat) ≠ 8 by decide)
      have a47 : zm_up h40 79 10 (g (znx b n (h 79 10) + 1)).2 79 10 = (g (znx b n (h 79 10) + 1)).2 := zm_eq
      have t := zMk_tk (s := 93) T47 (by omega) ((zm_ne (Or.inr (by decide))).trans f40) (by rw [a47]; exact ok)
      rw [a47, zm_up2] at t
      have e53 : zm_up h40 79 10 (ztk b n 93 (g (znx b n (h 79 10) + 1)).2).2 79 12 = Lv + 1 := (zm_ne (Or.inr (by decide))).trans d40
      have ez := nol (Or.inl c91)
      have e60 : zm_up h 79 10 (ztk b n 93 (g (znx b n (h 79 10) + 1)).2).2 = zm_up (zm_up h40 79 10 (ztk b n 93 (g (znx b n (h 79 10) + 1)).2).2) 79 12 Lv := by
        rw [e40, zm_up2, zm_dd d5.symm, zm_up2]
      rw [zlt_e (if_neg (fun z => z ez) : (if zix zLs3 0 (zpk b n (znx b n (h 79 10))) ≠ -1 then (1 : Int) else 0) = 0).symm, if_pos rfl, if_pos c91, zl2_p gi, if_neg (show ¬ (1 : Int) = 0 by decide), zl2_p s, zl2_p t, if_neg (show ¬ (1 : Int) = 0 by decide), e53, show Lv + 1 - 1 = Lv by omega, zlt_e e60]
  · by_cases cd : 48 ≤ zpk b n (znx b n (h 79 10)) ∧ zpk b n (znx b n (h 79 10)) ≤ 57
    · have e : zt_atom b n inner (h 79 10) = zn4 b n 4 (znx b n (h 79 10)) := (if_neg c91).trans (if_pos cd)
      have ev : zv_atom b n (zLm (h 83)) (iv (zLm (h 83))) (h 79 10) = zv_n4 b n 4 (znx b n (h 79 10)) 0 := (if_neg c91).trans (if_pos cd)
      rw [e] at ok ⊢
      rw [ev]
      have ez := nol (Or.inr cd)
      have dg := zMk_dg T5 (by omega)
      rw [a5, if_pos cd] at dg
      have k := zMk_num (x1 := zpk b n (znx b n (h 79 10))) (F := F) 4 (zm_up h 79 10 (znx b n (h 79 10))) 0 T5 (by omega) (by omega) f5 (by omega) (by rw [a5]; exact ok)
      rw [a5, zm_up2, show (4 - ((4 : Nat) : Int)) = 0 from rfl] at k
      rw [zlt_e (if_neg (fun z => z ez) : (if zix zLs3 0 (zpk b n (znx b n (h 79 10))) ≠ -1 then (1 : Int) else 0) = 0).symm, if_pos rfl, if_neg c91, zlt_e dg.symm, if_neg (show ¬ (1 : Int) = 0 by decide)]
      exact k
    · have cx : zix zLs3 0 (zpk b n (znx b n (h 79 10))) ≠ -1 := by
        intro z
        have e : zt_atom b n inner (h 79 10) = (0, znx b n (h 79 10)) := (if_neg c91).trans ((if_neg cd).trans (if_pos z))
        rw [e] at ok
        exact ok rfl
      have e : zt_atom b n inner (h 79 10) = (1, znx b n (h 79 10) + 1) := (if_neg c91).trans ((if_neg cd).trans (if_neg cx))
      have ev : zv_atom b n (zLm (h 83)) (iv (zLm (h 83))) (h 79 10) = zLm (h 83) (zix zLs3 0 (zpk b n (znx b n (h 79 10)))).toNat := (if_neg c91).trans (if_neg cd)
      rw [e, ev]
      have c1 : zpk b n (znx b n (h 79 10)) ≠ -1 := by
        intro z
        rw [z] at cx
        exact cx (by decide)
      rw [zlt_e (if_pos cx : (if zix zLs3 0 (zpk b n (znx b n (h 79 10))) ≠ -1 then (1 : Int) else 0) = 1).symm, if_neg (show ¬ (1 : Int) = 0 by decide), a5, zlt_e (zm_up2 (m := h) (p := 79) (i := 10) (v := znx b n (h 79 10)) (w := znx b n (h 79 10) + 1)).symm]
      have e83 : zm_up h 79 10 (znx b n (h 79 10) + 1) 83 = h 83 := zup_o (by decide)
      rw [e83, zLm_x cx (bb.resolve_left c1)]
theorem zMk_term_l {b : Nat → Int} {n Lv : Int} {F : zM → Int × zM} {f : Int → Int × Int} {fv : (Nat → Int) → Int → Int} (hF : zMk b n Lv F f fv) (hg : zgd n f) : ∀ (k : Nat) (x1 : Int) (h : zM), 241 - h 79 10 < k → zTk b n h → 0 ≤ h 79 10 → h 79 10 ≤ n → h 79 11 = -1 → h 79 12 = Lv → (zt_loop b n 42 47 f 241 (h 79 10)).1 ≠ 0 → DL_X12_term_G_D_5 F (fun x q => (x, q)) k x1 h = (zv_loop b n 42 47 zo_t f (fv (h 83)) 241 (h 79 10) x1, zm_up h 79 10 (zt_loop b n 42 47 f 241 (h 79 10)).2) := by
  intro k
  induction k with
  | zero =>
    intro x1 h hk T
    have := T.2.1
    exact fun a0 an => absurd hk (by omega)
  | succ k ih =>
    intro x1 h hk T a0 an f0 d ok
    have n240 := T.2.1
    have w := znx_le (b := b) (n := n) (a := h 79 10) an
    have hs0 : (42 : Int) ≠ -1 ∧ (47 : Int) ≠ -1 := by decide
    have T6 := zTk_up (v := znx b n (h 79 10)) T (show (10 : Nat) ≠ 5 ∧ (10 : Nat) ≠ 9 ∧ (10 : Nat) ≠ 8 by decide)
    have a6 : zm_up h 79 10 (znx b n (h 79 10)) 79 10 = znx b n (h 79 10) := zm_eq
    have nx1 := zMk_nx T a0
    have nx2 := zMk_nx T6 (by omega)
    rw [a6, znx_i a0 n240, zm_up2] at nx2
    rw [zt_loop_e hs0 hg a0 an n240] at ok ⊢
    rw [zv_loop_e hs0 hg a0 an n240]
    simp only [DL_X12_term_G_D_5]
    by_cases c : zpk b n (znx b n (h 79 10)) ≠ 42 ∧ zpk b n (znx b n (h 79 10)) ≠ 47
    · rw [if_pos c, if_pos c, if_pos f0, zl2_p nx1, if_neg c.1, zl2_p nx2, if_neg c.2]
    · rw [if_neg c] at ok ⊢
      rw [if_neg c]
      have lt := zpk_lt (b := b) (n := n) (a := znx b n (h 79 10)) (by omega)
      have hg1 := hg (znx b n (h 79 10) + 1) (by omega) (by omega)
      have okf : (f (znx b n (h 79 10) + 1)).1 ≠ 0 := by
        intro z
        rw [if_pos z] at ok
        exact ok z
      rw [if_neg okf] at ok ⊢
      have em : zm_up h 79 10 (znx b n (h 79 10) + 1) = zm_up (zm_up h 79 10 (znx b n (h 79 10))) 79 10 ((zm_up h 79 10 (znx b n (h 79 10)) 79 10) + 1) := by rw [zm_eq, zm_up2]
      have T20 := zTk_up (v := znx b n (h 79 10) + 1) T (show (10 : Nat) ≠ 5 ∧ (10 : Nat) ≠ 9 ∧ (10 : Nat) ≠ 8 by decide)
      have a20 : zm_up h 79 10 (znx b n (h 79 10) + 1) 79 10 = znx b n (h 79 10) + 1 := zm_eq
      have r20 : zm_up h 79 10 (znx b n (h 79 10) + 1) 83 = h 83 := zup_o (by decide)
      have s := hF _ T20 (by omega) (by omega) ((zm_ne (Or.inr (by decide))).trans f0) ((zm_ne (Or.inr (by decide))).trans d) (by rw [a20]; exact okf)
      rw [a20, r20, zm_up2] at s
      have T25 := zTk_up (v := (f (znx b n (h 79 10) + 1)).2) T (show (10 : Nat) ≠ 5 ∧ (10 : Nat) ≠ 9 ∧ (10 : Nat) ≠ 8 by decide)
      have a25 : zm_up h 79 10 (f (znx b n (h 79 10) + 1)).2 79 10 = (f (znx b n (h 79 10) + 1)).2 := zm_eq
      have r25 : zm_up h 79 10 (f (znx b n (h 79 10) + 1)).2 83 = h 83 := zup_o (by decide)
      have fin := ih (zo_t (zpk b n (znx b n (h 79 10))) x1 (fv (h 83) (znx b n (h 79 10) + 1))) (zm_up h 79 10 (f (znx b n (h 79 10) + 1)).2) (by omega) T25 (by omega) (by omega) ((zm_ne (Or.inr (by decide))).trans f0) ((zm_ne (Or.inr (by decide))).trans d) (by rw [a25]; exact ok)
      rw [a25, r25, zm_up2] at fin
      have c1' : zpk b n (znx b n (h 79 10)) = 42 ∨ (¬ zpk b n (znx b n (h 79 10)) = 42 ∧ zpk b n (znx b n (h 79 10)) = 47) := by omega
      rcases c1' with c1 | ⟨c1, c2⟩
      · have ez : zo_t (zpk b n (znx b n (h 79 10))) x1 (fv (h 83) (znx b n (h 79 10) + 1)) = D_X12_within_D (x1 * fv (h 83) (znx b n (h 79 10) + 1)) := by
          unfold zo_t
          rw [if_pos c1]
          rfl
        rw [if_pos f0, zl2_p nx1, if_pos c1, zl2_p nx2, if_pos c1, zlt_e em, zl2_p s, zlt_e ez]
        exact fin
      · -- by 0 or not
        have ez : zo_t (zpk b n (znx b n (h 79 10))) x1 (fv (h 83) (znx b n (h 79 10) + 1)) = if fv (h 83) (znx b n (h 79 10) + 1) = 0 then D_X12_within_D 0 else D_X12_within_D (Int.tdiv x1 (fv (h 83) (znx b n (h 79 10) + 1))) := by
          unfold zo_t
          rw [if_neg c1]
          show zclp (if fv (h 83) (znx b n (h 79 10) + 1) = 0 then 0 else Int.tdiv x1 (fv (h 83) (znx b n (h 79 10) + 1))) = _
          split <;> rfl
        rw [if_pos f0, zl2_p nx1, if_neg c1, zl2_p nx2, if_pos c2, zl2_p nx2, if_neg c1, zlt_e em, zl2_p s]
        by_cases cz : fv (h 83) (znx b n (h 79 10) + 1) = 0
        · rw [if_pos cz] at ez
          rw [if_pos cz, zlt_e ez]
          exact fin
        · rw [if_neg cz] at ez
          rw [if_neg cz, zlt_e ez]
          exact fin
theorem zMk_term {b : Nat → Int} {n Lv : Int} {F : zM → Int × zM} {f : Int → Int × Int} {fv : (Nat → Int) → Int → Int} (hF : zMk b n Lv F f fv) (hg : zgd n f) : zMk b n Lv (D_X12_term_G_D F) (zt_list b n 42 47 f f) (fun r => zv_list b n 42 47 zo_t f f (fv r) (fv r)) := by
  intro h T a0 an f0 d ok
  unfold zt_list at ok ⊢
  have okf : (f (h 79 10)).1 ≠ 0 := by
    intro z
    rw [if_pos z] at ok
    exact ok z
  rw [if_neg okf] at ok ⊢
  have g1 := hg (h 79 10) a0 an
  have s := hF h T a0 an f0 d okf
  have T25 := zTk_up (v := (f (h 79 10)).2) T (show (10 : Nat) ≠ 5 ∧ (10 : Nat) ≠ 9 ∧ (10 : Nat) ≠ 8 by decide)
  have a25 : zm_up h 79 10 (f (h 79 10)).2 79 10 = (f (h 79 10)).2 := zm_eq
  have r25 : zm_up h 79 10 (f (h 79 10)).2 83 = h 83 := zup_o (by decide)
  have fin := zMk_term_l hF hg ((241 - zm_up h 79 10 (f (h 79 10)).2 79 10).toNat + 1) (fv (h 83) (h 79 10)) (zm_up h 79 10 (f (h 79 10)).2) (by omega) T25 (by omega) (by omega) ((zm_ne (Or.inr (by decide))).trans f0) ((zm_ne (Or.inr (by decide))).trans d) (by rw [a25]; exact ok)
  unfold D_X12_term_G_D
  rw [zl2_p s]
  refine fin.trans ?_
  rw [a25, r25, zm_up2]
  rfl
theorem zMk_sum_l {b : Nat → Int} {n Lv : Int} {F : zM → Int × zM} {f : Int → Int × Int} {fv : (Nat → Int) → Int → Int} (hF : zMk b n Lv F f fv) (hg : zgd n f) : ∀ (k : Nat) (x1 : Int) (h : zM), 241 - h 79 10 < k → zTk b n h → 0 ≤ h 79 10 → h 79 10 ≤ n → h 79 11 = -1 → h 79 12 = Lv → (zt_loop b n 43 45 f 241 (h 79 10)).1 ≠ 0 → DL_X12_sum_G_D_5 F (fun x q => (x, q)) k x1 h = (zv_loop b n 43 45 zo_s f (fv (h 83)) 241 (h 79 10) x1, zm_up h 79 10 (zt_loop b n 43 45 f 241 (h 79 10)).2) := by
  intro k
  induction k with
  | zero =>
    intro x1 h hk T
    have := T.2.1
    exact fun a0 an => absurd hk (by omega)
  | succ k ih =>
    intro x1 h hk T a0 an f0 d ok
    have n240 := T.2.1
    have w := znx_le (b := b) (n := n) (a := h 79 10) an
    have hs0 : (43 : Int) ≠ -1 ∧ (45 : Int) ≠ -1 := by decide
    have T6 := zTk_up (v := znx b n (h 79 10)) T (show (10 : Nat) ≠ 5 ∧ (10 : Nat) ≠ 9 ∧ (10 : Nat) ≠ 8 by decide)
    have a6 : zm_up h 79 10 (znx b n (h 79 10)) 79 10 = znx b n (h 79 10) := zm_eq
    have nx1 := zMk_nx T a0
    have nx2 := zMk_nx T6 (by omega)
    rw [a6, znx_i a0 n240, zm_up2] at nx2
    rw [zt_loop_e hs0 hg a0 an n240] at ok ⊢
    rw [zv_loop_e hs0 hg a0 an n240]
    simp only [DL_X12_sum_G_D_5]
    by_cases c : zpk b n (znx b n (h 79 10)) ≠ 43 ∧ zpk b n (znx b n (h 79 10)) ≠ 45
    · rw [if_pos c, if_pos c, if_pos f0, zl2_p nx1, if_neg c.1, zl2_p nx2, if_neg c.2]
    · rw [if_neg c] at ok ⊢
      rw [if_neg c]
      have lt := zpk_lt (b := b) (n := n) (a := znx b n (h 79 10)) (by omega)
      have hg1 := hg (znx b n (h 79 10) + 1) (by omega) (by omega)
      have okf : (f (znx b n (h 79 10) + 1)).1 ≠ 0 := by
        intro z
        rw [if_pos z] at ok
        exact ok z
      rw [if_neg okf] at ok ⊢
      have em : zm_up h 79 10 (znx b n (h 79 10) + 1) = zm_up (zm_up h 79 10 (znx b n (h 79 10))) 79 10 ((zm_up h 79 10 (znx b n (h 79 10)) 79 10) + 1) := by rw [zm_eq, zm_up2]
      have T20 := zTk_up (v := znx b n (h 79 10) + 1) T (show (10 : Nat) ≠ 5 ∧ (10 : Nat) ≠ 9 ∧ (10 : Nat) ≠ 8 by decide)
      have a20 : zm_up h 79 10 (znx b n (h 79 10) + 1) 79 10 = znx b n (h 79 10) + 1 := zm_eq
      have r20 : zm_up h 79 10 (znx b n (h 79 10) + 1) 83 = h 83 := zup_o (by decide)
      have s := hF _ T20 (by omega) (by omega) ((zm_ne (Or.inr (by decide))).trans f0) ((zm_ne (Or.inr (by decide))).trans d) (by rw [a20]; exact okf)
      rw [a20, r20, zm_up2] at s
      have T25 := zTk_up (v := (f (znx b n (h 79 10) + 1)).2) T (show (10 : Nat) ≠ 5 ∧ (10 : Nat) ≠ 9 ∧ (10 : Nat) ≠ 8 by decide)
      have a25 : zm_up h 79 10 (f (znx b n (h 79 10) + 1)).2 79 10 = (f (znx b n (h 79 10) + 1)).2 := zm_eq
      have r25 : zm_up h 79 10 (f (znx b n (h 79 10) + 1)).2 83 = h 83 := zup_o (by decide)
      have fin := ih (zo_s (zpk b n (znx b n (h 79 10))) x1 (fv (h 83) (znx b n (h 79 10) + 1))) (zm_up h 79 10 (f (znx b n (h 79 10) + 1)).2) (by omega) T25 (by omega) (by omega) ((zm_ne (Or.inr (by decide))).trans f0) ((zm_ne (Or.inr (by decide))).trans d) (by rw [a25]; exact ok)
      rw [a25, r25, zm_up2] at fin
      have c1' : zpk b n (znx b n (h 79 10)) = 43 ∨ (¬ zpk b n (znx b n (h 79 10)) = 43 ∧ zpk b n (znx b n (h 79 10)) = 45) := by omega
      rcases c1' with c1 | ⟨c1, c2⟩
      · have ez : zo_s (zpk b n (znx b n (h 79 10))) x1 (fv (h 83) (znx b n (h 79 10) + 1)) = D_X12_within_D (x1 + fv (h 83) (znx b n (h 79 10) + 1)) := by
          unfold zo_s
          rw [if_pos c1]
          rfl
        rw [if_pos f0, zl2_p nx1, if_pos c1, zl2_p nx2, if_pos c1, zlt_e em, zl2_p s, zlt_e ez]
        exact fin
      · have ez : zo_s (zpk b n (znx b n (h 79 10))) x1 (fv (h 83) (znx b n (h 79 10) + 1)) = D_X12_within_D (x1 - fv (h 83) (znx b n (h 79 10) + 1)) := by
          unfold zo_s
          rw [if_neg c1]
          rfl
        rw [if_pos f0, zl2_p nx1, if_neg c1, zl2_p nx2, if_pos c2, zl2_p nx2, if_neg c1, zlt_e em, zl2_p s, zlt_e ez]
        exact fin
theorem zMk_sum {b : Nat → Int} {n Lv : Int} {F : zM → Int × zM} {f : Int → Int × Int} {fv : (Nat → Int) → Int → Int} (hF : zMk b n Lv F f fv) (hg : zgd n f) : zMk b n Lv (D_X12_sum_G_D F) (zt_list b n 43 45 f f) (fun r => zv_list b n 43 45 zo_s f f (fv r) (fv r)) := by
  intro h T a0 an f0 d ok
  unfold zt_list at ok ⊢
  have okf : (f (h 79 10)).1 ≠ 0 := by
    intro z
    rw [if_pos z] at ok
    exact ok z
  rw [if_neg okf] at ok ⊢
  have g1 := hg (h 79 10) a0 an
  have s := hF h T a0 an f0 d okf
  have T25 := zTk_up (v := (f (h 79 10)).2) T (show (10 : Nat) ≠ 5 ∧ (10 : Nat) ≠ 9 ∧ (10 : Nat) ≠ 8 by decide)
  have a25 : zm_up h 79 10 (f (h 79 10)).2 79 10 = (f (h 79 10)).2 := zm_eq
  have r25 : zm_up h 79 10 (f (h 79 10)).2 83 = h 83 := zup_o (by decide)
  have fin := zMk_sum_l hF hg ((241 - zm_up h 79 10 (f (h 79 10)).2 79 10).toNat + 1) (fv (h 83) (h 79 10)) (zm_up h 79 10 (f (h 79 10)).2) (by omega) T25 (by omega) (by omega) ((zm_ne (Or.inr (by decide))).trans f0) ((zm_ne (Or.inr (by decide))).trans d) (by rw [a25]; exact ok)
  unfold D_X12_sum_G_D
  rw [zl2_p s]
  refine fin.trans ?_
  rw [a25, r25, zm_up2]
  rfl
/-- behind the first SUM of a TRUTH, as the model reads it -/
def zMcmp (F_sum : zM → Int × zM) (read : Int) (h : zM) : Int × zM :=
  if (h 79 11) = (-1) then
    zl2 (D_X12_look_D h) fun r44 h44 =>
    zlt (D_X12_isSign_D r44) fun r50 =>
    if r50 = 0 then
      zl2 (D_X12_fails_D h44) fun r52 h52 =>
      (0, h52)
    else
      zlt (zm_up h44 79 10 ((h44 79 10) + 1)) fun h58 =>
      zl2 (F_sum h58) fun r63 h63 =>
      if r44 = 61 then
        if read = r63 then
          (1, h63)
        else
          (0, h63)
      else
        if r44 = 60 then
          if r63 ≤ read then
            (0, h63)
          else
            (1, h63)
        else
          if read ≤ r63 then
            (0, h63)
          else
            (1, h63)
  else
    (0, h)
theorem zMcmp_1 {F : zM → Int × zM} {has v : Int} (hb : has ≠ 0) (h : zM) : D_X12_compares_G_D F has v h = zMcmp F v h := by
  unfold D_X12_compares_G_D
  rw [if_neg hb]
  rfl
theorem zMcmp_0 {F : zM → Int × zM} {v : Int} (h : zM) : D_X12_compares_G_D F 0 v h = zl2 (F h) fun r6 h6 => zMcmp F r6 h6 := by
  unfold D_X12_compares_G_D
  rw [if_pos rfl]
  rfl
theorem zMk_cmp {b : Nat → Int} {n Lv : Int} {d : Nat} {F : zM → Int × zM} (hF : zMk b n Lv F (zt_sum b n d) (fun r => zv_sum b n (zLm r) d)) (v : Int) : zMk b n Lv (zMcmp F v) (zt_cmp b n d) (fun r => zv_cmp b n (zLm r) d v) := by
  intro h T a0 an f dp ok
  have n240 := T.2.1
  have w := znx_le (b := b) (n := n) (a := h 79 10) an
  unfold zt_cmp at ok ⊢
  by_cases c : zpk b n (znx b n (h 79 10)) ≠ 61 ∧ zpk b n (znx b n (h 79 10)) ≠ 60 ∧ zpk b n (znx b n (h 79 10)) ≠ 62
  · rw [if_pos c] at ok
    exact absurd rfl ok
  · rw [if_neg c] at ok ⊢
    have lt := zpk_lt (b := b) (n := n) (a := znx b n (h 79 10)) (by omega)
    have sg : D_X12_isSign_D (zpk b n (znx b n (h 79 10))) = 1 := by
      unfold D_X12_isSign_D
      repeat' split
      all_goals first | rfl | omega
    have em : zm_up h 79 10 (znx b n (h 79 10) + 1) = zm_up (zm_up h 79 10 (znx b n (h 79 10))) 79 10 ((zm_up h 79 10 (znx b n (h 79 10)) 79 10) + 1) := by rw [zm_eq, zm_up2]
    have T20 := zTk_up (v := znx b n (h 79 10) + 1) T (show (10 : Nat) ≠ 5 ∧ (10 : Nat) ≠ 9 ∧ (10 : Nat) ≠ 8 by decide)
    have a20 : zm_up h 79 10 (znx b n (h 79 10) + 1) 79 10 = znx b n (h 79 10) + 1 := zm_eq
    have r20 : zm_up h 79 10 (znx b n (h 79 10) + 1) 83 = h 83 := zup_o (by decide)
    have s := hF _ T20 (by omega) (by omega) ((zm_ne (Or.inr (by decide))).trans f) ((zm_ne (Or.inr (by decide))).trans dp) (by rw [a20]; exact ok)
    rw [a20, r20, zm_up2] at s
    dsimp only at s
    unfold zMcmp
    rw [if_pos f, zl2_p (zMk_nx T a0), zlt_e sg.symm, if_neg (show ¬ (1 : Int) = 0 by decide), zlt_e em, zl2_p s]
    show _ = (zv_cmp b n (zLm (h 83)) d v (h 79 10), _)
    unfold zv_cmp zo_c
    generalize zv_sum b n (zLm (h 83)) d (znx b n (h 79 10) + 1) = x
    by_cases c61 : zpk b n (znx b n (h 79 10)) = 61
    · rw [if_pos c61, if_pos c61]
      show _ = ((if v = x then 1 else 0 : Int), _)
      by_cases z : v = x
      · rw [if_pos z, if_pos z]
      · rw [if_neg z, if_neg z]
    · by_cases c60 : zpk b n (znx b n (h 79 10)) = 60
      · rw [if_neg c61, if_pos c60, if_neg c61, if_pos c60]
        show _ = ((if v < x then 1 else 0 : Int), _)
        by_cases z : x ≤ v
        · rw [if_pos z, if_neg (show ¬ v < x by omega)]
        · rw [if_neg z, if_pos (show v < x by omega)]
      · rw [if_neg c61, if_neg c60, if_neg c61, if_neg c60]
        show _ = ((if x < v then 1 else 0 : Int), _)
        by_cases z : v ≤ x
        · rw [if_pos z, if_neg (show ¬ x < v by omega)]
        · rw [if_neg z, if_pos (show x < v by omega)]
/-- a TRUTH of two SUMS: where -/
def zt_two (b : Nat → Int) (n : Int) (d : Nat) (a : Int) : Int × Int := if (zt_sum b n d a).1 = 0 then zt_sum b n d a else zt_cmp b n d (zt_sum b n d a).2
theorem zMk_two {b : Nat → Int} {n Lv rd : Int} {d : Nat} {F : zM → Int × zM} (hF : zMk b n Lv F (zt_sum b n d) (fun r => zv_sum b n (zLm r) d)) : zMk b n Lv (D_X12_compares_G_D F 0 rd) (zt_two b n d) (fun r a => zv_cmp b n (zLm r) d (zv_sum b n (zLm r) d a) (zt_sum b n d a).2) := by
  intro h T a0 an f dp ok
  unfold zt_two at ok ⊢
  have okf : (zt_sum b n d (h 79 10)).1 ≠ 0 := by
    intro z
    rw [if_pos z] at ok
    exact ok z
  rw [if_neg okf] at ok ⊢
  have g1 := zt_sum_g (b := b) (n := n) d (h 79 10) a0 an
  have s := hF h T a0 an f dp okf
  have T25 := zTk_up (v := (zt_sum b n d (h 79 10)).2) T (show (10 : Nat) ≠ 5 ∧ (10 : Nat) ≠ 9 ∧ (10 : Nat) ≠ 8 by decide)
  have a25 : zm_up h 79 10 (zt_sum b n d (h 79 10)).2 79 10 = (zt_sum b n d (h 79 10)).2 := zm_eq
  have r25 : zm_up h 79 10 (zt_sum b n d (h 79 10)).2 83 = h 83 := zup_o (by decide)
  have k := zMk_cmp hF (zv_sum b n (zLm (h 83)) d (h 79 10)) (zm_up h 79 10 (zt_sum b n d (h 79 10)).2) T25 (by omega) (by omega) ((zm_ne (Or.inr (by decide))).trans f) ((zm_ne (Or.inr (by decide))).trans dp) (by rw [a25]; exact ok)
  rw [a25, r25, zm_up2] at k
  rw [zMcmp_0, zl2_p s]
  exact k
/-! TRUTHS are 0 or 1 -/
def z01 (v : Int) : Prop := v = 0 ∨ v = 1
theorem z01_a {s v w : Int} (h : z01 v) (k : z01 w) : zo_a s v w = (if v = 0 then 0 else if w = 0 then 0 else 1) := by
  unfold zo_a
  rcases h with rfl | rfl <;> rcases k with rfl | rfl <;> decide +kernel
theorem z01_o {s v w : Int} (h : z01 v) (k : z01 w) : zo_o s v w = (if v = 0 then (if w = 0 then 0 else 1) else 1) := by
  unfold zo_o
  rcases h with rfl | rfl <;> rcases k with rfl | rfl <;> decide +kernel
theorem z01_ar {s v w : Int} (h : z01 v) (k : z01 w) : z01 (zo_a s v w) := by
  rw [z01_a h k]
  split
  · exact Or.inl rfl
  · split
    · exact Or.inl rfl
    · exact Or.inr rfl
theorem z01_or {s v w : Int} (h : z01 v) (k : z01 w) : z01 (zo_o s v w) := by
  rw [z01_o h k]
  split
  · split
    · exact Or.inl rfl
    · exact Or.inr rfl
  · exact Or.inr rfl
theorem z01_loop {b : Nat → Int} {n s1 s2 : Int} {op : Int → Int → Int → Int} {f : Int → Int × Int} {fv : Int → Int} (ho : ∀ s v w, z01 v → z01 w → z01 (op s v w)) (hf : ∀ a, z01 (fv a)) : ∀ (k : Nat) (a v : Int), z01 v → z01 (zv_loop b n s1 s2 op f fv k a v) := by
  intro k
  induction k with
  | zero => exact fun a v h => h
  | succ k ih =>
    intro a v h
    unfold zv_loop
    split
    · exact h
    · exact ih _ _ (ho _ _ _ h (hf _))
theorem z01_cmp {b : Nat → Int} {n v a : Int} {L : Nat → Int} {d : Nat} : z01 (zv_cmp b n L d v a) := by
  unfold zv_cmp zo_c
  generalize zv_sum b n L d (znx b n a + 1) = x
  split
  · show z01 (if v = x then 1 else 0)
    split
    · exact Or.inr rfl
    · exact Or.inl rfl
  · split
    · show z01 (if v < x then 1 else 0)
      split
      · exact Or.inr rfl
      · exact Or.inl rfl
    · show z01 (if x < v then 1 else 0)
      split
      · exact Or.inr rfl
      · exact Or.inl rfl
theorem z01_tr {b : Nat → Int} {n a : Int} {u0 u : Int → Int × Int} {u0v uv : Int → Int} (h0 : ∀ a, z01 (u0v a)) (h : ∀ a, z01 (uv a)) : z01 (zv_list b n 38 38 zo_a u0 u u0v uv a) := z01_loop (fun _ _ _ => z01_ar) h _ _ _ (h0 a)
theorem z01_conds {b : Nat → Int} {n a : Int} {u0 u : Int → Int × Int} {u0v uv : Int → Int} (h0 : ∀ a, z01 (u0v a)) (h : ∀ a, z01 (uv a)) : z01 (zv_conds b n u0 u u0v uv a) := z01_loop (fun _ _ _ => z01_or) (fun _ => z01_tr h h) _ _ _ (z01_tr h0 h)
theorem z01_unit {b : Nat → Int} {n : Int} {L : Nat → Int} : ∀ (d : Nat) (a : Int), z01 (zv_unit b n L d a) := by
  intro d
  induction d with
  | zero => exact fun a => z01_cmp
  | succ d ih =>
    intro a
    show z01 (if zpk b n (znx b n a) = 33 then 1 - zv_unit b n L d (znx b n a + 1) else if zpk b n (znx b n a) = 40 then zv_conds b n (zt_unit b n d) (zt_unit b n d) (zv_unit b n L d) (zv_unit b n L d) (znx b n a + 1) else zv_cmp b n L (d + 1) (zv_sum b n L (d + 1) a) (zt_sum b n (d + 1) a).2)
    split
    · rcases ih (znx b n a + 1) with q | q <;> rw [q]
      · exact Or.inr rfl
      · exact Or.inl rfl
    · split
      · exact z01_conds ih ih
      · exact z01_cmp
