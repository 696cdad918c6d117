/-! a CLAUSE, a TASTE, as the class reads them (by hand) -/
theorem zv_cmp_nx {b : Nat → Int} {n a v : Int} {L : Nat → Int} (d : Nat) (h0 : 0 ≤ a) (hn : n ≤ 240) : zv_cmp b n L d v (znx b n a) = zv_cmp b n L d v a := by
  unfold zv_cmp
  rw [znx_i h0 hn]
theorem zv_unit_nx {b : Nat → Int} {n a : Int} {L : Nat → Int} (d : Nat) (h0 : 0 ≤ a) (hn : n ≤ 240) : zv_unit b n L d (znx b n a) = zv_unit b n L d a := by
  cases d with
  | zero =>
    show zv_cmp b n L 0 (zv_sum b n L 0 (znx b n a)) (zt_sum b n 0 (znx b n a)).2 = _
    rw [zv_sum_nx 0 h0 hn, zt_sum_nx 0 h0 hn]
    rfl
  | succ d =>
    show (if zpk b n (znx b n (znx b n a)) = 33 then 1 - zv_unit b n L d (znx b n (znx b n a) + 1) else if zpk b n (znx b n (znx b n a)) = 40 then zv_conds b n (zt_unit b n d) (zt_unit b n d) (zv_unit b n L d) (zv_unit b n L d) (znx b n (znx b n a) + 1) else zv_cmp b n L (d + 1) (zv_sum b n L (d + 1) (znx b n a)) (zt_sum b n (d + 1) (znx b n a)).2) = _
    rw [znx_i h0 hn, zv_sum_nx (d + 1) h0 hn, zt_sum_nx (d + 1) h0 hn]
    rfl
theorem zD_clause_ok {b : Nat → Int} {n : Int} {h : zM} (T : zTx b n h) (a0 : 0 ≤ h 1 2) (an : h 1 2 ≤ n) (c0 : 0 ≤ h 10 2 ∧ h 10 2 ≤ h 1 2) (ok : (zt_clause b n (h 1 2)).1 ≠ 0) :
    ∃ (h1 : zM) (D : List Int), D_X10_clause_D h = (1, h1) ∧ zPt D h h1 (zt_clause b n (h 1 2)).2 ∧ (D.length : Int) ≤ (zt_clause b n (h 1 2)).2 - h 1 2 ∧ zwo D ∧ (∀ L, zLr L → ∀ (w : Int) (E : List Int), zRn L (h 10 2 + D.length) E w → zRn L (h 10 2) (D ++ E) (if (zv_clause b n L (h 1 2)).1 ≠ 0 then (zv_clause b n L (h 1 2)).2 else w)) ∧ (zno D → ∀ L K, zL5 L K → zv_clause b n L (h 1 2) = zv_clause b n K (h 1 2)) := by
  have n240 := T.2.2.1
  have oky : (ztk b n 121 (h 1 2)).1 ≠ 0 := fun z => ok (zt_c_y b n _ z).1
  have okc : (ztk b n 58 (ztk b n 121 (h 1 2)).2).1 ≠ 0 := fun z => ok (zt_c_c b n _ oky z).1
  have eb := zt_c_b b n (h 1 2) oky okc
  have one : ∀ s a : Int, (ztk b n s a).1 ≠ 0 → (ztk b n s a).1 = 1 := fun s a q => by
    have f := ztk_f b n s a
    by_cases z : zpk b n (znx b n a) = s
    · exact (f.1 z).1
    · exact absurd (f.2 z).1 q
  have tk1 := zD_tk (s := 121) T a0
  rw [one _ _ oky] at tk1
  have g1 := ztk_g (b := b) (n := n) (s := 121) (by decide) (h 1 2) a0 an
  have g1s := g1.2.2 oky
  have e4 : zm_up h 1 2 (ztk b n 121 (h 1 2)).2 1 2 = (ztk b n 121 (h 1 2)).2 := zm_eq
  have tk2 := zD_tk (s := 58) (zTx_P T (zPt_nx (h := h) (x := (ztk b n 121 (h 1 2)).2))) (by omega)
  rw [e4, one _ _ okc, zm_up2] at tk2
  have g2 := ztk_g (b := b) (n := n) (s := 58) (by decide) (ztk b n 121 (h 1 2)).2 (by omega) (by omega)
  have g2s := g2.2.2 okc
  have ev : ∀ L, zv_clause b n L (h 1 2) = zv_body b n L (ztk b n 58 (ztk b n 121 (h 1 2)).2).2 := fun L => rfl
  rw [eb.1] at ok
  rw [eb.2]
  simp only [ev]
  generalize (ztk b n 58 (ztk b n 121 (h 1 2)).2).2 = c at *
  have w := znx_le (b := b) (n := n) (a := c) (by omega)
  have w2 : znx b n (znx b n c) = znx b n c := znx_i (by omega) n240
  have e10 : zm_up h 1 2 c 1 2 = c := zm_eq
  have nx1 := zD_nx (zTx_P T (zPt_nx (h := h) (x := c))) (by omega)
  rw [e10, zm_up2] at nx1
  have P16 := zPt_nx (h := h) (x := znx b n c)
  have T16 := zTx_P T P16
  have e16 : zm_up h 1 2 (znx b n c) 1 2 = znx b n c := zm_eq
  have l16 : zm_up h 1 2 (znx b n c) 10 2 = h 10 2 := zm_ne (Or.inl (by decide))
  have nx2 := zD_nx T16 (by omega)
  rw [e16, w2, zm_up2] at nx2
  have hd : ∀ {α : Type} (X : α), X = X := fun X => rfl
  generalize zm_up h 1 2 (znx b n c) = h16 at *
  by_cases cc : zpk b n (znx b n c) = 33 ∨ zpk b n (znx b n c) = 40
  · -- a CONDITION that shows at once
    have e : zt_body b n c = zt_rest b n (zt_co b n 6 0 c) := if_pos cc
    have ev2 : ∀ L, zv_body b n L c = (zv_conds b n (zt_unit b n 6) (zt_unit b n 6) (zv_unit b n L 6) (zv_unit b n L 6) c, zv_sum b n L 6 (ztk b n 63 (zt_conds b n (zt_unit b n 6) (zt_unit b n 6) c).2).2) := fun L => if_pos cc
    rw [e] at ok ⊢
    simp only [ev2, zt_co_0]
    have enx := zt_co_nx (b := b) (n := n) (a := c) 6 0 (by omega) n240
    have vnx : ∀ L, zv_conds b n (zt_unit b n 6) (zt_unit b n 6) (zv_unit b n L 6) (zv_unit b n L 6) (znx b n c) = zv_conds b n (zt_unit b n 6) (zt_unit b n 6) (zv_unit b n L 6) (zv_unit b n L 6) c := fun L => zv_list_nx (zt_list_nx (zt_unit_nx 6 (by omega) n240)) (zv_list_nx (zt_unit_nx 6 (by omega) n240) (zv_unit_nx 6 (by omega) n240))
    have ok0 : (zt_co b n 6 0 c).1 ≠ 0 := fun z => ok (by unfold zt_rest; rw [if_pos z]; exact z)
    have e2 : zt_rest b n (zt_co b n 6 0 c) = if (ztk b n 63 (zt_co b n 6 0 c).2).1 = 0 then ztk b n 63 (zt_co b n 6 0 c).2 else zt_sum b n 6 (ztk b n 63 (zt_co b n 6 0 c).2).2 := if_neg ok0
    have ok1 : (ztk b n 63 (zt_co b n 6 0 c).2).1 ≠ 0 := fun z => ok (by rw [e2, if_pos z]; exact z)
    rw [e2, if_neg ok1] at ok ⊢
    have g3 := zt_co_g (b := b) (n := n) 6 0 c (by omega) (by omega)
    have hK := zCk_K0 (b := b) (n := n)
    rw [zt_co_0] at hK
    obtain ⟨hC, C, k1, k2, k3, k4, k5, k6⟩ := hK h16 T16 (by omega) (by omega) (by omega) (by omega) (by rw [e16, enx]; exact ok0)
    rw [e16, enx] at k2 k3
    have aC : hC 1 2 = (zt_co b n 6 0 c).2 := k2.1.1
    rw [← aC] at k2 k3 ok ok1 ⊢
    have k5' : ∀ L, zpu L [] C (zv_conds b n (zt_unit b n 6) (zt_unit b n 6) (zv_unit b n L 6) (zv_unit b n L 6) c) := fun L => by
      have q : zpu L [] C (zv_conds b n (zt_unit b n 6) (zt_unit b n 6) (zv_unit b n L 6) (zv_unit b n L 6) (h16 1 2)) := k5 L
      rw [e16, vnx L] at q
      exact q
    have g3' := zt_co_g (b := b) (n := n) 6 0 (znx b n c) (by omega) (by omega)
    rw [enx, ← aC] at g3'
    obtain ⟨h1, D, d1, d2, d3, d4, d5, d6⟩ := zDrest_ok T16 (by omega) (by omega) k2 (by omega) (by omega) k4 k5' k6 ok1 ok
    have P1 := zPt_tr P16 d2
    rw [List.nil_append] at P1
    refine ⟨h1, D, ?_, P1, by omega, d4, fun L hL w E hE => ?_, fun no L K e => ?_⟩
    · unfold D_X10_clause_D
      rw [zl2_p tk1, if_neg (show ¬ (1 : Int) = 0 by decide), zl2_p tk2, if_neg (show ¬ (1 : Int) = 0 by decide), zl2_p nx1]
      by_cases c33 : zpk b n (znx b n c) = 33
      · rw [if_pos c33, zl2_p nx2, zl2_p k1, if_neg (show ¬ (1 : Int) = 0 by decide)]
        exact d1
      · rw [if_neg c33, if_pos (cc.resolve_left c33), zl2_p nx2, zl2_p k1, if_neg (show ¬ (1 : Int) = 0 by decide)]
        exact d1
    · have q := d5 L hL w E (by rw [l16]; exact hE)
      rw [l16] at q
      exact q
    · have q := d6 no L K e
      rw [q.1, q.2]
  · -- a SUM first
    have okf : (zt_sum b n 6 c).1 ≠ 0 := fun z => ok (by
      have e : zt_body b n c = zt_sum b n 6 c := (if_neg cc).trans (if_pos z)
      rw [e]; exact z)
    have enx := zt_sum_nx (b := b) (n := n) (a := c) 6 (by omega) n240
    have vnx : ∀ L, zv_sum b n L 6 (znx b n c) = zv_sum b n L 6 c := fun L => zv_sum_nx 6 (by omega) n240
    have g3 := zt_sum_g (b := b) (n := n) 6 c (by omega) (by omega)
    obtain ⟨h112, S, s1, s2, s3, s4, s5, s6⟩ := zCk_S0 (b := b) (n := n) h16 T16 (by omega) (by omega) (by omega) (by omega) (by rw [e16, enx]; exact okf)
    rw [e16, enx] at s2 s3
    have s5' : ∀ L, zpu L [] S (zv_sum b n L 6 c) := fun L => by
      have q : zpu L [] S (zv_sum b n L 6 (h16 1 2)) := s5 L
      rw [e16, vnx L] at q
      exact q
    have T112 := zTx_P T16 s2
    have a112 : h112 1 2 = (zt_sum b n 6 c).2 := s2.1.1
    have l112 : h112 10 2 = h 10 2 + S.length := by rw [s2.2.1.2, l16]
    have nx3 := zD_nx T112 (by omega)
    have hw3 := znx_le (b := b) (n := n) (a := (zt_sum b n 6 c).2) (by omega)
    have P118 := zPt_tr s2 (zPt_nx (h := h112) (x := znx b n (zt_sum b n 6 c).2))
    rw [List.append_nil] at P118
    rw [a112] at nx3
    have T118 := zTx_P T16 P118
    have e118 : zm_up h112 1 2 (znx b n (zt_sum b n 6 c).2) 1 2 = znx b n (zt_sum b n 6 c).2 := zm_eq
    have l118 : zm_up h112 1 2 (znx b n (zt_sum b n 6 c).2) 10 2 = h 10 2 + S.length := (zm_ne (Or.inl (by decide))).trans l112
    generalize zm_up h112 1 2 (znx b n (zt_sum b n 6 c).2) = h118 at *
    have g3' := zt_sum_g (b := b) (n := n) 6 (znx b n c) (by omega) (by omega)
    rw [enx] at g3'
    by_cases cs : zpk b n (znx b n (zt_sum b n 6 c).2) ≠ 61 ∧ zpk b n (znx b n (zt_sum b n 6 c).2) ≠ 60 ∧ zpk b n (znx b n (zt_sum b n 6 c).2) ≠ 62
    · have e : zt_body b n c = (1, znx b n (zt_sum b n 6 c).2) := (if_neg cc).trans ((if_neg okf).trans (if_pos cs))
      have ev2 : ∀ L, zv_body b n L c = (1, zv_sum b n L 6 c) := fun L => (if_neg cc).trans (if_pos cs)
      rw [e]
      simp only [ev2]
      obtain ⟨h1, f1, f2⟩ := zPt_em (s := 3) (o := 0) (h := h118) (by decide) (by decide) (by omega) (Or.inl (by unfold zwd; omega))
      rw [e118] at f2
      have P1 := zPt_tr P16 (zPt_tr P118 f2)
      rw [List.nil_append] at P1
      have lD : ((S ++ [zwd 3 0]).length : Nat) = S.length + 1 := by rw [List.length_append]; rfl
      refine ⟨h1, S ++ [zwd 3 0], ?_, P1, by rw [lD]; show _ ≤ znx b n (zt_sum b n 6 c).2 - h 1 2; omega, zwo_app s4 (zwo_1 (by decide) (by decide)), fun L hL w E hE => ?_, fun no L K e => ?_⟩
      · unfold D_X10_clause_D
        rw [zl2_p tk1, if_neg (show ¬ (1 : Int) = 0 by decide), zl2_p tk2, if_neg (show ¬ (1 : Int) = 0 by decide), zl2_p nx1, if_neg (show ¬ zpk b n (znx b n c) = 33 by omega), if_neg (show ¬ zpk b n (znx b n c) = 40 by omega), zl2_p s1, if_neg (show ¬ (1 : Int) = 0 by decide), zl2_p nx3, if_neg cs.1, if_neg cs.2.1, if_neg cs.2.2, zl2_p f1]
      · rw [if_pos (show (1 : Int) ≠ 0 by decide), show (S ++ [zwd 3 0]) ++ E = S ++ zwd 3 0 :: E by rw [List.append_assoc]; rfl]
        exact zRn_s hL (s5' L) (zfi_up s6 (by decide)) s4
      · rw [zpu_5 e (s5' L) (s5' K) (zno_l no)]
    · have e : zt_body b n c = zt_rest b n (zt_co b n 6 1 (zt_sum b n 6 c).2) := (if_neg cc).trans ((if_neg okf).trans (if_neg cs))
      have ev2 : ∀ L, zv_body b n L c = (zv_conds b n (zt_cmp b n 6) (zt_unit b n 6) (fun a => zv_cmp b n L 6 (zv_sum b n L 6 c) a) (zv_unit b n L 6) (zt_sum b n 6 c).2, zv_sum b n L 6 (ztk b n 63 (zt_conds b n (zt_cmp b n 6) (zt_unit b n 6) (zt_sum b n 6 c).2).2).2) := fun L => (if_neg cc).trans (if_neg cs)
      rw [e] at ok ⊢
      simp only [ev2, zt_co_1]
      have hs0 : 0 ≤ (zt_sum b n 6 c).2 := by omega
      have hsn : (zt_sum b n 6 c).2 ≤ n := by omega
      have hsc : znx b n c < (zt_sum b n 6 c).2 := g3'.2.2 okf
      generalize (zt_sum b n 6 c).2 = s at *
      have enx2 := zt_co_nx (b := b) (n := n) (a := s) 6 1 hs0 n240
      have vnx2 : ∀ L, zv_conds b n (zt_cmp b n 6) (zt_unit b n 6) (fun a => zv_cmp b n L 6 (zv_sum b n L 6 c) a) (zv_unit b n L 6) (znx b n s) = zv_conds b n (zt_cmp b n 6) (zt_unit b n 6) (fun a => zv_cmp b n L 6 (zv_sum b n L 6 c) a) (zv_unit b n L 6) s := fun L => zv_list_nx (zt_list_nx (zt_cmp_nx 6 hs0 n240)) (zv_list_nx (zt_cmp_nx 6 hs0 n240) (zv_cmp_nx 6 hs0 n240))
      have ok0 : (zt_co b n 6 1 s).1 ≠ 0 := fun z => ok (by unfold zt_rest; rw [if_pos z]; exact z)
      have e2 : zt_rest b n (zt_co b n 6 1 s) = if (ztk b n 63 (zt_co b n 6 1 s).2).1 = 0 then ztk b n 63 (zt_co b n 6 1 s).2 else zt_sum b n 6 (ztk b n 63 (zt_co b n 6 1 s).2).2 := if_neg ok0
      have ok1 : (ztk b n 63 (zt_co b n 6 1 s).2).1 ≠ 0 := fun z => ok (by rw [e2, if_pos z]; exact z)
      rw [e2, if_neg ok1] at ok ⊢
      have hK := zCk_K0b (b := b) (n := n) (fun L => zv_sum b n L 6 c)
      rw [zt_co_1] at hK
      have g4 := zt_co_g (b := b) (n := n) 6 1 (znx b n s) (by omega) (by omega)
      rw [enx2] at g4
      obtain ⟨hC, C, k1, k2, k3, k4, k5, k6⟩ := hK h118 T118 (by omega) (by omega) (by omega) (by omega) (by rw [e118, enx2]; exact ok0)
      rw [e118, enx2] at k2 k3
      have aC : hC 1 2 = (zt_co b n 6 1 s).2 := k2.1.1
      rw [← aC] at k2 k3 ok ok1 g4 ⊢
      have k5' : ∀ L, zpu L [] (S ++ C) (zv_conds b n (zt_cmp b n 6) (zt_unit b n 6) (fun a => zv_cmp b n L 6 (zv_sum b n L 6 c) a) (zv_unit b n L 6) s) := fun L => by
        have q : zpu L [zv_sum b n L 6 c] C (zv_conds b n (zt_cmp b n 6) (zt_unit b n 6) (fun a => zv_cmp b n L 6 (zv_sum b n L 6 c) a) (zv_unit b n L 6) (h118 1 2)) := k5 L
        rw [e118, vnx2 L] at q
        exact zpu_app (s5' L) q
      obtain ⟨h1, D, d1, d2, d3, d4, d5, d6⟩ := zDrest_ok T16 (by omega) (by omega) (zPt_tr P118 k2) (by omega) (by rw [List.length_append]; omega) (zwo_app s4 k4) k5' (zfi_app (zfi_up s6 (by decide)) k6) ok1 ok
      have P1 := zPt_tr P16 d2
      rw [List.nil_append] at P1
      refine ⟨h1, D, ?_, P1, by omega, d4, fun L hL w E hE => ?_, fun no L K e => ?_⟩
      · unfold D_X10_clause_D
        rw [zl2_p tk1, if_neg (show ¬ (1 : Int) = 0 by decide), zl2_p tk2, if_neg (show ¬ (1 : Int) = 0 by decide), zl2_p nx1, if_neg (show ¬ zpk b n (znx b n c) = 33 by omega), if_neg (show ¬ zpk b n (znx b n c) = 40 by omega), zl2_p s1, if_neg (show ¬ (1 : Int) = 0 by decide), zl2_p nx3]
        by_cases c61 : zpk b n (znx b n s) = 61
        · rw [if_pos c61, zl2_p k1, if_neg (show ¬ (1 : Int) = 0 by decide)]
          exact d1
        · by_cases c60 : zpk b n (znx b n s) = 60
          · rw [if_neg c61, if_pos c60, zl2_p k1, if_neg (show ¬ (1 : Int) = 0 by decide)]
            exact d1
          · rw [if_neg c61, if_neg c60, if_pos (show zpk b n (znx b n s) = 62 by omega), zl2_p k1, if_neg (show ¬ (1 : Int) = 0 by decide)]
            exact d1
      · have q := d5 L hL w E (by rw [l16]; exact hE)
        rw [l16] at q
        exact q
      · have q := d6 no L K e
        rw [q.1, q.2]
/-! a TASTE -/
theorem zv_from_m {b : Nat → Int} {n : Int} {L : Nat → Int} : ∀ (k : Nat) (a : Int), 0 ≤ a → a ≤ n → n - a ≤ k → zv_from b n L (k + 2) a = zv_from b n L (k + 1) a := by
  intro k
  induction k with
  | zero =>
    intro a h0 h1 h2
    have g := zt_clause_g (b := b) (n := n) a h0 h1
    have w := znx_le (b := b) (n := n) (a := (zt_clause b n a).2) g.2.1
    have e : zpk b n (znx b n (zt_clause b n a).2) = -1 := zpk_out (by omega)
    show (if _ then _ else if _ then _ else zv_from b n L 1 _) = (if _ then _ else if _ then _ else zv_from b n L 0 _)
    rw [if_pos (show zpk b n (znx b n (zt_clause b n a).2) ≠ 59 by omega), if_pos (show zpk b n (znx b n (zt_clause b n a).2) ≠ 59 by omega)]
  | succ k ih =>
    intro a h0 h1 h2
    have g := zt_clause_g (b := b) (n := n) a h0 h1
    have w := znx_le (b := b) (n := n) (a := (zt_clause b n a).2) g.2.1
    show (if _ then _ else if _ then _ else zv_from b n L (k + 2) _) = (if _ then _ else if _ then _ else zv_from b n L (k + 1) _)
    by_cases c : zpk b n (znx b n (zt_clause b n a).2) ≠ 59
    · rw [if_pos c, if_pos c]
    · have l := zpk_lt (b := b) (n := n) (a := znx b n (zt_clause b n a).2) (by omega)
      rw [ih (znx b n (zt_clause b n a).2 + 1) (by omega) (by omega) (by omega)]
theorem zv_from_e {b : Nat → Int} {n a : Int} {L : Nat → Int} (h0 : 0 ≤ a) (h1 : a ≤ n) (hn : n ≤ 240) : zv_from b n L 241 a = if (zv_clause b n L a).1 ≠ 0 then (zv_clause b n L a).2 else if zpk b n (znx b n (zt_clause b n a).2) ≠ 59 then 0 else zv_from b n L 241 (znx b n (zt_clause b n a).2 + 1) := by
  have g := zt_clause_g (b := b) (n := n) a h0 h1
  have w := znx_le (b := b) (n := n) (a := (zt_clause b n a).2) g.2.1
  show (if _ then _ else if _ then _ else zv_from b n L 240 _) = _
  by_cases c : zpk b n (znx b n (zt_clause b n a).2) ≠ 59
  · rw [if_pos c, if_pos c]
  · have l := zpk_lt (b := b) (n := n) (a := znx b n (zt_clause b n a).2) (by omega)
    rw [zv_from_m 239 (znx b n (zt_clause b n a).2 + 1) (by omega) (by omega) (by omega)]
theorem zD_read_l {b : Nat → Int} {n : Int} {K : Int → zM → Int × zM} : ∀ (k : Nat) (x1 : Int) (h : zM), 240 - x1 < k → x1 ≤ h 1 2 → zTx b n h → 0 ≤ h 1 2 → h 1 2 ≤ n → 0 ≤ h 10 2 ∧ h 10 2 ≤ h 1 2 → (zt_list b n 59 59 (zt_clause b n) (zt_clause b n) (h 1 2)).1 ≠ 0 →
    ∃ (x : Int) (h1 : zM) (D : List Int), DL_X10_read_D_20 K k x1 h = K x h1 ∧ zPt D h h1 (zt_list b n 59 59 (zt_clause b n) (zt_clause b n) (h 1 2)).2 ∧ (D.length : Int) ≤ (zt_list b n 59 59 (zt_clause b n) (zt_clause b n) (h 1 2)).2 - h 1 2 ∧ (zt_list b n 59 59 (zt_clause b n) (zt_clause b n) (h 1 2)).2 ≤ n ∧ zwo D ∧ (∀ L, zLr L → zRn L (h 10 2) D (zv_from b n L 241 (h 1 2))) ∧ (zno D → ∀ L M, zL5 L M → zv_from b n L 241 (h 1 2) = zv_from b n M 241 (h 1 2)) := by
  intro k
  induction k with
  | zero =>
    intro x1 h hk hx T a0 an
    have := T.2.2.1
    exact absurd hk (by omega)
  | succ k ih =>
    intro x1 h hk hx T a0 an c0 ok
    have n240 := T.2.2.1
    have okf : (zt_clause b n (h 1 2)).1 ≠ 0 := fun z => ok (by unfold zt_list; rw [if_pos z]; exact z)
    have g := zt_clause_g (b := b) (n := n) (h 1 2) a0 an
    have gs := g.2.2 okf
    obtain ⟨h5, D, d1, d2, d3, d4, d5, d6⟩ := zD_clause_ok T a0 an c0 okf
    have T5 := zTx_P T d2
    have a5 : h5 1 2 = (zt_clause b n (h 1 2)).2 := d2.1.1
    have l5 : h5 10 2 = h 10 2 + D.length := d2.2.1.2
    have w := znx_le (b := b) (n := n) (a := (zt_clause b n (h 1 2)).2) g.2.1
    have tk := zD_tk (s := 59) T5 (by omega)
    rw [a5] at tk
    have tf := ztk_f b n 59 (zt_clause b n (h 1 2)).2
    have ev : ∀ L, zv_from b n L 241 (h 1 2) = _ := fun L => zv_from_e (L := L) a0 an n240
    simp only [DL_X10_read_D_20]
    rw [if_neg (show ¬ 240 ≤ x1 by omega), zl2_p d1, if_neg (show ¬ (1 : Int) = 0 by decide), zl2_p tk]
    by_cases c : zpk b n (znx b n (zt_clause b n (h 1 2)).2) = 59
    · have lt := zpk_lt (b := b) (n := n) (a := znx b n (zt_clause b n (h 1 2)).2) (by omega)
      have eg := zt_cl_go (b := b) (n := n) (s := 59) zt_clause_g (by decide) ⟨a0, an⟩ n240 okf c
      rw [(tf.1 c).1, (tf.1 c).2, if_neg (show ¬ (1 : Int) = 0 by decide)]
      have P11 := zPt_tr d2 (zPt_nx (h := h5) (x := znx b n (zt_clause b n (h 1 2)).2 + 1))
      rw [List.append_nil] at P11
      have e11 : zm_up h5 1 2 (znx b n (zt_clause b n (h 1 2)).2 + 1) 1 2 = znx b n (zt_clause b n (h 1 2)).2 + 1 := zm_eq
      have l11 : zm_up h5 1 2 (znx b n (zt_clause b n (h 1 2)).2 + 1) 10 2 = h 10 2 + D.length := (zm_ne (Or.inl (by decide))).trans l5
      rw [eg.1] at ok
      rw [eg.2]
      obtain ⟨x, h1, E, i1, i2, i3, i3', i4, i5, i6⟩ := ih (x1 + 1) (zm_up h5 1 2 (znx b n (zt_clause b n (h 1 2)).2 + 1)) (by omega) (by omega) (zTx_P T P11) (by omega) (by omega) (by omega) (by rw [e11]; exact ok)
      rw [e11] at i2 i3 i3' i5 i6
      rw [l11] at i5
      refine ⟨x, h1, D ++ E, i1, zPt_tr P11 i2, by rw [List.length_append]; omega, i3', zwo_app d4 i4, fun L hL => ?_, fun no L M e => ?_⟩
      · rw [ev L, if_neg (show ¬ zpk b n (znx b n (zt_clause b n (h 1 2)).2) ≠ 59 from fun z => z c)]
        exact d5 L hL _ E (i5 L hL)
      · rw [ev L, ev M, d6 (zno_l no) L M e, i6 (zno_r no) L M e]
    · have es := zt_cl_stop (b := b) (n := n) (s := 59) (f := zt_clause b n) okf c
      rw [es.2, (tf.2 c).1, (tf.2 c).2, if_pos rfl]
      have P11 := zPt_tr d2 (zPt_nx (h := h5) (x := znx b n (zt_clause b n (h 1 2)).2))
      rw [List.append_nil] at P11
      refine ⟨x1, _, D, rfl, P11, by omega, w.2, d4, fun L hL => ?_, fun no L M e => ?_⟩
      · have q := d5 L hL 0 [] zRn_0
        rw [List.append_nil] at q
        rw [ev L, if_pos (show zpk b n (znx b n (zt_clause b n (h 1 2)).2) ≠ 59 from c)]
        exact q
      · rw [ev L, ev M, if_pos (show zpk b n (znx b n (zt_clause b n (h 1 2)).2) ≠ 59 from c), if_pos (show zpk b n (znx b n (zt_clause b n (h 1 2)).2) ≠ 59 from c), d6 no L M e]
/-- a TASTE without FAULT: its code is worth what the text is -/
theorem zD_read {b : Nat → Int} {n : Int} {h : zM} (hb : h 2 = b) (hn : h 1 1 = n) (n0 : 0 ≤ n ∧ n ≤ 240) (br : ∀ i : Nat, 0 ≤ b i ∧ b i ≤ 255) (ok : zt_fault b n = -1) :
    ∃ (h1 : zM) (D : List Int), D_X10_read_D h = (-1, h1) ∧ h1 11 = zem (h 11) 0 D ∧ h1 10 2 = D.length ∧ D.length ≤ 240 ∧ (h1 10 3 = 0 ∨ h1 10 3 = 1) ∧ zwo D ∧ (∀ L, zLr L → zRn L 0 D (zv_taste b n L)) ∧ (h1 10 3 = 0 → ∀ L M, zL5 L M → zv_taste b n L = zv_taste b n M) ∧ (∀ p : Nat, p ≠ 1 → p ≠ 10 → p ≠ 11 → h1 p = h p) := by
  obtain ⟨h29, e29⟩ : ∃ q, q = zm_up (zm_up (zm_up h 10 2 0) 10 3 0) 1 2 0 := ⟨_, rfl⟩
  have v0 : h29 1 2 = 0 := by rw [e29]; exact zm_eq
  have v1 : h29 1 1 = n := by rw [e29, zm_ne (Or.inr (by decide)), zm_ne (Or.inl (by decide)), zm_ne (Or.inl (by decide))]; exact hn
  have v2 : h29 10 2 = 0 := by rw [e29, zm_ne (Or.inl (by decide)), zm_ne (Or.inr (by decide))]; exact zm_eq
  have v3 : h29 10 3 = 0 := by rw [e29, zm_ne (Or.inl (by decide))]; exact zm_eq
  have vp : ∀ p : Nat, p ≠ 1 → p ≠ 10 → h29 p = h p := fun p a c => by rw [e29, zup_o a, zup_o c, zup_o c]
  have T : zTx b n h29 := ⟨(vp 2 (by decide) (by decide)).trans hb, v1, n0.2, Or.inl v3, br⟩
  have okl : (zt_list b n 59 59 (zt_clause b n) (zt_clause b n) 0).1 ≠ 0 := by
    intro z
    have q := zt_fault_0 z
    have g := zt_list_g (b := b) (n := n) (s1 := 59) (s2 := 59) (f0 := zt_clause b n) (f := zt_clause b n) (by decide) zt_clause_g zt_clause_g 0 (by omega) n0.1
    omega
  have oke : zpk b n (zt_list b n 59 59 (zt_clause b n) (zt_clause b n) 0).2 = -1 := by
    by_cases z : zpk b n (zt_list b n 59 59 (zt_clause b n) (zt_clause b n) 0).2 = -1
    · exact z
    · have q := zt_fault_2 okl z
      have g := zt_list_g (b := b) (n := n) (s1 := 59) (s2 := 59) (f0 := zt_clause b n) (f := zt_clause b n) (by decide) zt_clause_g zt_clause_g 0 (by omega) n0.1
      omega
  obtain ⟨x, h1, D, i1, i2, i3, i3', i4, i5, i6⟩ := zD_read_l (b := b) (n := n) (K := fun x1_33 h_33 => zl2 (D_X8_next_D h_33) fun r37 h37 => if r37 = (-1) then ((-1), h37) else ((h37 1 2), h37)) ((240 - (0 : Int)).toNat + 1) 0 h29 (by omega) (by omega) T (by omega) (by omega) (by omega) (by rw [v0]; exact okl)
  rw [v0] at i2 i3 i3' i5 i6
  rw [v2] at i5
  have a1 : h1 1 2 = (zt_list b n 59 59 (zt_clause b n) (zt_clause b n) 0).2 := i2.1.1
  have T1 := zTx_P T i2
  have nx := zD_nx T1 (by omega)
  have eo : n ≤ h1 1 2 := by
    rw [a1]
    by_cases z : (zt_list b n 59 59 (zt_clause b n) (zt_clause b n) 0).2 < n
    · rw [zpk_in z] at oke
      have := br (zt_list b n 59 59 (zt_clause b n) (zt_clause b n) 0).2.toNat
      omega
    · omega
  have enx : znx b n (h1 1 2) = h1 1 2 := znx_0 (Or.inl eo)
  rw [enx, zm_self, zpk_out eo] at nx
  obtain ⟨⟨p1, p2⟩, ⟨p3, p4⟩, ⟨p5, p6⟩, p7⟩ := i2
  refine ⟨h1, D, ?_, ?_, ?_, by omega, ?_, i4, i5, fun z => i6 (p6 z).2, fun p a c d => (p7 p a c d).trans (vp p a c)⟩
  · unfold D_X10_read_D
    rw [zlt_e (rfl : zm_up h 10 2 0 = _), zlt_e (rfl : zm_up (zm_up h 10 2 0) 10 3 0 = _), zlt_e e29, i1, zl2_p nx, if_pos rfl]
  · rw [p3, v2, vp 11 (by decide) (by decide)]
  · rw [p4, v2, Int.zero_add]
  · exact T1.2.2.2.1
