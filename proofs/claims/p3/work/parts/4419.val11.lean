/-! the model's reader of TASTES: a CLAUSE, a TASTE (by hand) -/
def zMfin (c v : Int) (h : zM) : zM := if h 79 17 = 0 then (if c = 0 then h else zm_up (zm_up h 79 17 1) 79 14 v) else h
theorem zMfin_f (c v : Int) (h : zM) : (zMfin c v h 79 14 = if h 79 17 = 0 then (if c = 0 then h 79 14 else v) else h 79 14) ∧ (zMfin c v h 79 17 = if h 79 17 = 0 then (if c = 0 then 0 else 1) else h 79 17) ∧ (∀ p : Nat, p ≠ 79 → zMfin c v h p = h p) ∧ (∀ i : Nat, i ≠ 14 → i ≠ 17 → zMfin c v h 79 i = h 79 i) := by
  unfold zMfin
  by_cases a : h 79 17 = 0
  · rw [if_pos a, if_pos a, if_pos a]
    by_cases z : c = 0
    · rw [if_pos z, if_pos z, if_pos z]
      exact ⟨rfl, a, fun _ _ => rfl, fun _ _ _ => rfl⟩
    · rw [if_neg z, if_neg z, if_neg z]
      exact ⟨zm_eq, (zm_ne (Or.inr (by decide))).trans zm_eq, fun p hp => by rw [zup_o hp, zup_o hp], fun i h1 h2 => by rw [zm_ne (Or.inr h1), zm_ne (Or.inr h2)]⟩
  · rw [if_neg a, if_neg a, if_neg a]
    exact ⟨rfl, rfl, fun _ _ => rfl, fun _ _ _ => rfl⟩
/-- behind a CONDITION, as the model reads -/
def zMrest (r5 c : Int) (h : zM) : zM :=
  zl2 (D_X12_takes_D 63 h) fun r44 h44 =>
  if r44 = 0 then
    h44
  else
    zl2 (D_X12_sum_L0_D h44) fun r51 h51 =>
    if (h51 79 11) = (-1) then
      if (h51 79 17) = 0 then
        if r5 = (h51 79 13) then
          if c = 0 then
            h51
          else
            zlt (zm_up h51 79 17 1) fun h63 =>
            zlt (zm_up h63 79 14 r51) fun h70 =>
            h70
        else
          h51
      else
        h51
    else
      h51
theorem zMrest_ok {b : Nat → Int} {n p c r5 : Int} {h : zM} (T : zTk b n h) (f : h 79 11 = -1) (dp : h 79 12 = 0) (ky : h 79 13 = r5) (h0 : 0 ≤ p ∧ p ≤ n) (ok1 : (ztk b n 63 p).1 ≠ 0) (ok2 : (zt_sum b n 6 (ztk b n 63 p).2).1 ≠ 0) : zMrest r5 c (zm_up h 79 10 p) = zMfin c (zv_sum b n (zLm (h 83)) 6 (ztk b n 63 p).2) (zm_up h 79 10 (zt_sum b n 6 (ztk b n 63 p).2).2) := by
  have n240 := T.2.1
  have T5 := zTk_up (v := p) T (show (10 : Nat) ≠ 5 ∧ (10 : Nat) ≠ 9 ∧ (10 : Nat) ≠ 8 by decide)
  have a5 : zm_up h 79 10 p 79 10 = p := zm_eq
  have t := zMk_tk (s := 63) T5 (by omega) ((zm_ne (Or.inr (by decide))).trans f) (by rw [a5]; exact ok1)
  rw [a5, zm_up2] at t
  have g1 := ztk_g (b := b) (n := n) (s := 63) (by decide) p h0.1 h0.2
  have T6 := zTk_up (v := (ztk b n 63 p).2) T (show (10 : Nat) ≠ 5 ∧ (10 : Nat) ≠ 9 ∧ (10 : Nat) ≠ 8 by decide)
  have a6 : zm_up h 79 10 (ztk b n 63 p).2 79 10 = (ztk b n 63 p).2 := zm_eq
  have r6 : zm_up h 79 10 (ztk b n 63 p).2 83 = h 83 := zup_o (by decide)
  have s := zMk_S0 _ T6 (by omega) (by omega) ((zm_ne (Or.inr (by decide))).trans f) ((zm_ne (Or.inr (by decide))).trans dp) (by rw [a6]; exact ok2)
  rw [a6, r6, zm_up2] at s
  dsimp only at s
  unfold zMrest
  rw [zl2_p t, if_neg (show ¬ (1 : Int) = 0 by decide), zl2_p s]
  have f7 : zm_up h 79 10 (zt_sum b n 6 (ztk b n 63 p).2).2 79 11 = -1 := (zm_ne (Or.inr (by decide))).trans f
  have k7 : r5 = zm_up h 79 10 (zt_sum b n 6 (ztk b n 63 p).2).2 79 13 := ky.symm.trans (zm_ne (Or.inr (by decide))).symm
  generalize zm_up h 79 10 (zt_sum b n 6 (ztk b n 63 p).2).2 = h7 at f7 k7 ⊢
  unfold zMfin
  rw [if_pos f7]
  by_cases z : h7 79 17 = 0
  · rw [if_pos z, if_pos z, if_pos k7]
    by_cases z2 : c = 0
    · rw [if_pos z2, if_pos z2]
    · rw [if_neg z2, if_neg z2]
      rfl
  · rw [if_neg z, if_neg z]
theorem zMk_clause {b : Nat → Int} {n : Int} {h : zM} (T : zTk b n h) (a0 : 0 ≤ h 79 10) (an : h 79 10 ≤ n) (f : h 79 11 = -1) (dp : h 79 12 = 0) (ky : h 79 13 = 121) (ok : (zt_clause b n (h 79 10)).1 ≠ 0) : D_X12_clause_D h = zMfin (zv_clause b n (zLm (h 83)) (h 79 10)).1 (zv_clause b n (zLm (h 83)) (h 79 10)).2 (zm_up h 79 10 (zt_clause b n (h 79 10)).2) := by
  have n240 := T.2.1
  have oky : (ztk b n 121 (h 79 10)).1 ≠ 0 := fun z => ok (zt_c_y b n _ z).1
  have okc : (ztk b n 58 (ztk b n 121 (h 79 10)).2).1 ≠ 0 := fun z => ok (zt_c_c b n _ oky z).1
  have eb := zt_c_b b n (h 79 10) oky okc
  have ty := ztk_f b n 121 (h 79 10)
  have cy : zpk b n (znx b n (h 79 10)) = 121 := by
    by_cases q : zpk b n (znx b n (h 79 10)) = 121
    · exact q
    · exact absurd (ty.2 q).1 oky
  have g1 := ztk_g (b := b) (n := n) (s := 121) (by decide) (h 79 10) a0 an
  have T19 := zTk_up (v := (ztk b n 121 (h 79 10)).2) T (show (10 : Nat) ≠ 5 ∧ (10 : Nat) ≠ 9 ∧ (10 : Nat) ≠ 8 by decide)
  have a19 : zm_up h 79 10 (ztk b n 121 (h 79 10)).2 79 10 = (ztk b n 121 (h 79 10)).2 := zm_eq
  have em : zm_up h 79 10 (ztk b n 121 (h 79 10)).2 = zm_up (zm_up h 79 10 (znx b n (h 79 10))) 79 10 ((zm_up h 79 10 (znx b n (h 79 10)) 79 10) + 1) := by rw [zm_eq, zm_up2, (ty.1 cy).2]
  have t := zMk_tk (s := 58) T19 (by omega) ((zm_ne (Or.inr (by decide))).trans f) (by rw [a19]; exact okc)
  rw [a19, zm_up2] at t
  have g2 := ztk_g (b := b) (n := n) (s := 58) (by decide) (ztk b n 121 (h 79 10)).2 (by omega) (by omega)
  have ev : zv_clause b n (zLm (h 83)) (h 79 10) = zv_body b n (zLm (h 83)) (ztk b n 58 (ztk b n 121 (h 79 10)).2).2 := rfl
  rw [eb.1] at ok
  rw [eb.2, ev]
  generalize (ztk b n 58 (ztk b n 121 (h 79 10)).2).2 = c at *
  have w := znx_le (b := b) (n := n) (a := c) (by omega)
  have T24 := zTk_up (v := c) T (show (10 : Nat) ≠ 5 ∧ (10 : Nat) ≠ 9 ∧ (10 : Nat) ≠ 8 by decide)
  have a24 : zm_up h 79 10 c 79 10 = c := zm_eq
  have nx1 := zMk_nx T24 (by omega)
  rw [a24, zm_up2] at nx1
  have T31 := zTk_up (v := znx b n c) T (show (10 : Nat) ≠ 5 ∧ (10 : Nat) ≠ 9 ∧ (10 : Nat) ≠ 8 by decide)
  have a31 : zm_up h 79 10 (znx b n c) 79 10 = znx b n c := zm_eq
  have f31 : zm_up h 79 10 (znx b n c) 79 11 = -1 := (zm_ne (Or.inr (by decide))).trans f
  have d31 : zm_up h 79 10 (znx b n c) 79 12 = 0 := (zm_ne (Or.inr (by decide))).trans dp
  have r31 : zm_up h 79 10 (znx b n c) 83 = h 83 := zup_o (by decide)
  unfold D_X12_clause_D
  rw [zl2_p (zMk_nx T a0), cy, zlt_e (show (1 : Int) = (if zix zLs5 0 121 ≠ -1 then 1 else 0) by decide), if_neg (show ¬ (1 : Int) = 0 by decide), zlt_e em, zl2_p t, if_neg (show ¬ (1 : Int) = 0 by decide), zl2_p nx1]
  by_cases cc : zpk b n (znx b n c) = 33 ∨ zpk b n (znx b n c) = 40
  · have e : zt_body b n c = zt_rest b n (zt_co b n 6 0 c) := if_pos cc
    have ev2 : zv_body b n (zLm (h 83)) c = (zv_conds b n (zt_unit b n 6) (zt_unit b n 6) (zv_unit b n (zLm (h 83)) 6) (zv_unit b n (zLm (h 83)) 6) c, zv_sum b n (zLm (h 83)) 6 (ztk b n 63 (zt_conds b n (zt_unit b n 6) (zt_unit b n 6) c).2).2) := if_pos cc
    rw [e] at ok ⊢
    rw [ev2, zt_co_0]
    have enx := zt_co_nx (b := b) (n := n) (a := c) 6 0 (by omega) n240
    have vnx : zv_conds b n (zt_unit b n 6) (zt_unit b n 6) (zv_unit b n (zLm (h 83)) 6) (zv_unit b n (zLm (h 83)) 6) (znx b n c) = zv_conds b n (zt_unit b n 6) (zt_unit b n 6) (zv_unit b n (zLm (h 83)) 6) (zv_unit b n (zLm (h 83)) 6) c := zv_list_nx (zt_list_nx (zt_unit_nx 6 (by omega) n240)) (zv_list_nx (zt_unit_nx 6 (by omega) n240) (zv_unit_nx 6 (by omega) n240))
    have ok0 : (zt_co b n 6 0 c).1 ≠ 0 := fun z => ok (by unfold zt_rest; rw [if_pos z]; exact z)
    have e2 : zt_rest b n (zt_co b n 6 0 c) = if (ztk b n 63 (zt_co b n 6 0 c).2).1 = 0 then ztk b n 63 (zt_co b n 6 0 c).2 else zt_sum b n 6 (ztk b n 63 (zt_co b n 6 0 c).2).2 := if_neg ok0
    have ok1 : (ztk b n 63 (zt_co b n 6 0 c).2).1 ≠ 0 := fun z => ok (by rw [e2, if_pos z]; exact z)
    rw [e2, if_neg ok1] at ok ⊢
    have g3 := zt_co_g (b := b) (n := n) 6 0 c (by omega) (by omega)
    have s := zMk_K0 _ T31 (by omega) (by omega) f31 d31 (by rw [a31, enx]; exact ok0)
    rw [a31, enx, r31, zm_up2] at s
    dsimp only at s
    rw [vnx] at s
    have rest := zMrest_ok (c := zv_conds b n (zt_unit b n 6) (zt_unit b n 6) (zv_unit b n (zLm (h 83)) 6) (zv_unit b n (zLm (h 83)) 6) c) T f dp ky (p := (zt_co b n 6 0 c).2) (by omega) ok1 ok
    by_cases c33 : zpk b n (znx b n c) = 33
    · rw [if_pos c33, zl2_p s]
      exact rest
    · rw [if_neg c33, if_pos (cc.resolve_left c33), zl2_p s]
      exact rest
  · have okf : (zt_sum b n 6 c).1 ≠ 0 := fun z => ok (by
      have e : zt_body b n c = zt_sum b n 6 c := (if_neg cc).trans (if_pos z)
      rw [e]; exact z)
    have enx := zt_sum_nx (b := b) (n := n) (a := c) 6 (by omega) n240
    have vnx : zv_sum b n (zLm (h 83)) 6 (znx b n c) = zv_sum b n (zLm (h 83)) 6 c := zv_sum_nx 6 (by omega) n240
    have g3 := zt_sum_g (b := b) (n := n) 6 c (by omega) (by omega)
    have s := zMk_S0 _ T31 (by omega) (by omega) f31 d31 (by rw [a31, enx]; exact okf)
    rw [a31, enx, r31, zm_up2] at s
    dsimp only at s
    rw [vnx] at s
    have f117 : zm_up h 79 10 (zt_sum b n 6 c).2 79 11 = -1 := (zm_ne (Or.inr (by decide))).trans f
    have T117 := zTk_up (v := (zt_sum b n 6 c).2) T (show (10 : Nat) ≠ 5 ∧ (10 : Nat) ≠ 9 ∧ (10 : Nat) ≠ 8 by decide)
    have a117 : zm_up h 79 10 (zt_sum b n 6 c).2 79 10 = (zt_sum b n 6 c).2 := zm_eq
    have nx2 := zMk_nx T117 (by omega)
    rw [a117, zm_up2] at nx2
    have hw3 := znx_le (b := b) (n := n) (a := (zt_sum b n 6 c).2) (by omega)
    rw [if_neg (fun z => cc (Or.inl z)), if_neg (fun z => cc (Or.inr z)), zl2_p s, if_pos f117, zl2_p nx2]
    by_cases cs : zpk b n (znx b n (zt_sum b n 6 c).2) ≠ 61 ∧ zpk b n (znx b n (zt_sum b n 6 c).2) ≠ 60 ∧ zpk b n (znx b n (zt_sum b n 6 c).2) ≠ 62
    · have e : zt_body b n c = (1, znx b n (zt_sum b n 6 c).2) := (if_neg cc).trans ((if_neg okf).trans (if_pos cs))
      have ev2 : zv_body b n (zLm (h 83)) c = (1, zv_sum b n (zLm (h 83)) 6 c) := (if_neg cc).trans (if_pos cs)
      have sg : D_X12_isSign_D (zpk b n (znx b n (zt_sum b n 6 c).2)) = 0 := by
        unfold D_X12_isSign_D
        repeat' split
        all_goals first | rfl | omega
      rw [e, ev2, zlt_e sg.symm, if_pos rfl]
      have f7 : zm_up h 79 10 (znx b n (zt_sum b n 6 c).2) 79 11 = -1 := (zm_ne (Or.inr (by decide))).trans f
      have k7 : 121 = zm_up h 79 10 (znx b n (zt_sum b n 6 c).2) 79 13 := ky.symm.trans (zm_ne (Or.inr (by decide))).symm
      show _ = zMfin 1 (zv_sum b n (zLm (h 83)) 6 c) (zm_up h 79 10 (znx b n (zt_sum b n 6 c).2))
      generalize zm_up h 79 10 (znx b n (zt_sum b n 6 c).2) = h7 at f7 k7 ⊢
      unfold zMfin
      rw [if_pos f7]
      by_cases z : h7 79 17 = 0
      · rw [if_pos z, if_pos z, if_pos k7, if_neg (show ¬ (1 : Int) = 0 by decide)]
        rfl
      · rw [if_neg z, if_neg z]
    · have e : zt_body b n c = zt_rest b n (zt_co b n 6 1 (zt_sum b n 6 c).2) := (if_neg cc).trans ((if_neg okf).trans (if_neg cs))
      have ev2 : zv_body b n (zLm (h 83)) c = (zv_conds b n (zt_cmp b n 6) (zt_unit b n 6) (fun a => zv_cmp b n (zLm (h 83)) 6 (zv_sum b n (zLm (h 83)) 6 c) a) (zv_unit b n (zLm (h 83)) 6) (zt_sum b n 6 c).2, zv_sum b n (zLm (h 83)) 6 (ztk b n 63 (zt_conds b n (zt_cmp b n 6) (zt_unit b n 6) (zt_sum b n 6 c).2).2).2) := (if_neg cc).trans (if_neg cs)
      have sg : D_X12_isSign_D (zpk b n (znx b n (zt_sum b n 6 c).2)) = 1 := by
        unfold D_X12_isSign_D
        repeat' split
        all_goals first | rfl | omega
      rw [e] at ok ⊢
      rw [ev2, zt_co_1, zlt_e sg.symm, if_neg (show ¬ (1 : Int) = 0 by decide)]
      have hs0 : 0 ≤ (zt_sum b n 6 c).2 := by omega
      have hsn : (zt_sum b n 6 c).2 ≤ n := by omega
      generalize (zt_sum b n 6 c).2 = s9 at *
      have enx2 := zt_co_nx (b := b) (n := n) (a := s9) 6 1 hs0 n240
      have vnx2 : zv_conds b n (zt_cmp b n 6) (zt_unit b n 6) (zv_cmp b n (zLm (h 83)) 6 (zv_sum b n (zLm (h 83)) 6 c)) (zv_unit b n (zLm (h 83)) 6) (znx b n s9) = zv_conds b n (zt_cmp b n 6) (zt_unit b n 6) (zv_cmp b n (zLm (h 83)) 6 (zv_sum b n (zLm (h 83)) 6 c)) (zv_unit b n (zLm (h 83)) 6) s9 := zv_list_nx (zt_list_nx (zt_cmp_nx 6 hs0 n240)) (zv_list_nx (zt_cmp_nx 6 hs0 n240) (zv_cmp_nx 6 hs0 n240))
      have ok0 : (zt_co b n 6 1 s9).1 ≠ 0 := fun z => ok (by unfold zt_rest; rw [if_pos z]; exact z)
      have e2 : zt_rest b n (zt_co b n 6 1 s9) = if (ztk b n 63 (zt_co b n 6 1 s9).2).1 = 0 then ztk b n 63 (zt_co b n 6 1 s9).2 else zt_sum b n 6 (ztk b n 63 (zt_co b n 6 1 s9).2).2 := if_neg ok0
      have ok1 : (ztk b n 63 (zt_co b n 6 1 s9).2).1 ≠ 0 := fun z => ok (by rw [e2, if_pos z]; exact z)
      rw [e2, if_neg ok1] at ok ⊢
      have g4 := zt_co_g (b := b) (n := n) 6 1 s9 (by omega) (by omega)
      have T124 := zTk_up (v := znx b n s9) T (show (10 : Nat) ≠ 5 ∧ (10 : Nat) ≠ 9 ∧ (10 : Nat) ≠ 8 by decide)
      have a124 : zm_up h 79 10 (znx b n s9) 79 10 = znx b n s9 := zm_eq
      have r124 : zm_up h 79 10 (znx b n s9) 83 = h 83 := zup_o (by decide)
      have s2 := zMk_K0b (zv_sum b n (zLm (h 83)) 6 c) _ T124 (by omega) (by omega) ((zm_ne (Or.inr (by decide))).trans f) ((zm_ne (Or.inr (by decide))).trans dp) (by rw [a124, enx2]; exact ok0)
      rw [a124, enx2, r124, zm_up2] at s2
      dsimp only at s2
      rw [vnx2] at s2
      rw [zl2_p s2]
      exact zMrest_ok T f dp ky (by omega) ok1 ok
/-- behind a CLAUSE: what the rest is worth -/
def zv_next (b : Nat → Int) (n : Int) (L : Nat → Int) (a : Int) : Int := if zpk b n (znx b n a) ≠ 59 then 0 else zv_from b n L 241 (znx b n a + 1)
theorem zMk_go {b : Nat → Int} {n : Int} {K : zM → zM} {fr many : Int} : ∀ (k : Nat) (h : zM), 241 - h 79 10 < k → zTk b n h → 0 ≤ h 79 10 → h 79 10 ≤ n → h 79 11 = -1 → h 79 12 = 0 → h 79 13 = 121 → (h 79 17 = 0 → h 79 14 = 0) → (zt_loop b n 59 59 (zt_clause b n) 241 (h 79 10)).1 ≠ 0 →
    ∃ h1 : zM, DL_X12_goThrough_81_D_32 fr many K k h = K h1 ∧ h1 79 14 = (if h 79 17 = 0 then zv_next b n (zLm (h 83)) (h 79 10) else h 79 14) ∧ h1 79 10 = (zt_loop b n 59 59 (zt_clause b n) 241 (h 79 10)).2 ∧ (∀ p : Nat, p ≠ 79 → h1 p = h p) ∧ (∀ i : Nat, i ≠ 10 → i ≠ 14 → i ≠ 17 → h1 79 i = h 79 i) := by
  intro k
  induction k with
  | zero =>
    intro h hk T
    have := T.2.1
    exact fun a0 an => absurd hk (by omega)
  | succ k ih =>
    intro h hk T a0 an f dp ky hz ok
    have n240 := T.2.1
    have w := znx_le (b := b) (n := n) (a := h 79 10) an
    have nx1 := zMk_nx T a0
    have hs0 : (59 : Int) ≠ -1 ∧ (59 : Int) ≠ -1 := by decide
    rw [zt_loop_e hs0 zt_clause_g a0 an n240] at ok ⊢
    simp only [DL_X12_goThrough_81_D_32]
    by_cases c : zpk b n (znx b n (h 79 10)) = 59
    · have c2 : ¬ (zpk b n (znx b n (h 79 10)) ≠ 59 ∧ zpk b n (znx b n (h 79 10)) ≠ 59) := by omega
      rw [if_neg c2] at ok ⊢
      have lt := zpk_lt (b := b) (n := n) (a := znx b n (h 79 10)) (by omega)
      have hg1 := zt_clause_g (b := b) (n := n) (znx b n (h 79 10) + 1) (by omega) (by omega)
      have okf : (zt_clause b n (znx b n (h 79 10) + 1)).1 ≠ 0 := by
        intro z
        rw [if_pos z] at ok
        exact ok z
      rw [if_neg okf] at ok ⊢
      have em : zm_up h 79 10 (znx b n (h 79 10) + 1) = zm_up (zm_up h 79 10 (znx b n (h 79 10))) 79 10 ((zm_up h 79 10 (znx b n (h 79 10)) 79 10) + 1) := by rw [zm_eq, zm_up2]
      have T20 := zTk_up (v := znx b n (h 79 10) + 1) T (show (10 : Nat) ≠ 5 ∧ (10 : Nat) ≠ 9 ∧ (10 : Nat) ≠ 8 by decide)
      have a20 : zm_up h 79 10 (znx b n (h 79 10) + 1) 79 10 = znx b n (h 79 10) + 1 := zm_eq
      have r20 : zm_up h 79 10 (znx b n (h 79 10) + 1) 83 = h 83 := zup_o (by decide)
      have s := zMk_clause T20 (by omega) (by omega) ((zm_ne (Or.inr (by decide))).trans f) ((zm_ne (Or.inr (by decide))).trans dp) ((zm_ne (Or.inr (by decide))).trans ky) (by rw [a20]; exact okf)
      rw [a20, r20, zm_up2] at s
      have T25 := zTk_up (v := (zt_clause b n (znx b n (h 79 10) + 1)).2) T (show (10 : Nat) ≠ 5 ∧ (10 : Nat) ≠ 9 ∧ (10 : Nat) ≠ 8 by decide)
      have o25 : ∀ i : Nat, i ≠ 10 → zm_up h 79 10 (zt_clause b n (znx b n (h 79 10) + 1)).2 79 i = h 79 i := fun i hi => zm_ne (Or.inr hi)
      have a25 : zm_up h 79 10 (zt_clause b n (znx b n (h 79 10) + 1)).2 79 10 = (zt_clause b n (znx b n (h 79 10) + 1)).2 := zm_eq
      have q25 : ∀ p : Nat, p ≠ 79 → zm_up h 79 10 (zt_clause b n (znx b n (h 79 10) + 1)).2 p = h p := fun p hp => zup_o hp
      generalize zm_up h 79 10 (zt_clause b n (znx b n (h 79 10) + 1)).2 = h25 at *
      have fin := zMfin_f (zv_clause b n (zLm (h 83)) (znx b n (h 79 10) + 1)).1 (zv_clause b n (zLm (h 83)) (znx b n (h 79 10) + 1)).2 h25
      obtain ⟨h18, e18⟩ : ∃ q, q = zMfin (zv_clause b n (zLm (h 83)) (znx b n (h 79 10) + 1)).1 (zv_clause b n (zLm (h 83)) (znx b n (h 79 10) + 1)).2 h25 := ⟨_, rfl⟩
      rw [← e18] at s fin
      obtain ⟨f14, f17, fp, fi⟩ := fin
      rw [o25 17 (by decide), o25 14 (by decide)] at f14
      rw [o25 17 (by decide)] at f17
      have b10 : h18 79 10 = (zt_clause b n (znx b n (h 79 10) + 1)).2 := (fi 10 (by decide) (by decide)).trans a25
      have T18 : zTk b n h18 := by
        obtain ⟨⟨t1, t2, t3⟩, t4, t5⟩ := T25
        refine ⟨⟨(fi 5 (by decide) (by decide)).trans t1, (fi 9 (by decide) (by decide)).trans t2, ?_⟩, t4, fun i => ?_⟩
        · rw [fi 8 (by decide) (by decide)]; exact t3
        · rw [fi 8 (by decide) (by decide), fp 81 (by decide)]; exact t5 i
      have r18 : h18 83 = h 83 := (fp 83 (by decide)).trans (q25 83 (by decide))
      obtain ⟨h1, i1, i2, i3, i4, i5⟩ := ih h18 (by omega) T18 (by omega) (by omega) (((fi 11 (by decide) (by decide)).trans (o25 11 (by decide))).trans f) (((fi 12 (by decide) (by decide)).trans (o25 12 (by decide))).trans dp) (((fi 13 (by decide) (by decide)).trans (o25 13 (by decide))).trans ky) (fun z => by
        rw [f17] at z
        rw [f14]
        by_cases y : h 79 17 = 0
        · rw [if_pos y] at z ⊢
          by_cases x : (zv_clause b n (zLm (h 83)) (znx b n (h 79 10) + 1)).1 = 0
          · rw [if_pos x]; exact hz y
          · rw [if_neg x] at z
            exact absurd z (by decide)
        · rw [if_neg y] at z
          exact absurd z y) (by rw [b10]; exact ok)
      rw [b10] at i3
      rw [b10, r18] at i2
      refine ⟨h1, ?_, ?_, i3, fun p hp => (i4 p hp).trans ((fp p hp).trans (q25 p hp)), fun i h1 h2 h3 => (i5 i h1 h2 h3).trans ((fi i h2 h3).trans (o25 i h1))⟩
      · rw [if_pos f, zl2_p nx1, if_pos c, zlt_e em, zlt_e s.symm]
        exact i1
      · rw [i2, f17, f14]
        have en : zv_next b n (zLm (h 83)) (h 79 10) = zv_from b n (zLm (h 83)) 241 (znx b n (h 79 10) + 1) := if_neg (fun z => z c)
        rw [en, zv_from_e (by omega) (by omega) n240]
        by_cases y : h 79 17 = 0
        · rw [if_pos y, if_pos y, if_pos y]
          by_cases x : (zv_clause b n (zLm (h 83)) (znx b n (h 79 10) + 1)).1 = 0
          · rw [if_pos x, if_pos x, if_pos rfl, if_neg (fun z => z x)]
            rfl
          · rw [if_neg x, if_neg x, if_neg (by decide), if_pos x]
        · rw [if_neg y, if_neg y, if_neg y, if_neg y]
    · have c2 : zpk b n (znx b n (h 79 10)) ≠ 59 ∧ zpk b n (znx b n (h 79 10)) ≠ 59 := ⟨c, c⟩
      rw [if_pos c2]
      refine ⟨zm_up h 79 10 (znx b n (h 79 10)), ?_, ?_, zm_eq, fun p hp => zup_o hp, fun i h1 _ _ => zm_ne (Or.inr h1)⟩
      · rw [if_pos f, zl2_p nx1, if_neg c]
      · rw [zm_ne (Or.inr (by decide))]
        have en : zv_next b n (zLm (h 83)) (h 79 10) = 0 := if_pos c
        rw [en]
        by_cases y : h 79 17 = 0
        · rw [if_pos y]; exact hz y
        · rw [if_neg y]
/-- a TASTE without FAULT: what the model makes of it -/
theorem zMk_through {b : Nat → Int} {fr many : Int} {h : zM} (hm : 0 ≤ many ∧ many ≤ 240) (hf : 0 ≤ fr) (hb : ∀ i : Nat, b i = zub (h 81 (fr.toNat + i)) ∧ -128 ≤ h 81 (fr.toNat + i) ∧ h 81 (fr.toNat + i) ≤ 127) (ok : zt_fault b many = -1) :
    D_X12_goThrough_81_D fr many h 79 14 = zv_taste b many (zLm (h 83)) ∧ D_X12_goThrough_81_D fr many h 79 11 = -1 ∧ (∀ p : Nat, p ≠ 79 → D_X12_goThrough_81_D fr many h p = h p) ∧ (∀ i : Nat, (i < 5 ∨ 17 < i ∨ i = 6 ∨ i = 7 ∨ i = 15 ∨ i = 16) → D_X12_goThrough_81_D fr many h 79 i = h 79 i) := by
  obtain ⟨h51, e51⟩ : ∃ q, q = zm_up (zm_up (zm_up (zm_up (D_X12_starts_81_D fr many h) 79 13 121) 79 12 0) 79 17 0) 79 14 0 := ⟨_, rfl⟩
  have es : D_X12_starts_81_D fr many h = zm_up (zm_up (zm_up (zm_up (zm_up h 79 5 81) 79 8 fr) 79 9 many) 79 10 0) 79 11 (-1) := rfl
  rw [es] at e51
  have v : h51 79 5 = 81 ∧ h51 79 8 = fr ∧ h51 79 9 = many ∧ h51 79 10 = 0 ∧ h51 79 11 = -1 ∧ h51 79 12 = 0 ∧ h51 79 13 = 121 ∧ h51 79 14 = 0 ∧ h51 79 17 = 0 := by
    rw [e51]
    simp (disch := omega) only [zm_ne, zm_eq]
    decide
  obtain ⟨v5, v8, v9, v10, v11, v12, v13, v14, v17⟩ := v
  have vp : ∀ p : Nat, p ≠ 79 → h51 p = h p := fun p hp => by
    rw [e51, zup_o hp, zup_o hp, zup_o hp, zup_o hp, zup_o hp, zup_o hp, zup_o hp, zup_o hp, zup_o hp]
  have vi : ∀ i : Nat, (i < 5 ∨ 17 < i ∨ i = 6 ∨ i = 7 ∨ i = 15 ∨ i = 16) → h51 79 i = h 79 i := fun i hi => by
    rw [e51]
    rw [zm_ne (Or.inr (by omega)), zm_ne (Or.inr (by omega)), zm_ne (Or.inr (by omega)), zm_ne (Or.inr (by omega)), zm_ne (Or.inr (by omega)), zm_ne (Or.inr (by omega)), zm_ne (Or.inr (by omega)), zm_ne (Or.inr (by omega)), zm_ne (Or.inr (by omega))]
  have T : zTk b many h51 := by
    refine ⟨⟨v5, v9, by omega⟩, hm.2, fun i => ?_⟩
    rw [v8, vp 81 (by decide)]
    exact hb i
  have okl : (zt_list b many 59 59 (zt_clause b many) (zt_clause b many) 0).1 ≠ 0 := by
    intro z
    have q := zt_fault_0 z
    have g := zt_list_g (b := b) (n := many) (s1 := 59) (s2 := 59) (f0 := zt_clause b many) (f := zt_clause b many) (by decide) zt_clause_g zt_clause_g 0 (by omega) hm.1
    omega
  have oke : zpk b many (zt_list b many 59 59 (zt_clause b many) (zt_clause b many) 0).2 = -1 := by
    by_cases z : zpk b many (zt_list b many 59 59 (zt_clause b many) (zt_clause b many) 0).2 = -1
    · exact z
    · have q := zt_fault_2 okl z
      have g := zt_list_g (b := b) (n := many) (s1 := 59) (s2 := 59) (f0 := zt_clause b many) (f := zt_clause b many) (by decide) zt_clause_g zt_clause_g 0 (by omega) hm.1
      omega
  have okf : (zt_clause b many 0).1 ≠ 0 := fun z => okl (by unfold zt_list; rw [if_pos z]; exact z)
  have el : zt_list b many 59 59 (zt_clause b many) (zt_clause b many) 0 = zt_loop b many 59 59 (zt_clause b many) 241 (zt_clause b many 0).2 := if_neg okf
  rw [el] at okl oke
  have g1 := zt_clause_g (b := b) (n := many) 0 (by omega) hm.1
  have s := zMk_clause T (by omega) (by omega) v11 v12 v13 (by rw [v10]; exact okf)
  have r51 : h51 83 = h 83 := vp 83 (by decide)
  rw [v10, r51] at s
  have fin := zMfin_f (zv_clause b many (zLm (h 83)) 0).1 (zv_clause b many (zLm (h 83)) 0).2 (zm_up h51 79 10 (zt_clause b many 0).2)
  obtain ⟨h57, e57⟩ : ∃ q, q = zMfin (zv_clause b many (zLm (h 83)) 0).1 (zv_clause b many (zLm (h 83)) 0).2 (zm_up h51 79 10 (zt_clause b many 0).2) := ⟨_, rfl⟩
  rw [← e57] at s fin
  obtain ⟨f14, f17, fp, fi⟩ := fin
  have o17 : zm_up h51 79 10 (zt_clause b many 0).2 79 17 = 0 := (zm_ne (Or.inr (by decide))).trans v17
  have o14 : zm_up h51 79 10 (zt_clause b many 0).2 79 14 = 0 := (zm_ne (Or.inr (by decide))).trans v14
  rw [o17, if_pos rfl] at f17
  rw [o17, if_pos rfl, o14] at f14
  have b10 : h57 79 10 = (zt_clause b many 0).2 := (fi 10 (by decide) (by decide)).trans zm_eq
  have bi : ∀ i : Nat, i ≠ 10 → i ≠ 14 → i ≠ 17 → h57 79 i = h51 79 i := fun i h1 h2 h3 => (fi i h2 h3).trans (zm_ne (Or.inr h1))
  have bp : ∀ p : Nat, p ≠ 79 → h57 p = h51 p := fun p hp => (fp p hp).trans (zup_o hp)
  have T57 : zTk b many h57 := by
    obtain ⟨⟨t1, t2, t3⟩, t4, t5⟩ := T
    refine ⟨⟨(bi 5 (by decide) (by decide) (by decide)).trans t1, (bi 9 (by decide) (by decide) (by decide)).trans t2, ?_⟩, t4, fun i => ?_⟩
    · rw [bi 8 (by decide) (by decide) (by decide)]; exact t3
    · rw [bi 8 (by decide) (by decide) (by decide), bp 81 (by decide)]; exact t5 i
  obtain ⟨h1, i1, i2, i3, i4, i5⟩ := zMk_go (b := b) (n := many) (fr := fr) (many := many) (K := fun h_63 => if (h_63 79 11) = (-1) then zl2 (D_X12_look_D h_63) fun r69 h69 => if r69 = (-1) then h69 else zl2 (D_X12_fails_D h69) fun r76 h76 => h76 else h_63) ((241 - h57 79 10).toNat + 1) h57 (by omega) T57 (by omega) (by omega) ((bi 11 (by decide) (by decide) (by decide)).trans v11) ((bi 12 (by decide) (by decide) (by decide)).trans v12) ((bi 13 (by decide) (by decide) (by decide)).trans v13) (fun z => by
    rw [f14]
    by_cases x : (zv_clause b many (zLm (h 83)) 0).1 = 0
    · rw [if_pos x]
    · rw [f17, if_neg x] at z
      exact absurd z (by decide)) (by rw [b10]; exact okl)
  rw [b10] at i3
  rw [b10, bp 83 (by decide), r51, f17, f14] at i2
  have h1_11 : h1 79 11 = -1 := ((i5 11 (by decide) (by decide) (by decide)).trans (bi 11 (by decide) (by decide) (by decide))).trans v11
  have T1 : zTk b many h1 := by
    obtain ⟨⟨t1, t2, t3⟩, t4, t5⟩ := T57
    refine ⟨⟨(i5 5 (by decide) (by decide) (by decide)).trans t1, (i5 9 (by decide) (by decide) (by decide)).trans t2, ?_⟩, t4, fun i => ?_⟩
    · rw [i5 8 (by decide) (by decide) (by decide)]; exact t3
    · rw [i5 8 (by decide) (by decide) (by decide), i4 81 (by decide)]; exact t5 i
  have lg := zt_loop_g (b := b) (n := many) (s1 := 59) (s2 := 59) (f := zt_clause b many) (by decide) zt_clause_g 241 (zt_clause b many 0).2 (by omega) (by omega)
  have nx := zMk_nx T1 (by omega)
  have eo : many ≤ h1 79 10 := by
    rw [i3]
    by_cases z : (zt_loop b many 59 59 (zt_clause b many) 241 (zt_clause b many 0).2).2 < many
    · rw [zpk_in z] at oke
      have := zTk_b T1 (zt_loop b many 59 59 (zt_clause b many) 241 (zt_clause b many 0).2).2.toNat
      omega
    · omega
  have enx : znx b many (h1 79 10) = h1 79 10 := znx_0 (Or.inl eo)
  rw [enx, zm_self, zpk_out eo] at nx
  have eD : D_X12_goThrough_81_D fr many h = h1 := by
    unfold D_X12_goThrough_81_D
    rw [zlt_e es.symm, zlt_e (rfl : zm_up (zm_up (zm_up (zm_up (zm_up (zm_up h 79 5 81) 79 8 fr) 79 9 many) 79 10 0) 79 11 (-1)) 79 13 121 = _), zlt_e (rfl : zm_up (zm_up (zm_up (zm_up (zm_up (zm_up (zm_up h 79 5 81) 79 8 fr) 79 9 many) 79 10 0) 79 11 (-1)) 79 13 121) 79 12 0 = _), zlt_e (rfl : zm_up (zm_up (zm_up (zm_up (zm_up (zm_up (zm_up (zm_up h 79 5 81) 79 8 fr) 79 9 many) 79 10 0) 79 11 (-1)) 79 13 121) 79 12 0) 79 17 0 = _), zlt_e e51, zlt_e s.symm, i1, if_pos h1_11, zl2_p nx, if_pos rfl]
  rw [eD]
  refine ⟨?_, h1_11, fun p hp => (i4 p hp).trans ((bp p hp).trans (vp p hp)), fun i hi => ((i5 i (by omega) (by omega) (by omega)).trans (bi i (by omega) (by omega) (by omega))).trans (vi i hi)⟩
  rw [i2]
  unfold zv_taste
  rw [zv_from_e (by omega) hm.1 hm.2]
  by_cases x : (zv_clause b many (zLm (h 83)) 0).1 = 0
  · rw [if_pos x, if_pos rfl, if_neg (fun z => z x)]
    rfl
  · rw [if_neg x, if_neg (by decide), if_neg x, if_pos x]
