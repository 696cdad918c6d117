/-! the class's TasteReader: units (by hand; the text of zDcmp by program) -/
/-- behind the first SUM of a TRUTH -/
def zDcmp (F_sum : zM → Int × zM) (h : zM) : Int × zM :=
  zl2 (D_X8_next_D h) fun r489 h489 =>
  if r489 = 61 then
    if r489 = 61 then
      zlt (zm_up h489 1 2 ((h489 1 2) + 1)) fun h496 =>
      zl2 (F_sum h496) fun r500 h500 =>
      if r500 = 0 then
        (0, h500)
      else
        if r489 = 62 then
          zl2 (D_X10_emit_D 11 0 h500) fun r507 h507 =>
          if r507 = 0 then
            (0, h507)
          else
            (1, h507)
        else
          zl2 (D_X10_emit_D 9 0 h500) fun r513 h513 =>
          if r513 = 0 then
            (0, h513)
          else
            (1, h513)
    else
      zlt (zm_up h489 1 2 ((h489 1 2) + 1)) fun h519 =>
      zl2 (F_sum h519) fun r523 h523 =>
      if r523 = 0 then
        (0, h523)
      else
        if r489 = 62 then
          zl2 (D_X10_emit_D 11 0 h523) fun r530 h530 =>
          if r530 = 0 then
            (0, h530)
          else
            (1, h530)
        else
          zl2 (D_X10_emit_D 10 0 h523) fun r536 h536 =>
          if r536 = 0 then
            (0, h536)
          else
            (1, h536)
  else
    if r489 = 60 then
      if r489 = 61 then
        zlt (zm_up h489 1 2 ((h489 1 2) + 1)) fun h544 =>
        zl2 (F_sum h544) fun r548 h548 =>
        if r548 = 0 then
          (0, h548)
        else
          if r489 = 62 then
            zl2 (D_X10_emit_D 11 0 h548) fun r555 h555 =>
            if r555 = 0 then
              (0, h555)
            else
              (1, h555)
          else
            zl2 (D_X10_emit_D 9 0 h548) fun r561 h561 =>
            if r561 = 0 then
              (0, h561)
            else
              (1, h561)
      else
        zlt (zm_up h489 1 2 ((h489 1 2) + 1)) fun h567 =>
        zl2 (F_sum h567) fun r571 h571 =>
        if r571 = 0 then
          (0, h571)
        else
          if r489 = 62 then
            zl2 (D_X10_emit_D 11 0 h571) fun r578 h578 =>
            if r578 = 0 then
              (0, h578)
            else
              (1, h578)
          else
            zl2 (D_X10_emit_D 10 0 h571) fun r584 h584 =>
            if r584 = 0 then
              (0, h584)
            else
              (1, h584)
    else
      if r489 = 62 then
        if r489 = 61 then
          zlt (zm_up h489 1 2 ((h489 1 2) + 1)) fun h592 =>
          zl2 (F_sum h592) fun r596 h596 =>
          if r596 = 0 then
            (0, h596)
          else
            if r489 = 62 then
              zl2 (D_X10_emit_D 11 0 h596) fun r603 h603 =>
              if r603 = 0 then
                (0, h603)
              else
                (1, h603)
            else
              zl2 (D_X10_emit_D 9 0 h596) fun r609 h609 =>
              if r609 = 0 then
                (0, h609)
              else
                (1, h609)
        else
          zlt (zm_up h489 1 2 ((h489 1 2) + 1)) fun h615 =>
          zl2 (F_sum h615) fun r619 h619 =>
          if r619 = 0 then
            (0, h619)
          else
            if r489 = 62 then
              zl2 (D_X10_emit_D 11 0 h619) fun r626 h626 =>
              if r626 = 0 then
                (0, h626)
              else
                (1, h626)
            else
              zl2 (D_X10_emit_D 10 0 h619) fun r632 h632 =>
              if r632 = 0 then
                (0, h632)
              else
                (1, h632)
      else
        (0, h489)
theorem zD_un1 {F_sum : zM → Int × zM} {F_deep : Int → zM → Int × zM} {bg Lv : Int} (hb : bg ≠ 0) (h : zM) : D_X10_unit_G_D F_sum F_deep bg Lv h = zDcmp F_sum h := by
  unfold D_X10_unit_G_D
  rw [if_neg hb, if_neg hb]
  rfl
theorem zD_un0 {F_sum : zM → Int × zM} {F_deep : Int → zM → Int × zM} {Lv : Int} (h : zM) : D_X10_unit_G_D F_sum F_deep 0 Lv h = zl2 (D_X8_next_D h) fun r5 h5 => if r5 = 33 then (if 6 ≤ Lv then (0, h5) else zl2 (F_deep r5 h5) fun r12 h12 => if r12 = 0 then (0, h12) else (1, h12)) else if r5 = 40 then (if 6 ≤ Lv then (0, h5) else zl2 (F_deep r5 h5) fun r20 h20 => if r20 = 0 then (0, h20) else (1, h20)) else zl2 (F_sum h5) fun r27 h27 => if r27 = 0 then (0, h27) else zDcmp F_sum h27 := by
  unfold D_X10_unit_G_D
  rw [if_pos rfl]
  first | rfl | (simp only [eq_self, if_true]; rfl)
theorem zPt_rf {h : zM} : zPt [] h h (h 1 2) := ⟨⟨rfl, rfl⟩, ⟨rfl, (Int.add_zero _).symm⟩, ⟨Or.inl rfl, fun z => ⟨z, fun w q => absurd q (by simp)⟩⟩, fun _ _ _ _ => rfl⟩
theorem zpu_app {L : Nat → Int} {B C D : List Int} {v w : Int} (h : zpu L B C v) (k : zpu L [v] D w) : zpu L B (C ++ D) w := fun st => by
  rw [zrn_app, h st]
  exact k st
theorem zfi_app {b d : Nat} {C D : List Int} (h : zfi b d C) (k : zfi 1 d D) : zfi b d (C ++ D) := by
  intro n m q
  have h1 := h n m q
  have k1 := k n m q
  exact ⟨zft_app C D _ h1.1 (by rw [h1.2]; exact k1.1), by rw [zxl_app, h1.2]; exact k1.2⟩
theorem zCk_mono {b : Nat → Int} {n : Int} {F : zM → Int × zM} {f : Int → Int × Int} {B : (Nat → Int) → List Int} {fv : (Nat → Int) → Int → Int} {bn dd ee : Nat} (h : zCk b n F f B fv bn dd) (l : dd ≤ ee) : zCk b n F f B fv bn ee := by
  intro h0 T a0 an c0 c1 ok
  obtain ⟨h1, C, d1, d2, d3, d4, d5, d6⟩ := h h0 T a0 an c0 c1 ok
  exact ⟨h1, C, d1, d2, d3, d4, d5, zfi_up d6 l⟩
theorem zv_atom_nx {b : Nat → Int} {n a : Int} {L : Nat → Int} {iv : Int → Int} (h0 : 0 ≤ a) (hn : n ≤ 240) : zv_atom b n L iv (znx b n a) = zv_atom b n L iv a := by
  unfold zv_atom
  rw [znx_i h0 hn]
theorem zv_list_nx {b : Nat → Int} {n s1 s2 a a1 : Int} {op : Int → Int → Int → Int} {f0 f : Int → Int × Int} {f0v fv : Int → Int} (h : f0 a1 = f0 a) (k : f0v a1 = f0v a) : zv_list b n s1 s2 op f0 f f0v fv a1 = zv_list b n s1 s2 op f0 f f0v fv a := by
  unfold zv_list
  rw [h, k]
theorem zv_sum_nx {b : Nat → Int} {n a : Int} {L : Nat → Int} (d : Nat) (h0 : 0 ≤ a) (hn : n ≤ 240) : zv_sum b n L d (znx b n a) = zv_sum b n L d a := by
  rw [zv_sum_eq]
  exact zv_list_nx (zt_list_nx (zt_atom_nx h0 hn)) (zv_list_nx (zt_atom_nx h0 hn) (zv_atom_nx h0 hn))
theorem zCk_cmp {b : Nat → Int} {n : Int} {d : Nat} {F : zM → Int × zM} {ee dd : Nat} (hF : zCk b n F (zt_sum b n d) (fun _ => []) (fun L => zv_sum b n L d) 0 ee) (l : ee + 1 ≤ dd) (v : (Nat → Int) → Int) : zCk b n (zDcmp F) (zt_cmp b n d) (fun L => [v L]) (fun L a => zv_cmp b n L d (v L) a) 1 dd := by
  intro h T a0 an c0 c1 ok
  have n240 := T.2.2.1
  have w := znx_le (b := b) (n := n) (a := h 1 2) an
  unfold zt_cmp at ok ⊢
  by_cases c : zpk b n (znx b n (h 1 2)) ≠ 61 ∧ zpk b n (znx b n (h 1 2)) ≠ 60 ∧ zpk b n (znx b n (h 1 2)) ≠ 62
  · rw [if_pos c] at ok
    exact absurd rfl ok
  · rw [if_neg c] at ok ⊢
    have lt := zpk_lt (b := b) (n := n) (a := znx b n (h 1 2)) (by omega)
    have em : zm_up (zm_up h 1 2 (znx b n (h 1 2))) 1 2 ((zm_up h 1 2 (znx b n (h 1 2)) 1 2) + 1) = zm_up h 1 2 (znx b n (h 1 2) + 1) := by rw [zm_eq, zm_up2]
    have key := fun (s : Int) (hs : 5 ≤ s ∧ s ≤ 13) => zCk_turn (s := s) (o := 0) (B := fun L => [v L]) (bn := 1) (v := v) hF (zt_sum_g d) l hs T a0 an ⟨c0, c1⟩ (zPt_rf (h := h)) (by show (0 : Int) ≤ _; omega) (fun w q => absurd q (by simp)) (fun L st => rfl) (fun n k _ => ⟨trivial, rfl⟩) (h5 := zm_up h 1 2 (znx b n (h 1 2) + 1)) rfl (by omega) ok
    unfold zDcmp
    rw [zl2_p (zD_nx T a0)]
    by_cases c61 : zpk b n (znx b n (h 1 2)) = 61
    · obtain ⟨h15, h22, C2, d1, d2, d3, d4, d5, d6, d7⟩ := key 9 (by decide)
      refine ⟨h22, C2, ?_, d3, d4, d5, fun L => ?_, d7⟩
      · rw [if_pos c61, if_pos c61, zlt_e em.symm, zl2_p d1, if_neg (show ¬ (1 : Int) = 0 by decide), if_neg (show ¬ zpk b n (znx b n (h 1 2)) = 62 by omega), zl2_p d2, if_neg (show ¬ (1 : Int) = 0 by decide)]
      · show zpu L [v L] C2 (zv_cmp b n L d (v L) (h 1 2))
        unfold zv_cmp zo_c
        rw [if_pos c61]
        exact d6 L
    · by_cases c60 : zpk b n (znx b n (h 1 2)) = 60
      · obtain ⟨h15, h22, C2, d1, d2, d3, d4, d5, d6, d7⟩ := key 10 (by decide)
        refine ⟨h22, C2, ?_, d3, d4, d5, fun L => ?_, d7⟩
        · rw [if_neg c61, if_pos c60, if_neg c61, zlt_e em.symm, zl2_p d1, if_neg (show ¬ (1 : Int) = 0 by decide), if_neg (show ¬ zpk b n (znx b n (h 1 2)) = 62 by omega), zl2_p d2, if_neg (show ¬ (1 : Int) = 0 by decide)]
        · show zpu L [v L] C2 (zv_cmp b n L d (v L) (h 1 2))
          unfold zv_cmp zo_c
          rw [if_neg c61, if_pos c60]
          exact d6 L
      · have c62 : zpk b n (znx b n (h 1 2)) = 62 := by omega
        obtain ⟨h15, h22, C2, d1, d2, d3, d4, d5, d6, d7⟩ := key 11 (by decide)
        refine ⟨h22, C2, ?_, d3, d4, d5, fun L => ?_, d7⟩
        · rw [if_neg c61, if_neg c60, if_pos c62, if_neg c61, zlt_e em.symm, zl2_p d1, if_neg (show ¬ (1 : Int) = 0 by decide), if_pos c62, zl2_p d2, if_neg (show ¬ (1 : Int) = 0 by decide)]
        · show zpu L [v L] C2 (zv_cmp b n L d (v L) (h 1 2))
          unfold zv_cmp zo_c
          rw [if_neg c61, if_neg c60]
          exact d6 L
/-- what stands deeper, from its sign on -/
def zv_dp (b : Nat → Int) (n : Int) (L : Nat → Int) (d : Nat) (sg p : Int) : Int := if sg = 33 then 1 - zv_unit b n L d (p + 1) else zv_conds b n (zt_unit b n d) (zt_unit b n d) (zv_unit b n L d) (zv_unit b n L d) (p + 1)
def zCkd (b : Nat → Int) (n : Int) (d : Nat) (F : Int → zM → Int × zM) (sg : Int) (dd : Nat) : Prop :=
  ∀ h : zM, zTx b n h → 0 ≤ h 1 2 → h 1 2 < n → 0 ≤ h 10 2 → h 10 2 ≤ h 1 2 → (zt_dp b n d sg (h 1 2)).1 ≠ 0 →
    ∃ (h1 : zM) (C : List Int), F sg h = (1, h1) ∧ zPt C h h1 (zt_dp b n d sg (h 1 2)).2 ∧ (C.length : Int) ≤ (zt_dp b n d sg (h 1 2)).2 - h 1 2 ∧ zwo C ∧ (∀ L, zpu L [] C (zv_dp b n L d sg (h 1 2))) ∧ zfi 0 dd C
theorem zCkd_mono {b : Nat → Int} {n sg : Int} {d : Nat} {F : Int → zM → Int × zM} {dd ee : Nat} (h : zCkd b n d F sg dd) (l : dd ≤ ee) : zCkd b n d F sg ee := by
  intro h0 T a0 an c0 c1 ok
  obtain ⟨h1, C, d1, d2, d3, d4, d5, d6⟩ := h h0 T a0 an c0 c1 ok
  exact ⟨h1, C, d1, d2, d3, d4, d5, zfi_up d6 l⟩
theorem zCk_un1 {b : Nat → Int} {n Lv : Int} {d : Nat} {F : zM → Int × zM} {Fd : Int → zM → Int × zM} {ee dd : Nat} (hF : zCk b n F (zt_sum b n d) (fun _ => []) (fun L => zv_sum b n L d) 0 ee) (l : ee + 1 ≤ dd) (v : (Nat → Int) → Int) : zCk b n (D_X10_unit_G_D F Fd 1 Lv) (zt_cmp b n d) (fun L => [v L]) (fun L a => zv_cmp b n L d (v L) a) 1 dd := by
  intro h T a0 an c0 c1 ok
  rw [zD_un1 (by decide)]
  exact zCk_cmp hF l v h T a0 an c0 c1 ok
theorem zCk_un0 {b : Nat → Int} {n Lv : Int} {d : Nat} {F : zM → Int × zM} {Fd : Int → zM → Int × zM} {ee dd : Nat} (hF : zCk b n F (zt_sum b n d) (fun _ => []) (fun L => zv_sum b n L d) 0 ee) (l : ee + 1 ≤ dd) (hd : (d = 0 ∧ Lv = 6) ∨ ∃ q : Nat, d = q + 1 ∧ Lv ≤ 5 ∧ zCkd b n q Fd 33 dd ∧ zCkd b n q Fd 40 dd) : zCk b n (D_X10_unit_G_D F Fd 0 Lv) (zt_unit b n d) (fun _ => []) (fun L => zv_unit b n L d) 0 dd := by
  intro h T a0 an c0 c1 ok
  have n240 := T.2.2.1
  have w := znx_le (b := b) (n := n) (a := h 1 2) an
  have P4 := zPt_nx (h := h) (x := znx b n (h 1 2))
  have T4 := zTx_P T P4
  have e4 : zm_up h 1 2 (znx b n (h 1 2)) 1 2 = znx b n (h 1 2) := zm_eq
  have e10 : zm_up h 1 2 (znx b n (h 1 2)) 10 2 = h 10 2 := zm_ne (Or.inl (by decide))
  rw [zD_un0, zl2_p (zD_nx T a0)]
  generalize hh4 : zm_up h 1 2 (znx b n (h 1 2)) = h4 at P4 T4 e4 e10 ⊢
  by_cases c : zpk b n (znx b n (h 1 2)) = 33 ∨ zpk b n (znx b n (h 1 2)) = 40
  · rcases hd with ⟨hd, _⟩ | ⟨q, hd, hL, k33, k40⟩
    · subst hd
      have e : zt_unit b n 0 (h 1 2) = (0, znx b n (h 1 2)) := if_pos c
      rw [e] at ok
      exact absurd rfl ok
    · subst hd
      have lt := zpk_lt (b := b) (n := n) (a := znx b n (h 1 2)) (by omega)
      have e : zt_unit b n (q + 1) (h 1 2) = zt_dp b n q (zpk b n (znx b n (h 1 2))) (znx b n (h 1 2)) := by
        refine (if_pos c).trans ?_
        unfold zt_deep zt_dp
        rw [zt_co_0, zt_un_0]
      have ev : ∀ L, zv_unit b n L (q + 1) (h 1 2) = zv_dp b n L q (zpk b n (znx b n (h 1 2))) (znx b n (h 1 2)) := by
        intro L
        unfold zv_dp
        by_cases c33 : zpk b n (znx b n (h 1 2)) = 33
        · rw [if_pos c33]
          exact if_pos c33
        · rw [if_neg c33]
          exact (if_neg c33).trans (if_pos (c.resolve_left c33))
      have k : zCkd b n q Fd (zpk b n (znx b n (h 1 2))) dd := by
        rcases c with c | c
        · rw [c]; exact k33
        · rw [c]; exact k40
      rw [e] at ok ⊢
      obtain ⟨h1, C, d1, d2, d3, d4, d5, d6⟩ := k h4 T4 (by omega) (by omega) (by omega) (by omega) (by rw [e4]; exact ok)
      rw [e4] at d2 d3 d5
      have d2' := zPt_tr P4 d2
      rw [List.nil_append] at d2'
      refine ⟨h1, C, ?_, d2', by omega, d4, fun L => ?_, d6⟩
      · by_cases c33 : zpk b n (znx b n (h 1 2)) = 33
        · rw [if_pos c33, if_neg (show ¬ 6 ≤ Lv by omega), zl2_p d1, if_neg (show ¬ (1 : Int) = 0 by decide)]
        · rw [if_neg c33, if_pos (c.resolve_left c33), if_neg (show ¬ 6 ≤ Lv by omega), zl2_p d1, if_neg (show ¬ (1 : Int) = 0 by decide)]
      · show zpu L [] C (zv_unit b n L (q + 1) (h 1 2))
        rw [ev L]
        exact d5 L
  · have e : zt_unit b n d (h 1 2) = if (zt_sum b n d (h 1 2)).1 = 0 then zt_sum b n d (h 1 2) else zt_cmp b n d (zt_sum b n d (h 1 2)).2 := by
      cases d <;> exact if_neg c
    have ev : ∀ L, zv_unit b n L d (h 1 2) = zv_cmp b n L d (zv_sum b n L d (h 1 2)) (zt_sum b n d (h 1 2)).2 := by
      intro L
      cases d with
      | zero => rfl
      | succ q => exact (if_neg (fun z => c (Or.inl z))).trans (if_neg (fun z => c (Or.inr z)))
    have okf : (zt_sum b n d (h 1 2)).1 ≠ 0 := by
      intro z
      rw [e, if_pos z] at ok
      exact ok z
    rw [e, if_neg okf] at ok ⊢
    have enx := zt_sum_nx (b := b) (n := n) (a := h 1 2) d a0 n240
    have vnx : ∀ L, zv_sum b n L d (znx b n (h 1 2)) = zv_sum b n L d (h 1 2) := fun L => zv_sum_nx d a0 n240
    have g1 := zt_sum_g (b := b) (n := n) d (h 1 2) a0 an
    obtain ⟨h27, C, d1, d2, d3, d4, d5, d6⟩ := hF h4 T4 (by omega) (by omega) (by omega) (by omega) (by rw [e4, enx]; exact okf)
    rw [e4, enx] at d2 d3
    rw [e4] at d5
    have P27 := zPt_tr P4 d2
    rw [List.nil_append] at P27
    have T27 := zTx_P T P27
    have e27 : h27 1 2 = (zt_sum b n d (h 1 2)).2 := P27.1.1
    have l27 : h27 10 2 = h 10 2 + C.length := P27.2.1.2
    obtain ⟨h1, D, f1, f2, f3, f4, f5, f6⟩ := zCk_cmp hF l (fun L => zv_sum b n L d (h 1 2)) h27 T27 (by omega) (by omega) (by omega) (by omega) (by rw [e27]; exact ok)
    rw [e27] at f2 f3 f5
    refine ⟨h1, C ++ D, ?_, zPt_tr P27 f2, ?_, zwo_app d4 f4, fun L => ?_, zfi_app (zfi_up d6 (by omega)) f6⟩
    · rw [if_neg (fun z => c (Or.inl z)), if_neg (fun z => c (Or.inr z)), zl2_p d1, if_neg (show ¬ (1 : Int) = 0 by decide)]
      exact f1
    · rw [List.length_append]
      omega
    · show zpu L [] (C ++ D) (zv_unit b n L d (h 1 2))
      rw [ev L]
      have q : zpu L [] C (zv_sum b n L d (znx b n (h 1 2))) := d5 L
      rw [vnx L] at q
      exact zpu_app q (f5 L)
theorem zCk_tr_l {b : Nat → Int} {n bg Lv : Int} {F : Int → zM → Int × zM} {f : Int → Int × Int} {fv : (Nat → Int) → Int → Int} {B : (Nat → Int) → List Int} {bn dd ee : Nat} (hF : zCk b n (F 0) f (fun _ => []) fv 0 ee) (hg : zgd n f) (l : ee + 1 ≤ dd) {h0 : zM} (T : zTx b n h0) (a0 : 0 ≤ h0 1 2) (an : h0 1 2 ≤ n) (c0 : 0 ≤ h0 10 2 ∧ h0 10 2 ≤ h0 1 2) :
    ∀ (k : Nat) (x3 : Int) (h : zM) (C : List Int) (v : (Nat → Int) → Int), 240 - x3 < k → x3 < h 1 2 - h0 1 2 → h 1 2 ≤ n → zPt C h0 h (h 1 2) → (C.length : Int) ≤ h 1 2 - h0 1 2 → zwo C → (∀ L, zpu L (B L) C (v L)) → zfi bn dd C → (zt_loop b n 38 38 f 241 (h 1 2)).1 ≠ 0 →
      ∃ (h1 : zM) (C1 : List Int), DL_X10_truths_G_D_13 F bg Lv (fun _ q => (1, q)) k x3 h = (1, h1) ∧ zPt C1 h0 h1 (zt_loop b n 38 38 f 241 (h 1 2)).2 ∧ (C1.length : Int) ≤ (zt_loop b n 38 38 f 241 (h 1 2)).2 - h0 1 2 ∧ zwo C1 ∧ (∀ L, zpu L (B L) C1 (zv_loop b n 38 38 zo_a f (fv L) 241 (h 1 2) (v L))) ∧ zfi bn dd C1 := by
  intro k
  induction k with
  | zero =>
    intro x3 h C v hk hx hn
    have := T.2.2.1
    exact absurd hk (by omega)
  | succ k ih =>
    intro x3 h C v hk hx hn P lC wC vC fC ok
    have n240 := T.2.2.1
    have Th := zTx_P T P
    have ap : 0 ≤ h 1 2 := by omega
    have w := znx_le (b := b) (n := n) (a := h 1 2) hn
    have hs0 : (38 : Int) ≠ -1 ∧ (38 : Int) ≠ -1 := by decide
    rw [zt_loop_e hs0 hg ap hn n240] at ok ⊢
    have ev : ∀ L, zv_loop b n 38 38 zo_a f (fv L) 241 (h 1 2) (v L) = _ := fun L => zv_loop_e hs0 hg ap hn n240
    have tf := ztk_f b n 38 (h 1 2)
    simp only [DL_X10_truths_G_D_13]
    rw [if_neg (show ¬ 240 ≤ x3 by omega), zl2_p (zD_tk (s := 38) Th ap)]
    by_cases c : zpk b n (znx b n (h 1 2)) = 38
    · have c2 : ¬ (zpk b n (znx b n (h 1 2)) ≠ 38 ∧ zpk b n (znx b n (h 1 2)) ≠ 38) := by omega
      rw [if_neg c2] at ok ⊢
      have lt := zpk_lt (b := b) (n := n) (a := znx b n (h 1 2)) (by omega)
      have hg1 := hg (znx b n (h 1 2) + 1) (by omega) (by omega)
      have okf : (f (znx b n (h 1 2) + 1)).1 ≠ 0 := by
        intro z
        rw [if_pos z] at ok
        exact ok z
      rw [if_neg okf] at ok ⊢
      obtain ⟨h15, h22, C2, d1, d2, d3, d4, d5, d6, d7⟩ := zCk_turn (s := 12) (o := 0) hF hg l (by decide) T a0 an c0 P lC wC vC fC (h5 := zm_up h 1 2 (znx b n (h 1 2) + 1)) rfl (by omega) okf
      rw [(tf.1 c).1, (tf.1 c).2, if_neg (show ¬ (1 : Int) = 0 by decide), zl2_p d1, if_neg (show ¬ (1 : Int) = 0 by decide), zl2_p d2]
      have e12 : h22 1 2 = (f (znx b n (h 1 2) + 1)).2 := d3.1.1
      rw [← e12] at d3 d4 ok ⊢
      obtain ⟨h1, C1, i1, i2, i3, i4, i5, i6⟩ := ih (x3 + 1) h22 C2 (fun L => zop 12 (v L) (fv L (znx b n (h 1 2) + 1))) (by omega) (by omega) (by omega) d3 d4 d5 d6 d7 ok
      refine ⟨h1, C1, i1, i2, i3, i4, fun L => ?_, i6⟩
      rw [ev L, if_neg c2, ← e12]
      exact i5 L
    · have c2 : zpk b n (znx b n (h 1 2)) ≠ 38 ∧ zpk b n (znx b n (h 1 2)) ≠ 38 := ⟨c, c⟩
      rw [if_pos c2, (tf.2 c).1, (tf.2 c).2, if_pos rfl]
      refine ⟨_, C, rfl, ?_, ?_, wC, fun L => ?_, fC⟩
      · have q := zPt_tr P (zPt_nx (h := h) (x := znx b n (h 1 2)))
        rw [List.append_nil] at q
        exact q
      · show (C.length : Int) ≤ znx b n (h 1 2) - h0 1 2
        omega
      · rw [ev L, if_pos c2]
        exact vC L
theorem zCk_tr {b : Nat → Int} {n bg Lv : Int} {F : Int → zM → Int × zM} {f0 f : Int → Int × Int} {B : (Nat → Int) → List Int} {fv0 fv : (Nat → Int) → Int → Int} {bn dd ee : Nat} (h0 : zCk b n (F bg) f0 B fv0 bn dd) (hF : zCk b n (F 0) f (fun _ => []) fv 0 ee) (g0 : zgd n f0) (hg : zgd n f) (l : ee + 1 ≤ dd) : zCk b n (D_X10_truths_G_D F bg Lv) (zt_list b n 38 38 f0 f) B (fun L => zv_list b n 38 38 zo_a f0 f (fv0 L) (fv L)) bn dd := by
  intro h T a0 an c0 c1 ok
  unfold zt_list at ok ⊢
  have okf : (f0 (h 1 2)).1 ≠ 0 := by
    intro z
    rw [if_pos z] at ok
    exact ok z
  rw [if_neg okf] at ok ⊢
  obtain ⟨h57, C, d1, d2, d3, d4, d5, d6⟩ := h0 h T a0 an c0 c1 okf
  have g1 := g0 (h 1 2) a0 an
  have g2 := g1.2.2 okf
  have e12 : h57 1 2 = (f0 (h 1 2)).2 := d2.1.1
  unfold D_X10_truths_G_D
  rw [zl2_p d1, if_neg (show ¬ (1 : Int) = 0 by decide)]
  rw [← e12] at d2 d3 ok ⊢
  obtain ⟨h1, C1, i1, i2, i3, i4, i5, i6⟩ := zCk_tr_l (bg := bg) (Lv := Lv) (B := B) (bn := bn) hF hg l T a0 an ⟨c0, c1⟩ ((240 - (0 : Int)).toNat + 1) 0 h57 C (fun L => fv0 L (h 1 2)) (by omega) (by omega) (by omega) d2 d3 d4 d5 d6 ok
  refine ⟨h1, C1, i1, i2, i3, i4, fun L => ?_, i6⟩
  have q := i5 L
  rw [e12] at q
  exact q
theorem zCk_co_l {b : Nat → Int} {n bg Lv : Int} {F : Int → zM → Int × zM} {f : Int → Int × Int} {fv : (Nat → Int) → Int → Int} {B : (Nat → Int) → List Int} {bn dd ee : Nat} (hF : zCk b n (F 0) f (fun _ => []) fv 0 ee) (hg : zgd n f) (l : ee + 1 ≤ dd) {h0 : zM} (T : zTx b n h0) (a0 : 0 ≤ h0 1 2) (an : h0 1 2 ≤ n) (c0 : 0 ≤ h0 10 2 ∧ h0 10 2 ≤ h0 1 2) :
    ∀ (k : Nat) (x3 : Int) (h : zM) (C : List Int) (v : (Nat → Int) → Int), 240 - x3 < k → x3 < h 1 2 - h0 1 2 → h 1 2 ≤ n → zPt C h0 h (h 1 2) → (C.length : Int) ≤ h 1 2 - h0 1 2 → zwo C → (∀ L, zpu L (B L) C (v L)) → zfi bn dd C → (zt_loop b n 124 124 f 241 (h 1 2)).1 ≠ 0 →
      ∃ (h1 : zM) (C1 : List Int), DL_X10_condition_G_D_13 F bg Lv (fun _ q => (1, q)) k x3 h = (1, h1) ∧ zPt C1 h0 h1 (zt_loop b n 124 124 f 241 (h 1 2)).2 ∧ (C1.length : Int) ≤ (zt_loop b n 124 124 f 241 (h 1 2)).2 - h0 1 2 ∧ zwo C1 ∧ (∀ L, zpu L (B L) C1 (zv_loop b n 124 124 zo_o f (fv L) 241 (h 1 2) (v L))) ∧ zfi bn dd C1 := by
  intro k
  induction k with
  | zero =>
    intro x3 h C v hk hx hn
    have := T.2.2.1
    exact absurd hk (by omega)
  | succ k ih =>
    intro x3 h C v hk hx hn P lC wC vC fC ok
    have n240 := T.2.2.1
    have Th := zTx_P T P
    have ap : 0 ≤ h 1 2 := by omega
    have w := znx_le (b := b) (n := n) (a := h 1 2) hn
    have hs0 : (124 : Int) ≠ -1 ∧ (124 : Int) ≠ -1 := by decide
    rw [zt_loop_e hs0 hg ap hn n240] at ok ⊢
    have ev : ∀ L, zv_loop b n 124 124 zo_o f (fv L) 241 (h 1 2) (v L) = _ := fun L => zv_loop_e hs0 hg ap hn n240
    have tf := ztk_f b n 124 (h 1 2)
    simp only [DL_X10_condition_G_D_13]
    rw [if_neg (show ¬ 240 ≤ x3 by omega), zl2_p (zD_tk (s := 124) Th ap)]
    by_cases c : zpk b n (znx b n (h 1 2)) = 124
    · have c2 : ¬ (zpk b n (znx b n (h 1 2)) ≠ 124 ∧ zpk b n (znx b n (h 1 2)) ≠ 124) := by omega
      rw [if_neg c2] at ok ⊢
      have lt := zpk_lt (b := b) (n := n) (a := znx b n (h 1 2)) (by omega)
      have hg1 := hg (znx b n (h 1 2) + 1) (by omega) (by omega)
      have okf : (f (znx b n (h 1 2) + 1)).1 ≠ 0 := by
        intro z
        rw [if_pos z] at ok
        exact ok z
      rw [if_neg okf] at ok ⊢
      obtain ⟨h15, h22, C2, d1, d2, d3, d4, d5, d6, d7⟩ := zCk_turn (s := 13) (o := 0) hF hg l (by decide) T a0 an c0 P lC wC vC fC (h5 := zm_up h 1 2 (znx b n (h 1 2) + 1)) rfl (by omega) okf
      rw [(tf.1 c).1, (tf.1 c).2, if_neg (show ¬ (1 : Int) = 0 by decide), zl2_p d1, if_neg (show ¬ (1 : Int) = 0 by decide), zl2_p d2]
      have e12 : h22 1 2 = (f (znx b n (h 1 2) + 1)).2 := d3.1.1
      rw [← e12] at d3 d4 ok ⊢
      obtain ⟨h1, C1, i1, i2, i3, i4, i5, i6⟩ := ih (x3 + 1) h22 C2 (fun L => zop 13 (v L) (fv L (znx b n (h 1 2) + 1))) (by omega) (by omega) (by omega) d3 d4 d5 d6 d7 ok
      refine ⟨h1, C1, i1, i2, i3, i4, fun L => ?_, i6⟩
      rw [ev L, if_neg c2, ← e12]
      exact i5 L
    · have c2 : zpk b n (znx b n (h 1 2)) ≠ 124 ∧ zpk b n (znx b n (h 1 2)) ≠ 124 := ⟨c, c⟩
      rw [if_pos c2, (tf.2 c).1, (tf.2 c).2, if_pos rfl]
      refine ⟨_, C, rfl, ?_, ?_, wC, fun L => ?_, fC⟩
      · have q := zPt_tr P (zPt_nx (h := h) (x := znx b n (h 1 2)))
        rw [List.append_nil] at q
        exact q
      · show (C.length : Int) ≤ znx b n (h 1 2) - h0 1 2
        omega
      · rw [ev L, if_pos c2]
        exact vC L
theorem zCk_co {b : Nat → Int} {n bg Lv : Int} {F : Int → zM → Int × zM} {f0 f : Int → Int × Int} {B : (Nat → Int) → List Int} {fv0 fv : (Nat → Int) → Int → Int} {bn dd ee : Nat} (h0 : zCk b n (F bg) f0 B fv0 bn dd) (hF : zCk b n (F 0) f (fun _ => []) fv 0 ee) (g0 : zgd n f0) (hg : zgd n f) (l : ee + 1 ≤ dd) : zCk b n (D_X10_condition_G_D F bg Lv) (zt_list b n 124 124 f0 f) B (fun L => zv_list b n 124 124 zo_o f0 f (fv0 L) (fv L)) bn dd := by
  intro h T a0 an c0 c1 ok
  unfold zt_list at ok ⊢
  have okf : (f0 (h 1 2)).1 ≠ 0 := by
    intro z
    rw [if_pos z] at ok
    exact ok z
  rw [if_neg okf] at ok ⊢
  obtain ⟨h57, C, d1, d2, d3, d4, d5, d6⟩ := h0 h T a0 an c0 c1 okf
  have g1 := g0 (h 1 2) a0 an
  have g2 := g1.2.2 okf
  have e12 : h57 1 2 = (f0 (h 1 2)).2 := d2.1.1
  unfold D_X10_condition_G_D
  rw [zl2_p d1, if_neg (show ¬ (1 : Int) = 0 by decide)]
  rw [← e12] at d2 d3 ok ⊢
  obtain ⟨h1, C1, i1, i2, i3, i4, i5, i6⟩ := zCk_co_l (bg := bg) (Lv := Lv) (B := B) (bn := bn) hF hg l T a0 an ⟨c0, c1⟩ ((240 - (0 : Int)).toNat + 1) 0 h57 C (fun L => fv0 L (h 1 2)) (by omega) (by omega) (by omega) d2 d3 d4 d5 d6 ok
  refine ⟨h1, C1, i1, i2, i3, i4, fun L => ?_, i6⟩
  have q := i5 L
  rw [e12] at q
  exact q
theorem zCk_con {b : Nat → Int} {n bg Lv : Int} {Fu : Int → zM → Int × zM} {f0 f : Int → Int × Int} {B : (Nat → Int) → List Int} {fv0 fv : (Nat → Int) → Int → Int} {bn e : Nat} (h0 : zCk b n (Fu bg) f0 B fv0 bn e) (hU : zCk b n (Fu 0) f (fun _ => []) fv 0 e) (g0 : zgd n f0) (g : zgd n f) : zCk b n (D_X10_condition_G_D (fun bg h => D_X10_truths_G_D Fu bg Lv h) bg Lv) (zt_conds b n f0 f) B (fun L => zv_conds b n f0 f (fv0 L) (fv L)) bn (e + 2) :=
  zCk_co (F := fun bg h => D_X10_truths_G_D Fu bg Lv h) (ee := e + 1) (zCk_tr (zCk_mono h0 (by omega)) hU g0 g (by omega)) (zCk_tr (zCk_mono hU (by omega)) hU g g (by omega)) (zt_list_g (by decide) g0 g) (zt_list_g (by decide) g g) (by omega)
theorem zCkd_33 {b : Nat → Int} {n Lv : Int} {d : Nat} {Fu Fc : Int → zM → Int × zM} {e : Nat} (hU : zCk b n (Fu 0) (zt_unit b n d) (fun _ => []) (fun L => zv_unit b n L d) 0 e) : zCkd b n d (fun sg h => D_X10_deeperUnit_G_D Fu Fc sg Lv h) 33 e := by
  intro h T a0 an c0 c1 ok
  have n240 := T.2.2.1
  have P4 := zPt_nx (h := h) (x := h 1 2 + 1)
  have T4 := zTx_P T P4
  have e4 : zm_up h 1 2 (h 1 2 + 1) 1 2 = h 1 2 + 1 := zm_eq
  have e10 : zm_up h 1 2 (h 1 2 + 1) 10 2 = h 10 2 := zm_ne (Or.inl (by decide))
  have e : zt_dp b n d 33 (h 1 2) = zt_unit b n d (h 1 2 + 1) := (if_pos rfl).trans (if_pos rfl)
  rw [e] at ok ⊢
  have g1 := zt_unit_g (b := b) (n := n) d (h 1 2 + 1) (by omega) (by omega)
  obtain ⟨h12, C, d1, d2, d3, d4, d5, d6⟩ := hU _ T4 (by omega) (by omega) (by omega) (by omega) (by rw [e4]; exact ok)
  rw [e4] at d2 d3 d5
  have P12 := zPt_tr P4 d2
  rw [List.nil_append] at P12
  have l12 : h12 10 2 = h 10 2 + C.length := P12.2.1.2
  have e12 : h12 1 2 = (zt_unit b n d (h 1 2 + 1)).2 := P12.1.1
  obtain ⟨h18, f1, f2⟩ := zPt_em (s := 4) (o := 0) (h := h12) (by decide) (by decide) (by omega) (Or.inl (by unfold zwd; omega))
  rw [e12] at f2
  refine ⟨h18, C ++ [zwd 4 0], ?_, zPt_tr P12 f2, ?_, zwo_app d4 (zwo_1 (by decide) (by decide)), fun L => ?_, zfi_1 d6⟩
  · show D_X10_deeperUnit_G_D Fu Fc 33 Lv h = _
    unfold D_X10_deeperUnit_G_D
    rw [zlt_e (rfl : zm_up h 1 2 (h 1 2 + 1) = _), if_pos rfl, zl2_p d1, if_neg (show ¬ (1 : Int) = 0 by decide), zl2_p f1, if_neg (show ¬ (1 : Int) = 0 by decide)]
  · rw [List.length_append]
    show ((C.length + 1 : Nat) : Int) ≤ _
    omega
  · have ev : zv_dp b n L d 33 (h 1 2) = 1 - zv_unit b n L d (h 1 2 + 1) := if_pos rfl
    rw [ev]
    exact zpu_1 (d5 L)
theorem zCkd_40 {b : Nat → Int} {n Lv : Int} {d : Nat} {Fu Fc : Int → zM → Int × zM} {e : Nat} (hC : zCk b n (Fc 0) (zt_conds b n (zt_unit b n d) (zt_unit b n d)) (fun _ => []) (fun L => zv_conds b n (zt_unit b n d) (zt_unit b n d) (zv_unit b n L d) (zv_unit b n L d)) 0 e) : zCkd b n d (fun sg h => D_X10_deeperUnit_G_D Fu Fc sg Lv h) 40 e := by
  intro h T a0 an c0 c1 ok
  have n240 := T.2.2.1
  have P4 := zPt_nx (h := h) (x := h 1 2 + 1)
  have T4 := zTx_P T P4
  have e4 : zm_up h 1 2 (h 1 2 + 1) 1 2 = h 1 2 + 1 := zm_eq
  have e10 : zm_up h 1 2 (h 1 2 + 1) 10 2 = h 10 2 := zm_ne (Or.inl (by decide))
  have e : zt_dp b n d 40 (h 1 2) = if (zt_co b n d 0 (h 1 2 + 1)).1 = 0 then zt_co b n d 0 (h 1 2 + 1) else ztk b n 41 (zt_co b n d 0 (h 1 2 + 1)).2 := if_neg (by decide)
  rw [zt_co_0] at hC
  have okf : (zt_co b n d 0 (h 1 2 + 1)).1 ≠ 0 := by
    intro z
    rw [e, if_pos z] at ok
    exact ok z
  rw [e, if_neg okf] at ok ⊢
  have g1 := zt_co_g (b := b) (n := n) d 0 (h 1 2 + 1) (by omega) (by omega)
  obtain ⟨h12, C, d1, d2, d3, d4, d5, d6⟩ := hC _ T4 (by omega) (by omega) (by omega) (by omega) (by rw [e4]; exact okf)
  rw [e4] at d2 d3 d5
  have P12 := zPt_tr P4 d2
  rw [List.nil_append] at P12
  have T12 := zTx_P T P12
  have e12 : h12 1 2 = (zt_co b n d 0 (h 1 2 + 1)).2 := P12.1.1
  have tk := zD_tk (s := 41) T12 (by omega)
  rw [e12] at tk
  have tf := ztk_f b n 41 (zt_co b n d 0 (h 1 2 + 1)).2
  have c41 : zpk b n (znx b n (zt_co b n d 0 (h 1 2 + 1)).2) = 41 := by
    by_cases q : zpk b n (znx b n (zt_co b n d 0 (h 1 2 + 1)).2) = 41
    · exact q
    · exact absurd (tf.2 q).1 ok
  rw [(tf.1 c41).1] at tk
  have g2 := ztk_g (b := b) (n := n) (s := 41) (by decide) (zt_co b n d 0 (h 1 2 + 1)).2 (by omega) (by omega)
  have P33 := zPt_tr P12 (zPt_nx (h := h12) (x := (ztk b n 41 (zt_co b n d 0 (h 1 2 + 1)).2).2))
  rw [List.append_nil] at P33
  refine ⟨_, C, ?_, P33, by omega, d4, fun L => ?_, d6⟩
  · show D_X10_deeperUnit_G_D Fu Fc 40 Lv h = _
    unfold D_X10_deeperUnit_G_D
    rw [zlt_e (rfl : zm_up h 1 2 (h 1 2 + 1) = _), if_neg (show ¬ (40 : Int) = 33 by decide), zl2_p d1, if_neg (show ¬ (1 : Int) = 0 by decide), zl2_p tk, if_neg (show ¬ (1 : Int) = 0 by decide)]
  · have ev : zv_dp b n L d 40 (h 1 2) = zv_conds b n (zt_unit b n d) (zt_unit b n d) (zv_unit b n L d) (zv_unit b n L d) (h 1 2 + 1) := if_neg (by decide)
    rw [ev]
    exact d5 L
theorem zCk_s {b : Nat → Int} {n Lv : Int} {d : Nat} {F : zM → Int × zM} {ee : Nat} (h : zCk b n F (zt_atom b n (zt_in b n d)) (fun _ => []) (fun L => zv_atom b n L (zv_in b n L d)) 0 ee) : zCk b n (D_X10_sum_G_D (fun h => D_X10_term_G_D F Lv h) Lv) (zt_sum b n d) (fun _ => []) (fun L => zv_sum b n L d) 0 (ee + 2) := by
  have g : zgd n (zt_atom b n (zt_in b n d)) := zt_atom_g (fun q hq => by
    cases d with
    | zero => exact absurd hq (by unfold zt_in; exact fun z => by cases z)
    | succ d =>
      have : q = zt_sum b n d := by
        unfold zt_in at hq
        exact (Option.some.inj hq).symm
      subst this
      exact zt_sum_g d)
  rw [zt_sum_eq, show (fun L => zv_sum b n L d) = (fun L => zv_list b n 43 45 zo_s (zt_term b n (zt_in b n d)) (zt_term b n (zt_in b n d)) (zv_term b n L (zt_in b n d) (zv_in b n L d)) (zv_term b n L (zt_in b n d) (zv_in b n L d))) from funext fun L => zv_sum_eq b n L d]
  exact zCk_sum (F := fun h => D_X10_term_G_D F Lv h) (ee := ee + 1) (zCk_term h g (by omega)) (zt_list_g (by decide) g g) (by omega)
theorem zCk_S6 {b : Nat → Int} {n : Int} : zCk b n D_X10_sum_L6_D (zt_sum b n 0) (fun _ => []) (fun L => zv_sum b n L 0) 0 3 := zCk_s (d := 0) (Lv := 6) (zCk_atom (Lv := 6) (inner := zt_in b n 0) (dd := 1) (by decide) (Or.inl ⟨rfl, rfl⟩))
theorem zCk_U6 {b : Nat → Int} {n : Int} : zCk b n (D_X10_unit_L6_D 0) (zt_unit b n 0) (fun _ => []) (fun L => zv_unit b n L 0) 0 4 := zCk_un0 (Lv := 6) zCk_S6 (by decide) (Or.inl ⟨rfl, rfl⟩)
theorem zCk_K6 {b : Nat → Int} {n : Int} : zCk b n (D_X10_condition_L6_D 0) (zt_conds b n (zt_unit b n 0) (zt_unit b n 0)) (fun _ => []) (fun L => zv_conds b n (zt_unit b n 0) (zt_unit b n 0) (zv_unit b n L 0) (zv_unit b n L 0)) 0 6 := zCk_con (Fu := D_X10_unit_L6_D) (bg := 0) (Lv := 6) zCk_U6 zCk_U6 (zt_unit_g 0) (zt_unit_g 0)
theorem zCk_D6 {b : Nat → Int} {n : Int} : zCkd b n 0 D_X10_deeperUnit_L6_D 33 6 ∧ zCkd b n 0 D_X10_deeperUnit_L6_D 40 6 := ⟨zCkd_mono (zCkd_33 (Fu := D_X10_unit_L6_D) (Fc := D_X10_condition_L6_D) (Lv := 6) zCk_U6) (by decide), zCkd_40 (Fu := D_X10_unit_L6_D) (Fc := D_X10_condition_L6_D) (Lv := 6) zCk_K6⟩
theorem zCk_S5 {b : Nat → Int} {n : Int} : zCk b n D_X10_sum_L5_D (zt_sum b n 1) (fun _ => []) (fun L => zv_sum b n L 1) 0 5 := zCk_s (d := 1) (Lv := 5) (zCk_atom (Lv := 5) (inner := zt_in b n 1) (dd := 3) (by decide) (Or.inr ⟨zt_sum b n 0, rfl, by decide, zCk_S6, zt_sum_g 0⟩))
theorem zCk_U5 {b : Nat → Int} {n : Int} : zCk b n (D_X10_unit_L5_D 0) (zt_unit b n 1) (fun _ => []) (fun L => zv_unit b n L 1) 0 6 := zCk_un0 (Lv := 5) zCk_S5 (by decide) (Or.inr ⟨0, rfl, by decide, (zCk_D6).1, (zCk_D6).2⟩)
theorem zCk_K5 {b : Nat → Int} {n : Int} : zCk b n (D_X10_condition_L5_D 0) (zt_conds b n (zt_unit b n 1) (zt_unit b n 1)) (fun _ => []) (fun L => zv_conds b n (zt_unit b n 1) (zt_unit b n 1) (zv_unit b n L 1) (zv_unit b n L 1)) 0 8 := zCk_con (Fu := D_X10_unit_L5_D) (bg := 0) (Lv := 5) zCk_U5 zCk_U5 (zt_unit_g 1) (zt_unit_g 1)
theorem zCk_D5 {b : Nat → Int} {n : Int} : zCkd b n 1 D_X10_deeperUnit_L5_D 33 8 ∧ zCkd b n 1 D_X10_deeperUnit_L5_D 40 8 := ⟨zCkd_mono (zCkd_33 (Fu := D_X10_unit_L5_D) (Fc := D_X10_condition_L5_D) (Lv := 5) zCk_U5) (by decide), zCkd_40 (Fu := D_X10_unit_L5_D) (Fc := D_X10_condition_L5_D) (Lv := 5) zCk_K5⟩
theorem zCk_S4 {b : Nat → Int} {n : Int} : zCk b n D_X10_sum_L4_D (zt_sum b n 2) (fun _ => []) (fun L => zv_sum b n L 2) 0 7 := zCk_s (d := 2) (Lv := 4) (zCk_atom (Lv := 4) (inner := zt_in b n 2) (dd := 5) (by decide) (Or.inr ⟨zt_sum b n 1, rfl, by decide, zCk_S5, zt_sum_g 1⟩))
theorem zCk_U4 {b : Nat → Int} {n : Int} : zCk b n (D_X10_unit_L4_D 0) (zt_unit b n 2) (fun _ => []) (fun L => zv_unit b n L 2) 0 8 := zCk_un0 (Lv := 4) zCk_S4 (by decide) (Or.inr ⟨1, rfl, by decide, (zCk_D5).1, (zCk_D5).2⟩)
theorem zCk_K4 {b : Nat → Int} {n : Int} : zCk b n (D_X10_condition_L4_D 0) (zt_conds b n (zt_unit b n 2) (zt_unit b n 2)) (fun _ => []) (fun L => zv_conds b n (zt_unit b n 2) (zt_unit b n 2) (zv_unit b n L 2) (zv_unit b n L 2)) 0 10 := zCk_con (Fu := D_X10_unit_L4_D) (bg := 0) (Lv := 4) zCk_U4 zCk_U4 (zt_unit_g 2) (zt_unit_g 2)
theorem zCk_D4 {b : Nat → Int} {n : Int} : zCkd b n 2 D_X10_deeperUnit_L4_D 33 10 ∧ zCkd b n 2 D_X10_deeperUnit_L4_D 40 10 := ⟨zCkd_mono (zCkd_33 (Fu := D_X10_unit_L4_D) (Fc := D_X10_condition_L4_D) (Lv := 4) zCk_U4) (by decide), zCkd_40 (Fu := D_X10_unit_L4_D) (Fc := D_X10_condition_L4_D) (Lv := 4) zCk_K4⟩
theorem zCk_S3 {b : Nat → Int} {n : Int} : zCk b n D_X10_sum_L3_D (zt_sum b n 3) (fun _ => []) (fun L => zv_sum b n L 3) 0 9 := zCk_s (d := 3) (Lv := 3) (zCk_atom (Lv := 3) (inner := zt_in b n 3) (dd := 7) (by decide) (Or.inr ⟨zt_sum b n 2, rfl, by decide, zCk_S4, zt_sum_g 2⟩))
theorem zCk_U3 {b : Nat → Int} {n : Int} : zCk b n (D_X10_unit_L3_D 0) (zt_unit b n 3) (fun _ => []) (fun L => zv_unit b n L 3) 0 10 := zCk_un0 (Lv := 3) zCk_S3 (by decide) (Or.inr ⟨2, rfl, by decide, (zCk_D4).1, (zCk_D4).2⟩)
theorem zCk_K3 {b : Nat → Int} {n : Int} : zCk b n (D_X10_condition_L3_D 0) (zt_conds b n (zt_unit b n 3) (zt_unit b n 3)) (fun _ => []) (fun L => zv_conds b n (zt_unit b n 3) (zt_unit b n 3) (zv_unit b n L 3) (zv_unit b n L 3)) 0 12 := zCk_con (Fu := D_X10_unit_L3_D) (bg := 0) (Lv := 3) zCk_U3 zCk_U3 (zt_unit_g 3) (zt_unit_g 3)
theorem zCk_D3 {b : Nat → Int} {n : Int} : zCkd b n 3 D_X10_deeperUnit_L3_D 33 12 ∧ zCkd b n 3 D_X10_deeperUnit_L3_D 40 12 := ⟨zCkd_mono (zCkd_33 (Fu := D_X10_unit_L3_D) (Fc := D_X10_condition_L3_D) (Lv := 3) zCk_U3) (by decide), zCkd_40 (Fu := D_X10_unit_L3_D) (Fc := D_X10_condition_L3_D) (Lv := 3) zCk_K3⟩
theorem zCk_S2 {b : Nat → Int} {n : Int} : zCk b n D_X10_sum_L2_D (zt_sum b n 4) (fun _ => []) (fun L => zv_sum b n L 4) 0 11 := zCk_s (d := 4) (Lv := 2) (zCk_atom (Lv := 2) (inner := zt_in b n 4) (dd := 9) (by decide) (Or.inr ⟨zt_sum b n 3, rfl, by decide, zCk_S3, zt_sum_g 3⟩))
theorem zCk_U2 {b : Nat → Int} {n : Int} : zCk b n (D_X10_unit_L2_D 0) (zt_unit b n 4) (fun _ => []) (fun L => zv_unit b n L 4) 0 12 := zCk_un0 (Lv := 2) zCk_S2 (by decide) (Or.inr ⟨3, rfl, by decide, (zCk_D3).1, (zCk_D3).2⟩)
theorem zCk_K2 {b : Nat → Int} {n : Int} : zCk b n (D_X10_condition_L2_D 0) (zt_conds b n (zt_unit b n 4) (zt_unit b n 4)) (fun _ => []) (fun L => zv_conds b n (zt_unit b n 4) (zt_unit b n 4) (zv_unit b n L 4) (zv_unit b n L 4)) 0 14 := zCk_con (Fu := D_X10_unit_L2_D) (bg := 0) (Lv := 2) zCk_U2 zCk_U2 (zt_unit_g 4) (zt_unit_g 4)
theorem zCk_D2 {b : Nat → Int} {n : Int} : zCkd b n 4 D_X10_deeperUnit_L2_D 33 14 ∧ zCkd b n 4 D_X10_deeperUnit_L2_D 40 14 := ⟨zCkd_mono (zCkd_33 (Fu := D_X10_unit_L2_D) (Fc := D_X10_condition_L2_D) (Lv := 2) zCk_U2) (by decide), zCkd_40 (Fu := D_X10_unit_L2_D) (Fc := D_X10_condition_L2_D) (Lv := 2) zCk_K2⟩
theorem zCk_S1 {b : Nat → Int} {n : Int} : zCk b n D_X10_sum_L1_D (zt_sum b n 5) (fun _ => []) (fun L => zv_sum b n L 5) 0 13 := zCk_s (d := 5) (Lv := 1) (zCk_atom (Lv := 1) (inner := zt_in b n 5) (dd := 11) (by decide) (Or.inr ⟨zt_sum b n 4, rfl, by decide, zCk_S2, zt_sum_g 4⟩))
theorem zCk_U1 {b : Nat → Int} {n : Int} : zCk b n (D_X10_unit_L1_D 0) (zt_unit b n 5) (fun _ => []) (fun L => zv_unit b n L 5) 0 14 := zCk_un0 (Lv := 1) zCk_S1 (by decide) (Or.inr ⟨4, rfl, by decide, (zCk_D2).1, (zCk_D2).2⟩)
theorem zCk_K1 {b : Nat → Int} {n : Int} : zCk b n (D_X10_condition_L1_D 0) (zt_conds b n (zt_unit b n 5) (zt_unit b n 5)) (fun _ => []) (fun L => zv_conds b n (zt_unit b n 5) (zt_unit b n 5) (zv_unit b n L 5) (zv_unit b n L 5)) 0 16 := zCk_con (Fu := D_X10_unit_L1_D) (bg := 0) (Lv := 1) zCk_U1 zCk_U1 (zt_unit_g 5) (zt_unit_g 5)
theorem zCk_D1 {b : Nat → Int} {n : Int} : zCkd b n 5 D_X10_deeperUnit_L1_D 33 16 ∧ zCkd b n 5 D_X10_deeperUnit_L1_D 40 16 := ⟨zCkd_mono (zCkd_33 (Fu := D_X10_unit_L1_D) (Fc := D_X10_condition_L1_D) (Lv := 1) zCk_U1) (by decide), zCkd_40 (Fu := D_X10_unit_L1_D) (Fc := D_X10_condition_L1_D) (Lv := 1) zCk_K1⟩
theorem zCk_S0 {b : Nat → Int} {n : Int} : zCk b n D_X10_sum_L0_D (zt_sum b n 6) (fun _ => []) (fun L => zv_sum b n L 6) 0 15 := zCk_s (d := 6) (Lv := 0) (zCk_atom (Lv := 0) (inner := zt_in b n 6) (dd := 13) (by decide) (Or.inr ⟨zt_sum b n 5, rfl, by decide, zCk_S1, zt_sum_g 5⟩))
theorem zCk_U0 {b : Nat → Int} {n : Int} : zCk b n (D_X10_unit_L0_D 0) (zt_unit b n 6) (fun _ => []) (fun L => zv_unit b n L 6) 0 16 := zCk_un0 (Lv := 0) zCk_S0 (by decide) (Or.inr ⟨5, rfl, by decide, (zCk_D1).1, (zCk_D1).2⟩)
theorem zCk_K0 {b : Nat → Int} {n : Int} : zCk b n (D_X10_condition_L0_D 0) (zt_conds b n (zt_unit b n 6) (zt_unit b n 6)) (fun _ => []) (fun L => zv_conds b n (zt_unit b n 6) (zt_unit b n 6) (zv_unit b n L 6) (zv_unit b n L 6)) 0 18 := zCk_con (Fu := D_X10_unit_L0_D) (bg := 0) (Lv := 0) zCk_U0 zCk_U0 (zt_unit_g 6) (zt_unit_g 6)
theorem zCk_U0b {b : Nat → Int} {n : Int} (v : (Nat → Int) → Int) : zCk b n (D_X10_unit_L0_D 1) (zt_cmp b n 6) (fun L => [v L]) (fun L a => zv_cmp b n L 6 (v L) a) 1 16 := zCk_un1 (Lv := 0) zCk_S0 (by decide) v
theorem zCk_K0b {b : Nat → Int} {n : Int} (v : (Nat → Int) → Int) : zCk b n (D_X10_condition_L0_D 1) (zt_conds b n (zt_cmp b n 6) (zt_unit b n 6)) (fun L => [v L]) (fun L => zv_conds b n (zt_cmp b n 6) (zt_unit b n 6) (fun a => zv_cmp b n L 6 (v L) a) (zv_unit b n L 6)) 1 18 := zCk_con (Fu := D_X10_unit_L0_D) (bg := 1) (Lv := 0) (zCk_U0b v) zCk_U0 (zt_cmp_g 6) (zt_unit_g 6)
