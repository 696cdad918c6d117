/-! the class's TasteReader: numbers, ATOM (by hand) -/
theorem zD_dg1 {a : Int} (h : 48 ≤ a ∧ a ≤ 57) : D_X8_isDigit_D a = 1 := by
  unfold D_X8_isDigit_D
  repeat' split
  all_goals first | rfl | omega
theorem zD_dg0 {a : Int} (h : a < 48 ∨ 57 < a) : D_X8_isDigit_D a = 0 := by
  unfold D_X8_isDigit_D
  repeat' split
  all_goals first | rfl | omega
theorem zD_he {b : Nat → Int} {n : Int} {h : zM} (T : zTx b n h) : D_X8_here_D h = zpk b n (h 1 2) := by
  unfold D_X8_here_D zpk
  rw [T.1, T.2.1]
  by_cases c : n ≤ h 1 2
  · rw [if_pos c, if_neg (by omega)]
  · rw [if_neg c, if_pos (by omega)]
theorem zD_num {b : Nat → Int} {n : Int} : ∀ (j : Nat) (h : zM) (v : Int), zTx b n h → 0 ≤ h 1 2 → h 1 2 ≤ n → h 1 3 = v → 0 ≤ v ∧ (j = 4 ∧ v ≤ 0 ∨ j = 3 ∧ v ≤ 9 ∨ j = 2 ∧ v ≤ 99 ∨ j = 1 ∧ v ≤ 999 ∨ j = 0 ∧ v ≤ 9999) → (zn4 b n j (h 1 2)).1 ≠ 0 →
    ∃ h1 : zM, DL_X8_takesNumber_D_19 4 (fun _ h_54 => zlt (D_X8_here_D h_54) fun r58 => zlt (D_X8_isDigit_D r58) fun r59 => if r59 = 0 then (1, h_54) else (0, h_54)) (j + 1) (4 - j) h = (1, h1) ∧ h1 1 2 = (zn4 b n j (h 1 2)).2 ∧ h1 1 3 = zv_n4 b n j (h 1 2) v ∧ (0 ≤ h1 1 3 ∧ h1 1 3 ≤ 9999) ∧ h1 1 1 = h 1 1 ∧ ∀ p : Nat, p ≠ 1 → h1 p = h p := by
  intro j
  induction j with
  | zero =>
    intro h v T a0 an hv hb ok
    simp only [DL_X8_takesNumber_D_19]
    rw [if_pos (show (4 : Int) ≤ 4 - ((0 : Nat) : Int) by omega)]
    unfold zn4 at ok ⊢
    by_cases c : zpk b n (h 1 2) < 48 ∨ 57 < zpk b n (h 1 2)
    · rw [if_pos c]
      refine ⟨h, ?_, rfl, hv, by omega, rfl, fun _ _ => rfl⟩
      rw [zlt_e (zD_he T).symm, zlt_e (zD_dg0 c).symm, if_pos rfl]
    · rw [if_neg c] at ok
      exact absurd rfl ok
  | succ j ih =>
    intro h v T a0 an hv hb ok
    have n240 := T.2.2.1
    rw [DL_X8_takesNumber_D_19]
    rw [if_neg (show ¬ (4 : Int) ≤ 4 - ((j + 1 : Nat) : Int) by omega), zlt_e (zD_he T).symm]
    unfold zn4 at ok ⊢
    by_cases c : zpk b n (h 1 2) < 48 ∨ 57 < zpk b n (h 1 2)
    · rw [if_pos c, zlt_e (zD_dg0 c).symm, if_pos rfl]
      refine ⟨h, ?_, rfl, ?_, by omega, rfl, fun _ _ => rfl⟩
      · rw [zlt_e (zD_he T).symm, zlt_e (zD_dg0 c).symm, if_pos rfl]
      · rw [hv]
        unfold zv_n4
        rw [if_pos c]
    · rw [if_neg c] at ok ⊢
      have lt := zpk_lt (b := b) (n := n) (a := h 1 2) (by omega)
      obtain ⟨h11, e11⟩ : ∃ q, q = zm_up h 1 3 (zw ((((h 1 3) * 10) + zpk b n (h 1 2)) - 48)) := ⟨_, rfl⟩
      obtain ⟨h21, e21⟩ : ∃ q, q = zm_up h11 1 2 ((h11 1 2) + 1) := ⟨_, rfl⟩
      rw [zlt_e (zD_dg1 (by omega)).symm, if_neg (show ¬ (1 : Int) = 0 by decide), zlt_e (zD_he T).symm, zlt_e e11, zlt_e e21]
      rw [hv, zw_id (by omega)] at e11
      have v11 : h11 1 2 = h 1 2 := by rw [e11]; exact zm_ne (Or.inr (by decide))
      have v21 : h21 1 2 = h 1 2 + 1 := by rw [e21, v11]; exact zm_eq
      have v3 : h21 1 3 = v * 10 + zpk b n (h 1 2) - 48 := by rw [e21, zm_ne (Or.inr (by decide)), e11]; exact zm_eq
      have v1 : h21 1 1 = h 1 1 := by rw [e21, zm_ne (Or.inr (by decide)), e11]; exact zm_ne (Or.inr (by decide))
      have vp : ∀ p : Nat, p ≠ 1 → h21 p = h p := fun p hp => by rw [e21, zup_o hp, e11, zup_o hp]
      have T2 : zTx b n h21 := zTx_cg T (vp 2 (by decide)) v1 (Or.inl (by rw [vp 10 (by decide)]))
      rw [← v21] at ok ⊢
      obtain ⟨h1, i1, i2, i3, i4, i5, i6⟩ := ih h21 (v * 10 + zpk b n (h 1 2) - 48) T2 (by omega) (by omega) v3 (by omega) ok
      refine ⟨h1, ?_, i2, ?_, i4, i5.trans v1, fun p hp => (i6 p hp).trans (vp p hp)⟩
      · rw [show (4 - ((j + 1 : Nat) : Int)) + 1 = 4 - (j : Int) by omega]
        exact i1
      · rw [i3, v21]
        show _ = (if _ then v else zv_n4 b n j (h 1 2 + 1) (10 * v + (zpk b n (h 1 2) - 48)))
        rw [if_neg c, show v * 10 + zpk b n (h 1 2) - 48 = 10 * v + (zpk b n (h 1 2) - 48) by omega]
theorem zix_3_p : ∀ k : Fin 256, zix zLs3 0 (k.val : Int) = 5 ↔ k.val = 112 := by decide +kernel
theorem zix_3_r : ∀ k : Fin 256, -1 ≤ zix zLs3 0 (k.val : Int) ∧ zix zLs3 0 (k.val : Int) ≤ 5 := by decide +kernel
theorem zb_or01 : ∀ a b : Fin 2, zb_or (a.val : Int) (b.val : Int) = ((if a.val = 1 ∨ b.val = 1 then 1 else 0 : Nat) : Int) := by decide +kernel
theorem zCk_atom {b : Nat → Int} {n Lv : Int} {F : zM → Int × zM} {inner : Option (Int → Int × Int)} {iv : (Nat → Int) → Int → Int} {dd : Nat} (hd : 1 ≤ dd) (hI : (inner = none ∧ Lv = 6) ∨ ∃ f, inner = some f ∧ Lv ≠ 6 ∧ zCk b n F f (fun _ => []) iv 0 dd ∧ zgd n f) : zCk b n (D_X10_atom_G_D F Lv) (zt_atom b n inner) (fun _ => []) (fun L => zv_atom b n L (iv L)) 0 dd := by
  intro h T a0 an c0 c1 ok
  have n240 := T.2.2.1
  have w := znx_le (b := b) (n := n) (a := h 1 2) an
  unfold D_X10_atom_G_D
  rw [zl2_p (zD_nx T a0)]
  by_cases c91 : zpk b n (znx b n (h 1 2)) = 91
  · have lt := zpk_lt (b := b) (n := n) (a := znx b n (h 1 2)) (by omega)
    have ev : ∀ L, zv_atom b n L (iv L) (h 1 2) = iv L (znx b n (h 1 2) + 1) := fun L => if_pos c91
    rcases hI with ⟨hn, _⟩ | ⟨f, hf, hL, hF, hg⟩
    · subst hn
      have e : zt_atom b n none (h 1 2) = (0, znx b n (h 1 2)) := if_pos c91
      rw [e] at ok
      exact absurd rfl ok
    · subst hf
      have e : zt_atom b n (some f) (h 1 2) = if (f (znx b n (h 1 2) + 1)).1 = 0 then f (znx b n (h 1 2) + 1) else ztk b n 93 (f (znx b n (h 1 2) + 1)).2 := if_pos c91
      rw [e] at ok ⊢
      have em : zm_up (zm_up h 1 2 (znx b n (h 1 2))) 1 2 ((zm_up h 1 2 (znx b n (h 1 2)) 1 2) + 1) = zm_up h 1 2 (znx b n (h 1 2) + 1) := by rw [zm_eq, zm_up2]
      have okf : (f (znx b n (h 1 2) + 1)).1 ≠ 0 := by
        intro z
        rw [if_pos z] at ok
        exact ok z
      rw [if_neg okf] at ok ⊢
      have P1 := zPt_nx (h := h) (x := znx b n (h 1 2) + 1)
      have T1 := zTx_P T P1
      have e1 : zm_up h 1 2 (znx b n (h 1 2) + 1) 1 2 = znx b n (h 1 2) + 1 := zm_eq
      have e10 : zm_up h 1 2 (znx b n (h 1 2) + 1) 10 2 = h 10 2 := zm_ne (Or.inl (by decide))
      obtain ⟨h15, D, d1, d2, d3, d4, d5, d6⟩ := hF _ T1 (by omega) (by omega) (by omega) (by omega) (by rw [e1]; exact okf)
      rw [e1] at d2 d3 d5
      have T15 := zTx_P T1 d2
      have g1 := hg (znx b n (h 1 2) + 1) (by omega) (by omega)
      have z15 : h15 1 2 = (f (znx b n (h 1 2) + 1)).2 := d2.1.1
      have tk := zD_tk (s := 93) T15 (by omega)
      rw [z15] at tk
      have t93 := ztk_f b n 93 (f (znx b n (h 1 2) + 1)).2
      have t1 : (ztk b n 93 (f (znx b n (h 1 2) + 1)).2).1 = 1 := by
        by_cases q : zpk b n (znx b n (f (znx b n (h 1 2) + 1)).2) = 93
        · exact (t93.1 q).1
        · exact absurd (t93.2 q).1 ok
      rw [t1] at tk
      have tg := ztk_g (b := b) (n := n) (s := 93) (by omega) (f (znx b n (h 1 2) + 1)).2 (by omega) (by omega)
      refine ⟨zm_up h15 1 2 (ztk b n 93 (f (znx b n (h 1 2) + 1)).2).2, D, ?_, ?_, by omega, d4, fun L => (by show zpu L [] D (zv_atom b n L (iv L) (h 1 2)); rw [ev L]; exact d5 L), d6⟩
      · rw [if_pos c91, if_neg hL, zlt_e em.symm, zl2_p d1, if_neg (show ¬ (1 : Int) = 0 by decide), zl2_p tk, if_neg (show ¬ (1 : Int) = 0 by decide)]
      · have q := zPt_tr (zPt_tr P1 d2) (zPt_nx (h := h15) (x := (ztk b n 93 (f (znx b n (h 1 2) + 1)).2).2))
        rw [List.nil_append, List.append_nil] at q
        exact q
  · have P4 := zPt_nx (h := h) (x := znx b n (h 1 2))
    have T4 := zTx_P T P4
    have e4 : zm_up h 1 2 (znx b n (h 1 2)) 1 2 = znx b n (h 1 2) := zm_eq
    generalize hh4 : zm_up h 1 2 (znx b n (h 1 2)) = h4 at P4 T4 e4
    by_cases cd : 48 ≤ zpk b n (znx b n (h 1 2)) ∧ zpk b n (znx b n (h 1 2)) ≤ 57
    · have e : zt_atom b n inner (h 1 2) = zn4 b n 4 (znx b n (h 1 2)) := (if_neg c91).trans (if_pos cd)
      have ev : ∀ L, zv_atom b n L (iv L) (h 1 2) = zv_n4 b n 4 (znx b n (h 1 2)) 0 := fun L => (if_neg c91).trans (if_pos cd)
      rw [e] at ok ⊢
      have lt := zpk_lt (b := b) (n := n) (a := znx b n (h 1 2)) (by omega)
      -- the number
      obtain ⟨h33, e33⟩ : ∃ q, q = zm_up h4 1 3 0 := ⟨_, rfl⟩
      have v33 : h33 1 2 = znx b n (h 1 2) := by rw [e33, zm_ne (Or.inr (by decide))]; exact e4
      have T33 : zTx b n h33 := by
        subst e33
        exact zTx_cg T4 (zup_o (by decide)) (zm_ne (Or.inr (by decide))) (Or.inl (zm_ne (Or.inl (by decide))))
      have nx := zD_nx T33 (by omega)
      have ei : znx b n (h33 1 2) = znx b n (h 1 2) := by rw [v33]; exact znx_i a0 n240
      have es : zm_up h33 1 2 (znx b n (h33 1 2)) = h33 := by rw [ei, ← v33]; exact zm_self
      rw [es, ei] at nx
      have g4 := zn4_g (b := b) (n := n) 3 (znx b n (h 1 2) + 1) (by omega)
      have s4 : zn4 b n 4 (znx b n (h 1 2)) = zn4 b n 3 (znx b n (h 1 2) + 1) := if_neg (by omega)
      obtain ⟨h71, i1, i2, i3, i4, i5, i6⟩ := zD_num 4 h33 0 T33 (by omega) (by omega) (by rw [e33]; exact zm_eq) (by omega) (by rw [v33]; exact ok)
      rw [v33] at i2 i3
      have eN : D_X8_takesNumber_D 4 h4 = (1, h71) := by
        unfold D_X8_takesNumber_D
        rw [zlt_e e33, zl2_p nx, zlt_e (zD_dg1 cd).symm, if_neg (show ¬ (1 : Int) = 0 by decide)]
        exact i1
      have P71 : zPt [] h h71 (zn4 b n 4 (znx b n (h 1 2))).2 := by
        have q33 : ∀ p : Nat, p ≠ 1 → h71 p = h p := fun p hp => by rw [i6 p hp, e33, zup_o hp, ← hh4, zup_o hp]
        refine ⟨⟨i2, ?_⟩, ⟨by rw [q33 11 (by decide)]; rfl, by rw [q33 10 (by decide)]; exact (Int.add_zero _).symm⟩, ⟨Or.inl (by rw [q33 10 (by decide)]), fun z => ⟨by rw [q33 10 (by decide)] at z; exact z, fun w q => absurd q (by simp)⟩⟩, fun p a _ _ => q33 p a⟩
        rw [i5, e33, zm_ne (Or.inr (by decide)), ← hh4, zm_ne (Or.inr (by decide))]
      have l71 : h71 10 2 = h 10 2 := by have := P71.2.1.2; rw [this]; exact Int.add_zero _
      obtain ⟨h78, f1, f2⟩ := zPt_em (s := 0) (o := h71 1 3) (h := h71) (by decide) (by omega) (by omega) (Or.inl (by unfold zwd; omega))
      have e71 : h71 1 2 = (zn4 b n 4 (znx b n (h 1 2))).2 := i2
      rw [e71] at f2
      refine ⟨h78, [zwd 0 (h71 1 3)], ?_, ?_, ?_, zwo_1 (by decide) (by omega), fun L => ?_, zfi_up (zfi_n (by omega)) hd⟩
      · rw [if_neg c91, zlt_e (zD_dg1 cd).symm, if_neg (show ¬ (1 : Int) = 0 by decide), zl2_p eN, if_neg (show ¬ (1 : Int) = 0 by decide), zl2_p f1, if_neg (show ¬ (1 : Int) = 0 by decide)]
      · have q := zPt_tr P71 f2
        rw [List.nil_append] at q
        exact q
      · show ((1 : Nat) : Int) ≤ _
        rw [s4]
        omega
      · show zpu L [] _ (zv_atom b n L (iv L) (h 1 2))
        rw [ev L, ← i3]
        exact zpu_n (by omega)
    · -- a letter
      have bb : zpk b n (znx b n (h 1 2)) = -1 ∨ (0 ≤ zpk b n (znx b n (h 1 2)) ∧ zpk b n (znx b n (h 1 2)) ≤ 255) := by
        unfold zpk
        split
        · exact Or.inr (T.2.2.2.2 _)
        · exact Or.inl rfl
      have cx : ¬ zix zLs3 0 (zpk b n (znx b n (h 1 2))) = -1 := by
        intro z
        have e : zt_atom b n inner (h 1 2) = (0, znx b n (h 1 2)) := (if_neg c91).trans ((if_neg cd).trans (if_pos z))
        rw [e] at ok
        exact ok rfl
      have e : zt_atom b n inner (h 1 2) = (1, znx b n (h 1 2) + 1) := (if_neg c91).trans ((if_neg cd).trans (if_neg cx))
      have ev : ∀ L, zv_atom b n L (iv L) (h 1 2) = L (zix zLs3 0 (zpk b n (znx b n (h 1 2)))).toNat := fun L => (if_neg c91).trans (if_neg cd)
      rw [e] at ok ⊢
      have c1' : ¬ zpk b n (znx b n (h 1 2)) = -1 := by
        intro z
        rw [z] at cx
        exact cx (by decide)
      have lt := zpk_lt (b := b) (n := n) (a := znx b n (h 1 2)) c1'
      have b2 : 0 ≤ zpk b n (znx b n (h 1 2)) ∧ zpk b n (znx b n (h 1 2)) ≤ 255 := bb.resolve_left c1'
      have zp := zix_3_p ⟨(zpk b n (znx b n (h 1 2))).toNat, by omega⟩
      have zr := zix_3_r ⟨(zpk b n (znx b n (h 1 2))).toNat, by omega⟩
      rw [show (((⟨(zpk b n (znx b n (h 1 2))).toNat, by omega⟩ : Fin 256).val : Nat) : Int) = zpk b n (znx b n (h 1 2)) from Int.toNat_of_nonneg b2.1] at zp zr
      have emod : zpk b n (znx b n (h 1 2)) % 65536 = zpk b n (znx b n (h 1 2)) := by omega
      obtain ⟨h33, e33⟩ : ∃ q, q = zm_up h4 1 2 ((h4 1 2) + 1) := ⟨_, rfl⟩
      have P33 : zPt [] h h33 (znx b n (h 1 2) + 1) := by
        rw [e33, e4, ← hh4, zm_up2]
        exact zPt_nx
      have T33 := zTx_P T P33
      have p33 : h33 10 3 = 0 ∨ h33 10 3 = 1 := T33.2.2.2.1
      have l33 : h33 10 2 = h 10 2 := by have := P33.2.1.2; rw [this]; exact Int.add_zero _
      rw [if_neg c91, zlt_e (zD_dg0 (by omega)).symm, if_pos rfl, if_neg c1', emod, zlt_e (rfl : zix zLs3 0 (zpk b n (znx b n (h 1 2))) = _), if_neg cx, zlt_e e33]
      have go : ∀ (pv : Int) (h45 : zM), h45 = zm_up h33 10 3 pv → ((zpk b n (znx b n (h 1 2)) = 112 ∧ pv = 1) ∨ (zpk b n (znx b n (h 1 2)) ≠ 112 ∧ pv = h33 10 3)) → ∃ (h1 : zM) (C : List Int), zl2 (D_X10_emit_D 1 (zix zLs3 0 (zpk b n (znx b n (h 1 2)))) h45) (fun r50 h50 => (r50, h50)) = (1, h1) ∧ zPt C h h1 (1, znx b n (h 1 2) + 1).2 ∧ (C.length : Int) ≤ ((1 : Int), znx b n (h 1 2) + 1).2 - h 1 2 ∧ zwo C ∧ (∀ L : Nat → Int, zpu L [] C (zv_atom b n L (iv L) (h 1 2))) ∧ zfi 0 dd C := by
        intro pv h45 e45 hp
        have P45 : zPt [] h33 h45 (h33 1 2) := by
          rw [e45]
          refine ⟨⟨zm_ne (Or.inl (by decide)), zm_ne (Or.inl (by decide))⟩, ⟨zup_o (by decide), by rw [zm_ne (Or.inr (by decide))]; exact (Int.add_zero _).symm⟩, ⟨?_, fun z => ?_⟩, fun p _ b2 _ => zup_o b2⟩
          · rw [zm_eq]
            rcases hp with q | q
            · exact Or.inr q.2
            · exact Or.inl q.2
          · rw [zm_eq] at z
            rcases hp with q | q
            · omega
            · exact ⟨by omega, fun w q => absurd q (by simp)⟩
        have Q := zPt_tr P33 P45
        have e1 : h33 1 2 = znx b n (h 1 2) + 1 := P33.1.1
        rw [e1] at Q
        have l45 : h45 10 2 = h 10 2 := by have := Q.2.1.2; rw [this]; exact Int.add_zero _
        have v45 : h45 10 3 = pv := by rw [e45]; exact zm_eq
        obtain ⟨h50, f1, f2⟩ := zPt_em (s := 1) (o := zix zLs3 0 (zpk b n (znx b n (h 1 2)))) (h := h45) (by decide) (by omega) (by omega) (by
          rcases hp with q | q
          · exact Or.inr (by omega)
          · refine Or.inl (fun z => ?_)
            have : zix zLs3 0 (zpk b n (znx b n (h 1 2))) = 5 := by unfold zwd at z; omega
            have t112 : (zpk b n (znx b n (h 1 2))).toNat = 112 := zp.mp this
            omega)
        have e45b : h45 1 2 = znx b n (h 1 2) + 1 := Q.1.1
        rw [e45b] at f2
        have Q2 := zPt_tr Q f2
        refine ⟨h50, [zwd 1 (zix zLs3 0 (zpk b n (znx b n (h 1 2))))], by rw [zl2_p f1], Q2, ?_, zwo_1 (by decide) (by omega), fun L => ?_, zfi_up (zfi_l (by omega)) hd⟩
        · show ((1 : Nat) : Int) ≤ znx b n (h 1 2) + 1 - h 1 2
          omega
        · rw [ev L]
          exact zpu_l (by omega)
      by_cases cp : zpk b n (znx b n (h 1 2)) = 112
      · rw [if_pos cp]
        have ev : zb_or (h33 10 3) 1 = 1 := by
          rcases p33 with q | q
          · rw [q]; exact zb_or01 0 1
          · rw [q]; exact zb_or01 1 1
        rw [ev, zlt_e (rfl : zm_up h33 10 3 1 = _)]
        exact go 1 _ rfl (Or.inl ⟨cp, rfl⟩)
      · rw [if_neg cp]
        have ev : zb_or (h33 10 3) 0 = h33 10 3 := by
          rcases p33 with q | q
          · rw [q]; exact zb_or01 0 0
          · rw [q]; exact zb_or01 1 0
        rw [ev, zlt_e (rfl : zm_up h33 10 3 (h33 10 3) = _)]
        exact go _ _ rfl (Or.inr ⟨cp, rfl⟩)
