/-! the class's TasteReader: what it lays as code (by hand) -/
theorem zm_up2 {m : zM} {p i : Nat} {v w : Int} : zm_up (zm_up m p i v) p i w = zm_up m p i w := by
  funext q j
  unfold zm_up
  by_cases h : q = p ∧ j = i
  · rw [if_pos h, if_pos h]
  · rw [if_neg h, if_neg h, if_neg h]
theorem zl2_p {α β γ : Type} {e : α × β} {x : α} {y : β} {f : α → β → γ} (h : e = (x, y)) : zl2 e f = f x y := by
  subst h
  rfl
/-- the text that is read -/
def zTx (b : Nat → Int) (n : Int) (h : zM) : Prop := h 2 = b ∧ h 1 1 = n ∧ n ≤ 240 ∧ (h 10 3 = 0 ∨ h 10 3 = 1) ∧ ∀ i : Nat, 0 ≤ b i ∧ b i ≤ 255
theorem zTx_cg {b : Nat → Int} {n : Int} {h h1 : zM} (T : zTx b n h) (a : h1 2 = h 2) (e : h1 1 1 = h 1 1) (p : h1 10 3 = h 10 3 ∨ h1 10 3 = 1) : zTx b n h1 := by
  obtain ⟨t1, t2, t3, t4, t5⟩ := T
  refine ⟨a.trans t1, e.trans t2, t3, ?_, t5⟩
  rcases p with p | p
  · rw [p]; exact t4
  · exact Or.inr p
theorem zD_next {b : Nat → Int} {n : Int} : ∀ (k : Nat) (h : zM), zTx b n h → 0 ≤ h 1 2 → 240 - h 1 2 < k → ∀ K : zM → Int × zM, DL_X8_next_D_0 K k h = K (zm_up h 1 2 (znx b n (h 1 2))) := by
  intro k
  induction k with
  | zero =>
    intro h T h0 hk K
    have e : znx b n (h 1 2) = h 1 2 := znx_0 (Or.inl (by have := T.2.2.1; omega))
    rw [e, zm_self]
    rfl
  | succ k ih =>
    intro h T h0 hk K
    simp only [DL_X8_next_D_0]
    rw [T.2.1]
    by_cases c1 : n ≤ h 1 2
    · rw [if_pos c1, znx_0 (Or.inl c1), zm_self]
    · rw [if_neg c1, T.1]
      by_cases c2 : b (h 1 2).toNat = 32
      · rw [if_pos c2]
        obtain ⟨h6, e6⟩ : ∃ q, q = zm_up h 1 2 ((h 1 2) + 1) := ⟨_, rfl⟩
        have v6 : h6 1 2 = h 1 2 + 1 := by rw [e6]; exact zm_eq
        have T6 : zTx b n h6 := by
          subst e6
          exact zTx_cg T (zup_o (by decide)) (zm_ne (Or.inr (by decide))) (Or.inl (zm_ne (Or.inl (by decide))))
        rw [zlt_e e6, ih h6 T6 (by omega) (by omega) K, v6, znx_s h0 T.2.2.1 (by omega) c2, e6, zm_up2]
      · rw [if_neg c2, znx_0 (Or.inr c2), zm_self]
theorem zD_nx {b : Nat → Int} {n : Int} {h : zM} (T : zTx b n h) (h0 : 0 ≤ h 1 2) : D_X8_next_D h = (zpk b n (znx b n (h 1 2)), zm_up h 1 2 (znx b n (h 1 2))) := by
  unfold D_X8_next_D
  rw [zD_next _ h T h0 (by omega)]
  have v : zm_up h 1 2 (znx b n (h 1 2)) 1 2 = znx b n (h 1 2) := zm_eq
  have v1 : zm_up h 1 2 (znx b n (h 1 2)) 1 1 = n := (zm_ne (Or.inr (by decide))).trans T.2.1
  have v2 : zm_up h 1 2 (znx b n (h 1 2)) 2 = b := (zup_o (by decide)).trans T.1
  have e : D_X8_here_D (zm_up h 1 2 (znx b n (h 1 2))) = zpk b n (znx b n (h 1 2)) := by
    unfold D_X8_here_D zpk
    rw [v, v1, v2]
    by_cases c : n ≤ znx b n (h 1 2)
    · rw [if_pos c, if_neg (by omega)]
    · rw [if_neg c, if_pos (by omega)]
  rw [zlt_e e.symm]
theorem zD_tk {b : Nat → Int} {n s : Int} {h : zM} (T : zTx b n h) (h0 : 0 ≤ h 1 2) : D_X8_takes_D s h = ((ztk b n s (h 1 2)).1, zm_up h 1 2 (ztk b n s (h 1 2)).2) := by
  unfold D_X8_takes_D
  rw [zl2_p (zD_nx T h0)]
  have f := ztk_f b n s (h 1 2)
  by_cases c : zpk b n (znx b n (h 1 2)) = s
  · rw [if_pos c, zm_eq, zlt_e (rfl : zm_up (zm_up h 1 2 (znx b n (h 1 2))) 1 2 (znx b n (h 1 2) + 1) = _), zm_up2, (f.1 c).1, (f.1 c).2]
  · rw [if_neg c, (f.2 c).1, (f.2 c).2]
/-- code laid behind what is there -/
def zem : (Nat → Int) → Int → List Int → (Nat → Int)
  | r, _, [] => r
  | r, l, w :: C => zem (zvu r l.toNat w) (l + 1) C
theorem zem_app : ∀ (C D : List Int) (r : Nat → Int) (l : Int), zem r l (C ++ D) = zem (zem r l C) (l + C.length) D := by
  intro C
  induction C with
  | nil =>
    intro D r l
    show zem r l D = zem r (l + ((([] : List Int).length : Nat) : Int)) D
    rw [show l + ((([] : List Int).length : Nat) : Int) = l from Int.add_zero l]
  | cons w C ih =>
    intro D r l
    show zem (zvu r l.toNat w) (l + 1) (C ++ D) = zem (zem (zvu r l.toNat w) (l + 1) C) (l + (((w :: C).length : Nat) : Int)) D
    rw [ih, show l + 1 + ((C.length : Nat) : Int) = l + (((w :: C).length : Nat) : Int) by rw [List.length_cons]; omega]
/-- words that can stand in code; none asks who looks -/
def zwo (C : List Int) : Prop := ∀ w, w ∈ C → 0 ≤ w ∧ w ≤ 2147483647
def zno (C : List Int) : Prop := ∀ w, w ∈ C → w ≠ zwd 1 5
theorem zwo_app {C D : List Int} (h : zwo C) (k : zwo D) : zwo (C ++ D) := fun w q => (List.mem_append.mp q).elim (h w) (k w)
theorem zno_app {C D : List Int} (h : zno C) (k : zno D) : zno (C ++ D) := fun w q => (List.mem_append.mp q).elim (h w) (k w)
theorem zwo_1 {s o : Int} (hs : 0 ≤ s ∧ s ≤ 31) (ho : 0 ≤ o ∧ o < 16384) : zwo [zwd s o] := fun w q => by
  have e : w = zwd s o := by simpa using q
  subst e
  unfold zwd
  omega
/-- from h to h1: C is laid, it stands at a1 -/
def zPt (C : List Int) (h h1 : zM) (a1 : Int) : Prop := (h1 1 2 = a1 ∧ h1 1 1 = h 1 1) ∧ (h1 11 = zem (h 11) (h 10 2) C ∧ h1 10 2 = h 10 2 + C.length) ∧ ((h1 10 3 = h 10 3 ∨ h1 10 3 = 1) ∧ (h1 10 3 = 0 → h 10 3 = 0 ∧ zno C)) ∧ (∀ p : Nat, p ≠ 1 → p ≠ 10 → p ≠ 11 → h1 p = h p)
theorem zPt_tr {C D : List Int} {h h1 h2 : zM} {a1 a2 : Int} (P : zPt C h h1 a1) (Q : zPt D h1 h2 a2) : zPt (C ++ D) h h2 a2 := by
  obtain ⟨⟨p1, p2⟩, ⟨p3, p4⟩, ⟨p5, p6⟩, p7⟩ := P
  obtain ⟨⟨q1, q2⟩, ⟨q3, q4⟩, ⟨q5, q6⟩, q7⟩ := Q
  refine ⟨⟨q1, q2.trans p2⟩, ⟨?_, ?_⟩, ⟨?_, ?_⟩, fun p a b c => (q7 p a b c).trans (p7 p a b c)⟩
  · rw [q3, p3, p4, zem_app]
  · rw [q4, p4, List.length_append]
    omega
  · rcases q5 with q5 | q5
    · rw [q5]; exact p5
    · exact Or.inr q5
  · intro z
    have z1 := q6 z
    have z2 := p6 z1.1
    exact ⟨z2.1, zno_app z2.2 z1.2⟩
theorem zPt_nx {h : zM} {x : Int} : zPt [] h (zm_up h 1 2 x) x :=
  ⟨⟨zm_eq, zm_ne (Or.inr (by decide))⟩, ⟨zup_o (by decide), by show zm_up h 1 2 x 10 2 = h 10 2 + 0; rw [zm_ne (Or.inl (by decide)), Int.add_zero]⟩, ⟨Or.inl (zm_ne (Or.inl (by decide))), fun z => ⟨(zm_ne (Or.inl (by decide))).symm.trans z, fun w q => absurd q (by simp)⟩⟩, fun p a _ _ => zup_o a⟩
theorem zTx_P {b : Nat → Int} {n : Int} {C : List Int} {h h1 : zM} {a1 : Int} (T : zTx b n h) (P : zPt C h h1 a1) : zTx b n h1 := zTx_cg T (P.2.2.2 2 (by decide) (by decide) (by decide)) P.1.2 P.2.2.1.1
theorem zPt_em {s o : Int} {h : zM} (hs : 0 ≤ s ∧ s ≤ 31) (ho : 0 ≤ o ∧ o < 16384) (hl : 0 ≤ h 10 2 ∧ h 10 2 < 240) (h5 : zwd s o ≠ zwd 1 5 ∨ h 10 3 = 1) : ∃ h1 : zM, D_X10_emit_D s o h = (1, h1) ∧ zPt [zwd s o] h h1 (h 1 2) := by
  obtain ⟨h9, e9⟩ : ∃ q, q = zm_up h 11 ((h 10 2).toNat) (zb_or (zb_shl s 14) o) := ⟨_, rfl⟩
  obtain ⟨h15, e15⟩ : ∃ q, q = zm_up h9 10 2 ((h9 10 2) + 1) := ⟨_, rfl⟩
  refine ⟨h15, ?_, ?_⟩
  · unfold D_X10_emit_D
    rw [if_neg (show ¬ 240 ≤ h 10 2 by omega), zlt_e e9, zlt_e e15]
  · rw [zwd_or hs ho] at e9
    have v9 : h9 10 2 = h 10 2 := by rw [e9]; exact zm_ne (Or.inl (by decide))
    rw [v9] at e15
    subst e15 e9
    refine ⟨⟨?_, ?_⟩, ⟨?_, ?_⟩, ⟨Or.inl ?_, fun z => ?_⟩, fun p a b c => ?_⟩
    · rw [zm_ne (Or.inl (by decide)), zm_ne (Or.inl (by decide))]
    · rw [zm_ne (Or.inl (by decide)), zm_ne (Or.inl (by decide))]
    · rw [zup_o (by decide), zvu_up]
      rfl
    · rw [zm_eq]; rfl
    · rw [zm_ne (Or.inr (by decide)), zm_ne (Or.inl (by decide))]
    · rw [zm_ne (Or.inr (by decide)), zm_ne (Or.inl (by decide))] at z
      refine ⟨z, fun w q => ?_⟩
      have e : w = zwd s o := by simpa using q
      rw [e]
      rcases h5 with h5 | h5
      · exact h5
      · omega
    · rw [zup_o b, zup_o c]
/-- F reads as f does, and lays code that leaves the value fv behind B (of bn numbers), with no more than dd waiting -/
def zCk (b : Nat → Int) (n : Int) (F : zM → Int × zM) (f : Int → Int × Int) (B : (Nat → Int) → List Int) (fv : (Nat → Int) → Int → Int) (bn dd : Nat) : Prop :=
  ∀ h : zM, zTx b n h → 0 ≤ h 1 2 → h 1 2 ≤ n → 0 ≤ h 10 2 → h 10 2 ≤ h 1 2 → (f (h 1 2)).1 ≠ 0 →
    ∃ (h1 : zM) (C : List Int), F h = (1, h1) ∧ zPt C h h1 (f (h 1 2)).2 ∧ (C.length : Int) ≤ (f (h 1 2)).2 - h 1 2 ∧ zwo C ∧ (∀ L, zpu L (B L) C (fv L (h 1 2))) ∧ zfi bn dd C
theorem zv_loop_m {b : Nat → Int} {n s1 s2 : Int} {op : Int → Int → Int → Int} {f : Int → Int × Int} {fv : Int → Int} (hs : s1 ≠ -1 ∧ s2 ≠ -1) (hf : zgd n f) : ∀ (k : Nat) (a v : Int), 0 ≤ a → a ≤ n → n - a ≤ k → zv_loop b n s1 s2 op f fv (k + 2) a v = zv_loop b n s1 s2 op f fv (k + 1) a v := by
  intro k
  induction k with
  | zero =>
    intro a v h0 h1 h2
    have w := znx_le (b := b) h1
    have e : zpk b n (znx b n a) = -1 := zpk_out (by omega)
    unfold zv_loop
    rw [if_pos (by omega), if_pos (by omega)]
  | succ k ih =>
    intro a v h0 h1 h2
    have w := znx_le (b := b) h1
    show (if _ then _ else zv_loop b n s1 s2 op f fv (k + 2) _ _) = (if _ then _ else zv_loop b n s1 s2 op f fv (k + 1) _ _)
    split
    · rfl
    · have l := zpk_lt (b := b) (n := n) (a := znx b n a) (by omega)
      have i := hf (znx b n a + 1) (by omega) (by omega)
      exact ih _ _ (by omega) (by omega) (by omega)
theorem zv_loop_e {b : Nat → Int} {n s1 s2 : Int} {op : Int → Int → Int → Int} {f : Int → Int × Int} {fv : Int → Int} (hs : s1 ≠ -1 ∧ s2 ≠ -1) (hf : zgd n f) {a v : Int} (h0 : 0 ≤ a) (h1 : a ≤ n) (hn : n ≤ 240) : zv_loop b n s1 s2 op f fv 241 a v = if zpk b n (znx b n a) ≠ s1 ∧ zpk b n (znx b n a) ≠ s2 then v else zv_loop b n s1 s2 op f fv 241 (f (znx b n a + 1)).2 (op (zpk b n (znx b n a)) v (fv (znx b n a + 1))) := by
  have w := znx_le (b := b) h1
  show (if _ then _ else zv_loop b n s1 s2 op f fv 240 _ _) = _
  split
  · rfl
  · have l := zpk_lt (b := b) (n := n) (a := znx b n a) (by omega)
    have i := hf (znx b n a + 1) (by omega) (by omega)
    exact (zv_loop_m hs hf 239 _ _ (by omega) (by omega) (by omega)).symm
/-- one turn: the sign, what is behind it, its word -/
theorem zCk_turn {b : Nat → Int} {n : Int} {F : zM → Int × zM} {f : Int → Int × Int} {fv : (Nat → Int) → Int → Int} {B : (Nat → Int) → List Int} {v : (Nat → Int) → Int} {bn dd ee : Nat} (hF : zCk b n F f (fun _ => []) fv 0 ee) (hg : zgd n f) (l : ee + 1 ≤ dd) {h0 h h5 : zM} {C : List Int} {o s z : Int} (hs : 5 ≤ s ∧ s ≤ 13) (T : zTx b n h0) (a0 : 0 ≤ h0 1 2) (an : h0 1 2 ≤ n) (c0 : 0 ≤ h0 10 2 ∧ h0 10 2 ≤ h0 1 2) (P : zPt C h0 h (h 1 2)) (lC : (C.length : Int) ≤ h 1 2 - h0 1 2) (wC : zwo C) (vC : ∀ L, zpu L (B L) C (v L)) (fC : zfi bn dd C) (e5 : h5 = zm_up h 1 2 z) (hz : h 1 2 < z ∧ z ≤ n) (ok : (f z).1 ≠ 0) :
    ∃ (h15 h22 : zM) (C2 : List Int), F h5 = (1, h15) ∧ D_X10_emit_D s 0 h15 = (1, h22) ∧ zPt C2 h0 h22 (f z).2 ∧ (C2.length : Int) ≤ (f z).2 - h0 1 2 ∧ zwo C2 ∧ (∀ L, zpu L (B L) C2 (zop s (v L) (fv L z))) ∧ zfi bn dd C2 := by
  have P5 : zPt [] h h5 z := by rw [e5]; exact zPt_nx
  have Pa := zPt_tr P P5
  rw [List.append_nil] at Pa
  have T5 := zTx_P T Pa
  have n240 := T.2.2.1
  have z5 : h5 1 2 = z := Pa.1.1
  have l5 : h5 10 2 = h0 10 2 + C.length := Pa.2.1.2
  have gz := hg z (by omega) hz.2
  obtain ⟨h15, D, d1, d2, d3, d4, d5, d6⟩ := hF h5 T5 (by omega) (by omega) (by omega) (by omega) (by rw [z5]; exact ok)
  rw [z5] at d2 d3
  have Pb := zPt_tr Pa d2
  have l15 : h15 10 2 = h0 10 2 + C.length + D.length := by have := d2.2.1.2; omega
  obtain ⟨h22, e1, e2⟩ := zPt_em (s := s) (o := 0) (h := h15) (by omega) (by decide) (by omega) (Or.inl (by unfold zwd; omega))
  have z15 : h15 1 2 = (f z).2 := d2.1.1
  rw [z15] at e2
  have Pc := zPt_tr Pb e2
  refine ⟨h15, h22, C ++ (D ++ [zwd s 0]), d1, e1, by rw [← List.append_assoc]; exact Pc, ?_, zwo_app wC (zwo_app d4 (zwo_1 (by omega) (by decide))), fun L => ?_, zfi_2 fC d6 hs (by omega) (by omega)⟩
  · rw [List.length_append, List.length_append]
    show ((C.length + (D.length + 1) : Nat) : Int) ≤ _
    omega
  · have q := d5 L
    rw [z5] at q
    exact zpu_2 (vC L) q hs
