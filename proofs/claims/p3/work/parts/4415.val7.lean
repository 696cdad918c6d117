/-! the code of a TASTE, run (by hand) -/
theorem zX_when {K : Int → Int → zM → Int × zM} {k : Nat} {x1 x2 t : Int} {h : zM} (hx : x1 = 1) (hl : x2 < h 3 1001) (h2 : 0 ≤ x2) (hw : h 3 x2.toNat = zwd 2 t) (ht : x2 < t ∧ t ≤ 240) : DL_X9_worth_D_4 K (k + 1) x1 x2 h = if h 2 0 = 0 then DL_X9_worth_D_4 K k 0 t h else DL_X9_worth_D_4 K k 0 (x2 + 1) h := by
  have z := zwd_s (s := 2) (o := t) (by omega)
  have es := zwd_shr (a := zwd 2 t) (by unfold zwd; omega)
  have ea := zwd_and (a := zwd 2 t) (by unfold zwd; omega)
  rw [z.1] at es
  rw [z.2] at ea
  have e0 : x1 - 1 = 0 := by omega
  simp only [DL_X9_worth_D_4]
  rw [if_neg (show ¬ h 3 1001 ≤ x2 by omega), hw, es, ea, e0, if_pos (show (1 : Int) < 2 by decide), if_neg (show ¬ (0 : Int) < 0 by decide), if_pos (show (2 : Int) ≤ 4 by decide), if_neg (show ¬ (2 : Int) = 3 by decide), if_pos (show (2 : Int) = 2 from rfl), show max x2 (t - 1) + 1 = t by omega]
  rfl
theorem zX_done {K : Int → Int → zM → Int × zM} {k : Nat} {x1 x2 : Int} {h : zM} (hx : x1 = 1) (hl : x2 < h 3 1001) (h2 : 0 ≤ x2) (hw : h 3 x2.toNat = zwd 3 0) : DL_X9_worth_D_4 K (k + 1) x1 x2 h = (zw (h 2 0), h) := by
  have z := zwd_s (s := 3) (o := 0) (by decide)
  have es := zwd_shr (a := zwd 3 0) (by decide)
  rw [z.1] at es
  have e0 : x1 - 1 = 0 := by omega
  simp only [DL_X9_worth_D_4]
  rw [if_neg (show ¬ h 3 1001 ≤ x2 by omega), hw, es, e0, if_pos (show (1 : Int) < 3 by decide), if_neg (show ¬ (0 : Int) < 0 by decide), if_pos (show (3 : Int) ≤ 4 by decide), if_pos (show (3 : Int) = 3 from rfl)]
  rfl
theorem zgt_l : ∀ (S E : List Int) (j : Nat), j < S.length → (S ++ E).getD j 0 = S.getD j 0 := by
  intro S
  induction S with
  | nil => exact fun E j h => absurd h (Nat.not_lt_zero _)
  | cons x S ih =>
    intro E j h
    cases j with
    | zero => rfl
    | succ j => exact ih E j (Nat.lt_of_succ_lt_succ h)
theorem zgt_r : ∀ (S E : List Int) (j : Nat), (S ++ E).getD (S.length + j) 0 = E.getD j 0 := by
  intro S
  induction S with
  | nil =>
    intro E j
    rw [show ([] : List Int).length + j = j from Nat.zero_add j]
    rfl
  | cons x S ih =>
    intro E j
    rw [show (x :: S).length + j = (S.length + j) + 1 by rw [List.length_cons]; omega]
    exact ih E j
theorem zgt_m : ∀ (S : List Int) (j : Nat), j < S.length → S.getD j 0 ∈ S := by
  intro S
  induction S with
  | nil => exact fun j h => absurd h (Nat.not_lt_zero _)
  | cons x S ih =>
    intro j h
    cases j with
    | zero => exact List.mem_cons_self
    | succ j => exact List.mem_cons_of_mem _ (ih j (Nat.lt_of_succ_lt_succ h))
/-- the code D, from p on to its end, gives w -/
def zRn (L : Nat → Int) (p : Int) (D : List Int) (w : Int) : Prop := ∀ (k : Nat) (h : zM), h 1 = L → (∀ j : Nat, j < D.length → h 3 (p.toNat + j) = D.getD j 0) → h 3 1001 = p + D.length → 0 ≤ p → p + D.length ≤ 240 → 240 - p < k → ∃ h1 : zM, DL_X9_worth_D_4 (fun _ _ q => (0, q)) k 0 p h = (zw w, h1) ∧ ∀ q : Nat, q ≠ 2 → h1 q = h q
def zLr (L : Nat → Int) : Prop := ∀ i : Nat, -2147483648 ≤ L i ∧ L i ≤ 2147483647
theorem zRn_0 {L : Nat → Int} {p : Int} : zRn L p [] 0 := by
  intro k h h1 hc hlen p0 p240 hk
  have el : ((([] : List Int).length : Nat) : Int) = 0 := rfl
  obtain ⟨q, rfl⟩ : ∃ q, k = q + 1 := ⟨k - 1, by omega⟩
  refine ⟨h, ?_, fun _ _ => rfl⟩
  simp only [DL_X9_worth_D_4]
  rw [if_pos (show h 3 1001 ≤ p by omega), zw_id (by decide)]
/-- code without WHEN and DONE, from nothing that waits -/
theorem zRn_r {L : Nat → Int} {p v : Int} {S E : List Int} {q : Nat} {h : zM} (hL : zLr L) (vS : zpu L [] S v) (fS : zfi 0 32 S) (wS : zwo S) (h1 : h 1 = L) (hc : ∀ j : Nat, j < (S ++ E).length → h 3 (p.toNat + j) = (S ++ E).getD j 0) (hlen : h 3 1001 = p + ((S ++ E).length : Nat)) (p0 : 0 ≤ p) (p240 : p + ((S ++ E).length : Nat) ≤ 240) :
    ∃ h5 : zM, DL_X9_worth_D_4 (fun _ _ q => (0, q)) (q + S.length) 0 p h = DL_X9_worth_D_4 (fun _ _ q => (0, q)) q 1 (p + S.length) h5 ∧ (∀ q : Nat, q ≠ 2 → h5 q = h q) ∧ h5 2 0 = v := by
  rw [List.length_append] at hlen p240
  have hS := fS 0 32 (by decide)
  have e1 : zxl S 0 = 1 := hS.2
  obtain ⟨h5, a1, a2, a3, a4⟩ := zX_run (K := fun _ _ q => (0, q)) S q 0 p h p0 (by omega) (by omega) (fun j hj => by
    have e := hc j (by rw [List.length_append]; omega)
    rw [zgt_l S E j hj] at e
    exact ⟨e, wS _ (zgt_m S j hj)⟩) (by decide) hS.1 (fun i hi => absurd hi (by omega)) (by rw [h1]; exact hL)
  rw [e1] at a1 a3
  rw [h1] at a3
  have a5 : [h5 2 0] = [v] := a3.trans (vS [])
  exact ⟨h5, a1, a2, by injection a5⟩
theorem zRn_s {L : Nat → Int} {p v : Int} {S E : List Int} (hL : zLr L) (vS : zpu L [] S v) (fS : zfi 0 32 S) (wS : zwo S) : zRn L p (S ++ zwd 3 0 :: E) v := by
  intro k h h1 hc hlen p0 p240 hk
  have el : ((S ++ zwd 3 0 :: E).length : Nat) = S.length + (E.length + 1) := by rw [List.length_append, List.length_cons]
  obtain ⟨q, rfl⟩ : ∃ q, k = (q + 1) + S.length := ⟨k - S.length - 1, by omega⟩
  obtain ⟨h5, a1, a2, a3⟩ := zRn_r (q := q + 1) hL vS fS wS h1 hc hlen p0 p240
  have c3 := hc S.length (by omega)
  have c4 : (S ++ zwd 3 0 :: E).getD S.length 0 = zwd 3 0 := zgt_r S (zwd 3 0 :: E) 0
  refine ⟨h5, a1.trans ?_, a2⟩
  rw [zX_done rfl (by rw [a2 3 (by decide)]; omega) (by omega) (by rw [a2 3 (by decide), show (p + (S.length : Int)).toNat = p.toNat + S.length by omega]; exact c3.trans c4), a3]
theorem zRn_c {L : Nat → Int} {p t c v w : Int} {C S E : List Int} (hL : zLr L) (vC : zpu L [] C c) (fC : zfi 0 32 C) (wC : zwo C) (vS : zpu L [] S v) (fS : zfi 0 32 S) (wS : zwo S) (et : t = p + C.length + 1 + S.length + 1) (hE : zRn L t E w) : zRn L p (C ++ zwd 2 t :: (S ++ zwd 3 0 :: E)) (if c ≠ 0 then v else w) := by
  intro k h h1 hc hlen p0 p240 hk
  have el : ((C ++ zwd 2 t :: (S ++ zwd 3 0 :: E)).length : Nat) = C.length + (S.length + (E.length + 1) + 1) := by rw [List.length_append, List.length_cons, List.length_append, List.length_cons]
  have el2 : ((S ++ zwd 3 0 :: E).length : Nat) = S.length + (E.length + 1) := by rw [List.length_append, List.length_cons]
  obtain ⟨q, rfl⟩ : ∃ q, k = (q + 1) + C.length := ⟨k - C.length - 1, by omega⟩
  obtain ⟨h5, a1, a2, a3⟩ := zRn_r (q := q + 1) hL vC fC wC h1 hc hlen p0 p240
  have c3 := hc C.length (by omega)
  have c4 : (C ++ zwd 2 t :: (S ++ zwd 3 0 :: E)).getD C.length 0 = zwd 2 t := zgt_r C (zwd 2 t :: (S ++ zwd 3 0 :: E)) 0
  have l3 : h5 3 = h 3 := a2 3 (by decide)
  have l1 : h5 1 = L := (a2 1 (by decide)).trans h1
  have wh := zX_when (K := fun _ _ q => (0, q)) (k := q) (x1 := 1) (x2 := p + C.length) (t := t) (h := h5) rfl (by rw [l3]; omega) (by omega) (by rw [l3, show (p + (C.length : Int)).toNat = p.toNat + C.length by omega]; exact c3.trans c4) (by omega)
  by_cases z : c = 0
  · rw [a3, if_pos z] at wh
    obtain ⟨h6, b1, b2⟩ := hE q h5 l1 (fun j hj => by
      have e := hc (C.length + ((S.length + (j + 1)) + 1)) (by omega)
      have e2 : (C ++ zwd 2 t :: (S ++ zwd 3 0 :: E)).getD (C.length + ((S.length + (j + 1)) + 1)) 0 = E.getD j 0 := (zgt_r C _ _).trans (zgt_r S (zwd 3 0 :: E) (j + 1))
      rw [l3, show t.toNat + j = p.toNat + (C.length + ((S.length + (j + 1)) + 1)) by omega]
      exact e.trans e2) (by rw [l3]; omega) (by omega) (by omega) (by omega)
    refine ⟨h6, (a1.trans wh).trans ?_, fun q hq => (b2 q hq).trans (a2 q hq)⟩
    rw [b1, if_neg (show ¬ c ≠ 0 by omega)]
  · rw [a3, if_neg z] at wh
    obtain ⟨h6, b1, b2⟩ := zRn_s (p := p + C.length + 1) (E := E) hL vS fS wS q h5 l1 (fun j hj => by
      have e := hc (C.length + (j + 1)) (by omega)
      have e2 : (C ++ zwd 2 t :: (S ++ zwd 3 0 :: E)).getD (C.length + (j + 1)) 0 = (S ++ zwd 3 0 :: E).getD j 0 := zgt_r C _ _
      rw [l3, show (p + (C.length : Int) + 1).toNat + j = p.toNat + (C.length + (j + 1)) by omega]
      exact e.trans e2) (by rw [l3]; omega) (by omega) (by omega) (by omega)
    refine ⟨h6, (a1.trans wh).trans ?_, fun q hq => (b2 q hq).trans (a2 q hq)⟩
    rw [b1, if_pos (show c ≠ 0 from z)]
/-! CLAUSES as the class reads them -/
theorem zvu2 {r : Nat → Int} {i : Nat} {v x : Int} : zvu (zvu r i v) i x = zvu r i x := by
  funext j
  unfold zvu
  by_cases h : j = i
  · rw [if_pos h, if_pos h]
  · rw [if_neg h, if_neg h, if_neg h]
theorem zvu_c {r : Nat → Int} {i k : Nat} {v x : Int} (h : i ≠ k) : zvu (zvu r i v) k x = zvu (zvu r k x) i v := by
  funext j
  unfold zvu
  by_cases a : j = k
  · rw [if_pos a, if_neg (by omega), if_pos a]
  · by_cases b : j = i
    · rw [if_neg a, if_pos b, if_pos b]
    · rw [if_neg a, if_neg b, if_neg b, if_neg a]
theorem zem_lo : ∀ (D : List Int) (r : Nat → Int) (l : Int) (i : Nat) (x : Int), (i : Int) < l → zvu (zem r l D) i x = zem (zvu r i x) l D := by
  intro D
  induction D with
  | nil => exact fun r l i x _ => rfl
  | cons w D ih =>
    intro r l i x h
    show zvu (zem (zvu r l.toNat w) (l + 1) D) i x = zem (zvu (zvu r i x) l.toNat w) (l + 1) D
    rw [ih _ (l + 1) i x (by omega), zvu_c (show l.toNat ≠ i by omega)]
theorem zem_set : ∀ (C : List Int) (w x : Int) (D : List Int) (r : Nat → Int) (l : Int), 0 ≤ l → zvu (zem r l (C ++ w :: D)) (l + C.length).toNat x = zem r l (C ++ x :: D) := by
  intro C
  induction C with
  | nil =>
    intro w x D r l h
    rw [show l + ((([] : List Int).length : Nat) : Int) = l from Int.add_zero l]
    show zvu (zem (zvu r l.toNat w) (l + 1) D) l.toNat x = zem (zvu r l.toNat x) (l + 1) D
    rw [zem_lo D _ (l + 1) l.toNat x (by omega), zvu2]
  | cons c C ih =>
    intro w x D r l h
    show zvu (zem (zvu r l.toNat c) (l + 1) (C ++ w :: D)) (l + (((c :: C).length : Nat) : Int)).toNat x = zem (zvu r l.toNat c) (l + 1) (C ++ x :: D)
    rw [show l + (((c :: C).length : Nat) : Int) = l + 1 + ((C.length : Nat) : Int) by rw [List.length_cons]; omega]
    exact ih w x D _ (l + 1) (by omega)
theorem zno_set {C D : List Int} {w x : Int} (h : zno (C ++ w :: D)) (hx : x ≠ zwd 1 5) : zno (C ++ x :: D) := by
  intro y q
  rcases List.mem_append.mp q with q | q
  · exact h y (List.mem_append.mpr (Or.inl q))
  · rcases List.mem_cons.mp q with q | q
    · subst q; exact hx
    · exact h y (List.mem_append.mpr (Or.inr (List.mem_cons_of_mem _ q)))
/-- code that doesn't ask who looks -/
def zL5 (L K : Nat → Int) : Prop := ∀ i : Nat, i ≠ 5 → L i = K i
theorem zrn_5 {L K : Nat → Int} (e : zL5 L K) : ∀ (C : List Int) (st : List Int), zno C → zrn L C st = zrn K C st := by
  intro C
  induction C with
  | nil => exact fun st _ => rfl
  | cons w C ih =>
    intro st h
    have hw := h w List.mem_cons_self
    have ex : zex L w st = zex K w st := by
      unfold zex
      by_cases c0 : w / 16384 = 0
      · rw [if_pos c0, if_pos c0]
      · by_cases c1 : w / 16384 = 1
        · rw [if_neg c0, if_neg c0, if_pos c1, if_pos c1, e (w % 16384).toNat (fun q => hw (by unfold zwd; omega))]
        · rw [if_neg c0, if_neg c0, if_neg c1, if_neg c1]
    show zrn L C (zex L w st) = zrn K C (zex K w st)
    rw [ex, ih _ (fun y q => h y (List.mem_cons_of_mem _ q))]
theorem zpu_5 {L K : Nat → Int} (e : zL5 L K) {C : List Int} {v w : Int} (h : zpu L [] C v) (k : zpu K [] C w) (no : zno C) : v = w := by
  have a : [v] = [w] := (h []).symm.trans ((zrn_5 e C [] no).trans (k []))
  injection a
theorem zno_l {C D : List Int} (h : zno (C ++ D)) : zno C := fun w q => h w (List.mem_append.mpr (Or.inl q))
theorem zno_r {C D : List Int} (h : zno (C ++ D)) : zno D := fun w q => h w (List.mem_append.mpr (Or.inr q))
/-- behind a CONDITION -/
def zDrest (h : zM) : Int × zM :=
  zl2 (D_X8_takes_D 63 h) fun r36 h36 =>
  if r36 = 0 then
    (0, h36)
  else
    zl2 (D_X10_emit_D 2 0 h36) fun r42 h42 =>
    zl2 (D_X10_sum_L0_D h42) fun r47 h47 =>
    if r47 = 0 then
      (0, h47)
    else
      zl2 (D_X10_emit_D 3 0 h47) fun r53 h53 =>
      if 240 ≤ (h36 10 2) then
        (1, h53)
      else
        zlt (zm_up h53 11 ((h36 10 2).toNat) (zb_or 32768 (h53 10 2))) fun h61 =>
        (1, h61)
theorem zDrest_ok {b : Nat → Int} {n : Int} {h0 hC : zM} {C : List Int} {cv : (Nat → Int) → Int} (T : zTx b n h0) (a0 : 0 ≤ h0 1 2) (c0 : 0 ≤ h0 10 2 ∧ h0 10 2 + 2 ≤ h0 1 2) (P : zPt C h0 hC (hC 1 2)) (hn : h0 1 2 ≤ hC 1 2 ∧ hC 1 2 ≤ n) (lC : (C.length : Int) ≤ hC 1 2 - h0 1 2) (wC : zwo C) (vC : ∀ L, zpu L [] C (cv L)) (fC : zfi 0 18 C) (ok1 : (ztk b n 63 (hC 1 2)).1 ≠ 0) (ok2 : (zt_sum b n 6 (ztk b n 63 (hC 1 2)).2).1 ≠ 0) :
    ∃ (h1 : zM) (D : List Int), zDrest hC = (1, h1) ∧ zPt D h0 h1 (zt_sum b n 6 (ztk b n 63 (hC 1 2)).2).2 ∧ (D.length : Int) ≤ (zt_sum b n 6 (ztk b n 63 (hC 1 2)).2).2 - h0 1 2 + 1 ∧ zwo D ∧ (∀ L, zLr L → ∀ (w : Int) (E : List Int), zRn L (h0 10 2 + D.length) E w → zRn L (h0 10 2) (D ++ E) (if cv L ≠ 0 then zv_sum b n L 6 (ztk b n 63 (hC 1 2)).2 else w)) ∧ (zno D → ∀ L K, zL5 L K → cv L = cv K ∧ zv_sum b n L 6 (ztk b n 63 (hC 1 2)).2 = zv_sum b n K 6 (ztk b n 63 (hC 1 2)).2) := by
  have n240 := T.2.2.1
  have TC := zTx_P T P
  have lC2 : hC 10 2 = h0 10 2 + C.length := P.2.1.2
  have tf := ztk_f b n 63 (hC 1 2)
  have c63 : zpk b n (znx b n (hC 1 2)) = 63 := by
    by_cases q : zpk b n (znx b n (hC 1 2)) = 63
    · exact q
    · exact absurd (tf.2 q).1 ok1
  have tk := zD_tk (s := 63) TC (by omega)
  rw [(tf.1 c63).1] at tk
  have g1 := ztk_g (b := b) (n := n) (s := 63) (by decide) (hC 1 2) (by omega) (by omega)
  have g1s := g1.2.2 ok1
  have P36 := zPt_tr P (zPt_nx (h := hC) (x := (ztk b n 63 (hC 1 2)).2))
  rw [List.append_nil] at P36
  have e36 : zm_up hC 1 2 (ztk b n 63 (hC 1 2)).2 10 2 = h0 10 2 + C.length := (zm_ne (Or.inl (by decide))).trans lC2
  generalize hh36 : zm_up hC 1 2 (ztk b n 63 (hC 1 2)).2 = h36 at tk P36 e36
  have a36 : h36 1 2 = (ztk b n 63 (hC 1 2)).2 := P36.1.1
  obtain ⟨h42, f1, f2⟩ := zPt_em (s := 2) (o := 0) (h := h36) (by decide) (by decide) (by omega) (Or.inl (by unfold zwd; omega))
  rw [a36] at f2
  have P42 := zPt_tr P36 f2
  have a42 : h42 1 2 = (ztk b n 63 (hC 1 2)).2 := P42.1.1
  have l42 : h42 10 2 = h0 10 2 + (C.length + 1) := by
    have := f2.2.1.2
    rw [this, e36]
    show _ + ((1 : Nat) : Int) = _
    omega
  have g2 := zt_sum_g (b := b) (n := n) 6 (ztk b n 63 (hC 1 2)).2 (by omega) (by omega)
  have g2s := g2.2.2 ok2
  obtain ⟨h47, S, s1, s2, s3, s4, s5, s6⟩ := zCk_S0 (b := b) (n := n) h42 (zTx_P T P42) (by omega) (by omega) (by omega) (by omega) (by rw [a42]; exact ok2)
  rw [a42] at s2 s3 s5
  have P47 := zPt_tr P42 s2
  have a47 : h47 1 2 = (zt_sum b n 6 (ztk b n 63 (hC 1 2)).2).2 := P47.1.1
  have l47 : h47 10 2 = h0 10 2 + (C.length + 1) + S.length := by
    have := s2.2.1.2
    rw [this, l42]
  obtain ⟨h53, d1, d2⟩ := zPt_em (s := 3) (o := 0) (h := h47) (by decide) (by decide) (by omega) (Or.inl (by unfold zwd; omega))
  rw [a47] at d2
  have P53 := zPt_tr P47 d2
  have l53 : h53 10 2 = h0 10 2 + C.length + 1 + S.length + 1 := by
    have := d2.2.1.2
    rw [this, l47]
    show _ + ((1 : Nat) : Int) = _
    omega
  have eD : ∀ w E : List Int, (C ++ w) ++ S ++ E = C ++ (w ++ (S ++ E)) := fun w E => by rw [List.append_assoc, List.append_assoc]
  rw [eD] at P53
  obtain ⟨t, et⟩ : ∃ t, t = h53 10 2 := ⟨_, rfl⟩
  have eor : zb_or 32768 (h53 10 2) = zwd 2 t := by
    have z := zwd_or (s := 2) (o := t) (by decide) (by omega)
    rw [show zb_shl 2 14 = 32768 by decide +kernel] at z
    rw [← et]
    exact z
  have lD : ((C ++ zwd 2 t :: (S ++ [zwd 3 0])).length : Nat) = C.length + (S.length + 1 + 1) := by rw [List.length_append, List.length_cons, List.length_append]; rfl
  refine ⟨zm_up h53 11 (h36 10 2).toNat (zwd 2 t), C ++ zwd 2 t :: (S ++ [zwd 3 0]), ?_, ?_, ?_, ?_, fun L hL w E hE => ?_, fun no L K e => ⟨zpu_5 e (vC L) (vC K) (zno_l no), zpu_5 e (s5 L) (s5 K) (zno_l (D := [zwd 3 0]) (fun y q => no y (List.mem_append.mpr (Or.inr (List.mem_cons_of_mem _ q)))))⟩⟩
  · unfold zDrest
    rw [zl2_p tk, if_neg (show ¬ (1 : Int) = 0 by decide), zl2_p f1, zl2_p s1, if_neg (show ¬ (1 : Int) = 0 by decide), zl2_p d1, if_neg (show ¬ 240 ≤ h36 10 2 by omega), eor, zlt_e (rfl : zm_up h53 11 (h36 10 2).toNat (zwd 2 t) = _)]
  · obtain ⟨⟨p1, p2⟩, ⟨p3, p4⟩, ⟨p5, p6⟩, p7⟩ := P53
    refine ⟨⟨?_, ?_⟩, ⟨?_, ?_⟩, ⟨?_, fun z => ?_⟩, fun p a b c => ?_⟩
    · rw [zm_ne (Or.inl (by decide))]; exact p1
    · rw [zm_ne (Or.inl (by decide))]; exact p2
    · rw [zvu_up, p3, e36]
      exact zem_set C (zwd 2 0) (zwd 2 t) (S ++ [zwd 3 0]) (h0 11) (h0 10 2) c0.1
    · rw [zm_ne (Or.inl (by decide)), l53, lD]
      omega
    · rw [zm_ne (Or.inl (by decide))]; exact p5
    · rw [zm_ne (Or.inl (by decide))] at z
      exact ⟨(p6 z).1, zno_set (w := zwd 2 0) (p6 z).2 (by unfold zwd; omega)⟩
    · rw [zup_o c]; exact p7 p a b c
  · rw [lD]
    omega
  · refine zwo_app wC (fun y q => ?_)
    rcases List.mem_cons.mp q with q | q
    · subst q
      unfold zwd
      omega
    · exact zwo_app s4 (zwo_1 (by decide) (by decide)) y q
  · rw [show (C ++ zwd 2 t :: (S ++ [zwd 3 0])) ++ E = C ++ zwd 2 t :: (S ++ zwd 3 0 :: E) by rw [List.append_assoc, List.cons_append, List.append_assoc]; rfl]
    refine zRn_c hL (vC L) (zfi_up fC (by decide)) wC (s5 L) (zfi_up s6 (by decide)) s4 (by omega) ?_
    rw [show t = h0 10 2 + (((C ++ zwd 2 t :: (S ++ [zwd 3 0])).length : Nat) : Int) by rw [lD]; omega]
    exact hE
