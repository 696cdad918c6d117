/-! HOUSE: what letters are worth does not hang on values that no letter names; values keep their bounds -/
theorem zits_v {b : Nat → Int} {n : Int} {L : List Int} {lo hi : Nat → Int} : ∀ (k : Nat) (had a : Int) (v w : Nat → Int),
    (zits b n L lo hi k had a v).1 = (zits b n L lo hi k had a w).1 ∧ (zits b n L lo hi k had a v).2.1 = (zits b n L lo hi k had a w).2.1 ∧ ∀ j, v j = w j → (zits b n L lo hi k had a v).2.2 j = (zits b n L lo hi k had a w).2.2 j := by
  intro k
  induction k with
  | zero => intro had a v w; exact ⟨rfl, rfl, fun _ h => h⟩
  | succ k ih =>
    intro had a v w
    by_cases h : zix L 0 (zpk b n (znx b n a)) = -1
    · rw [zits_no k had a v h, zits_no k had a w h]; exact ⟨rfl, rfl, fun _ h => h⟩
    · by_cases h1 : zb_and (zb_shr had (zix L 0 (zpk b n (znx b n a)))) 1 = 1
      · rw [zits_had k had a v h h1, zits_had k had a w h h1]; exact ⟨rfl, rfl, fun _ h => h⟩
      · by_cases h2 : (zn2 b n (znx b n a + 1)).1 = 0
        · rw [zits_bad k had a v h h1 h2, zits_bad k had a w h h1 h2]; exact ⟨rfl, rfl, fun _ h => h⟩
        · by_cases h3 : (zn2 b n (znx b n a + 1)).2.2 < lo (zix L 0 (zpk b n (znx b n a))).toNat ∨ hi (zix L 0 (zpk b n (znx b n a))).toNat < (zn2 b n (znx b n a + 1)).2.2
          · rw [zits_out k had a v h h1 h2 h3, zits_out k had a w h h1 h2 h3]; exact ⟨rfl, rfl, fun _ h => h⟩
          · rw [zits_st k had a v h h1 h2 h3, zits_st k had a w h h1 h2 h3]
            refine ⟨(ih _ _ _ _).1, (ih _ _ _ _).2.1, fun j hj => (ih _ _ _ _).2.2 j ?_⟩
            unfold zvu
            rw [hj]
theorem zits_rg {b : Nat → Int} {n : Int} {L : List Int} {lo hi : Nat → Int} : ∀ (k : Nat) (had a : Int) (v : Nat → Int),
    (∀ j, lo j ≤ v j ∧ v j ≤ hi j) → ∀ j, lo j ≤ (zits b n L lo hi k had a v).2.2 j ∧ (zits b n L lo hi k had a v).2.2 j ≤ hi j := by
  intro k
  induction k with
  | zero => intro had a v h; exact h
  | succ k ih =>
    intro had a v hv
    by_cases h : zix L 0 (zpk b n (znx b n a)) = -1
    · rw [zits_no k had a v h]; exact hv
    · by_cases h1 : zb_and (zb_shr had (zix L 0 (zpk b n (znx b n a)))) 1 = 1
      · rw [zits_had k had a v h h1]; exact hv
      · by_cases h2 : (zn2 b n (znx b n a + 1)).1 = 0
        · rw [zits_bad k had a v h h1 h2]; exact hv
        · by_cases h3 : (zn2 b n (znx b n a + 1)).2.2 < lo (zix L 0 (zpk b n (znx b n a))).toNat ∨ hi (zix L 0 (zpk b n (znx b n a))).toNat < (zn2 b n (znx b n a + 1)).2.2
          · rw [zits_out k had a v h h1 h2 h3]; exact hv
          · rw [zits_st k had a v h h1 h2 h3]
            refine ih _ _ _ (fun j => ?_)
            unfold zvu
            by_cases q : j = (zix L 0 (zpk b n (znx b n a))).toNat
            · rw [if_pos q, q]; omega
            · rw [if_neg q]; exact hv j
theorem zlst_c : ∀ j : Fin 7, zlst [0, 0, 1, 1, 1, 0, 0] j ≤ zlst [0, 1, 10, 40, 8, 0, 6] j ∧ zlst [0, 1, 10, 40, 8, 0, 6] j ≤ zlst [4, 9, 99, 99, 99, 3, 6] j := by decide +kernel
theorem zic_rg (b : Nat → Int) (n a : Int) (j : Nat) : zlst [0, 0, 1, 1, 1, 0, 0] j ≤ (zic b n a).2.2 j ∧ (zic b n a).2.2 j ≤ zlst [4, 9, 99, 99, 99, 3, 6] j := by
  refine zits_rg 8 0 a _ (fun j => ?_) j
  by_cases q : j < 7
  · exact zlst_c ⟨j, q⟩
  · have e : ∀ l : List Int, l.length = 7 → zlst l j = 0 := fun l hl => by
      unfold zlst
      rw [List.getD_eq_getElem?_getD, List.getElem?_eq_none (by omega)]
      rfl
    rw [e _ rfl, e _ rfl, e _ rfl]
    exact ⟨Int.le_refl 0, Int.le_refl 0⟩
theorem zir_rg (b : Nat → Int) (n a : Int) : 0 ≤ (zir b n a).2.2 0 ∧ (zir b n a).2.2 0 ≤ 5 := by
  refine zits_rg 2 0 a _ (fun j => ?_) 0
  cases j with
  | zero => exact ⟨by decide, by decide⟩
  | succ j => exact ⟨Int.le_refl 0, Int.le_refl 0⟩
/-! the store that the class's memory shows -/
def zdc (x : Int) : Int := if x = -1 then 5 else if x = 5 then 6 else x
def zd6 (x : Int) : Int := if x = -1 then 6 else if x = 6 then 7 else x
theorem zdc_e {x y : Int} (h : (x = 5 ∧ y = -1) ∨ (x ≠ 5 ∧ y = x)) (h0 : 0 ≤ x) : zdc y = x := by
  unfold zdc
  rcases h with h | h
  · rw [if_pos h.2]; exact h.1.symm
  · rw [if_neg (by omega), if_neg (by omega)]; exact h.2
theorem zd6_e {x y : Int} (h : (x = 6 ∧ y = -1) ∨ (x ≠ 6 ∧ y = x)) (h0 : 0 ≤ x) : zd6 y = x := by
  unfold zd6
  rcases h with h | h
  · rw [if_pos h.2]; exact h.1.symm
  · rw [if_neg (by omega), if_neg (by omega)]; exact h.2
def zr79 (m : zM) : Nat → Int := fun i => if i = 28 then m 4 3 else if i = 29 then m 8 185 else if i = 30 then m 4 4 else 0
def zr85 (m : zM) : Nat → Int := fun i => if (i : Int) < m 4 3 then zdc (m 5 i) else 0
def zr86 (m : zM) : Nat → Int := fun i => if ((i / 7 : Nat) : Int) < m 8 185 then (if i % 7 = 6 then zd6 (m 8 (60 + i / 7)) else m 8 (10 * (i % 7) + i / 7)) else 0
def zr87 (m : zM) : Nat → Int := fun i => if ((i / 2 : Nat) : Int) < m 4 4 then m 8 (160 + 6 * (i % 2) + i / 2) else 0
def zr91 (m : zM) : Nat → Int := fun i => if (i : Int) < m 4 4 then m 7 i else 0
def zr89 (m : zM) : Nat → Int := fun i => if ((i / 8 : Nat) : Int) < m 4 4 ∧ ((i % 8 : Nat) : Int) < m 7 (i / 8) then m 6 i else 0
def zsel (a b c d e f : Nat → Int) : zM := fun p => if p = 79 then a else if p = 85 then b else if p = 86 then c else if p = 87 then d else if p = 91 then e else if p = 89 then f else fun _ => 0
def zWc (m : zM) : zM := zsel (zr79 m) (zr85 m) (zr86 m) (zr87 m) (zr91 m) (zr89 m)
theorem zsel_ext {W : zM} {a b c d e f : Nat → Int} (ha : W 79 = a) (hb : W 85 = b) (hc : W 86 = c) (hd : W 87 = d) (he : W 91 = e) (hf : W 89 = f)
    (h0 : ∀ p, p ≠ 79 → p ≠ 85 → p ≠ 86 → p ≠ 87 → p ≠ 91 → p ≠ 89 → W p = fun _ => 0) : zsel a b c d e f = W := by
  funext p
  unfold zsel
  by_cases q1 : p = 79
  · rw [if_pos q1, q1, ha]
  rw [if_neg q1]
  by_cases q2 : p = 85
  · rw [if_pos q2, q2, hb]
  rw [if_neg q2]
  by_cases q3 : p = 86
  · rw [if_pos q3, q3, hc]
  rw [if_neg q3]
  by_cases q4 : p = 87
  · rw [if_pos q4, q4, hd]
  rw [if_neg q4]
  by_cases q5 : p = 91
  · rw [if_pos q5, q5, he]
  rw [if_neg q5]
  by_cases q6 : p = 89
  · rw [if_pos q6, q6, hf]
  rw [if_neg q6]
  exact (h0 p q1 q2 q3 q4 q5 q6).symm
section
variable {a b c d e f : Nat → Int}
theorem zsel_79 : zsel a b c d e f 79 = a := if_pos rfl
theorem zsel_85 : zsel a b c d e f 85 = b := (if_neg (by decide)).trans (if_pos rfl)
theorem zsel_86 : zsel a b c d e f 86 = c := (if_neg (by decide)).trans ((if_neg (by decide)).trans (if_pos rfl))
theorem zsel_87 : zsel a b c d e f 87 = d := (if_neg (by decide)).trans ((if_neg (by decide)).trans ((if_neg (by decide)).trans (if_pos rfl)))
theorem zsel_91 : zsel a b c d e f 91 = e := (if_neg (by decide)).trans ((if_neg (by decide)).trans ((if_neg (by decide)).trans ((if_neg (by decide)).trans (if_pos rfl))))
theorem zsel_89 : zsel a b c d e f 89 = f := (if_neg (by decide)).trans ((if_neg (by decide)).trans ((if_neg (by decide)).trans ((if_neg (by decide)).trans ((if_neg (by decide)).trans (if_pos rfl)))))
theorem zsel_0 {p : Nat} (h1 : p ≠ 79) (h2 : p ≠ 85) (h3 : p ≠ 86) (h4 : p ≠ 87) (h5 : p ≠ 91) (h6 : p ≠ 89) : zsel a b c d e f p = fun _ => 0 :=
  (if_neg h1).trans ((if_neg h2).trans ((if_neg h3).trans ((if_neg h4).trans ((if_neg h5).trans (if_neg h6)))))
end
theorem zput_o {w : zM} {q i0 k p : Nat} {v : Nat → Int} (h : p ≠ q) : zput w q i0 k v p = w p := funext fun i => if_neg (fun z => h z.1)
theorem zput_r {w : zM} {q i0 k : Nat} {v : Nat → Int} : zput w q i0 k v q = fun i => if i0 ≤ i ∧ i < i0 + k then v (i - i0) else w q i := by
  funext i
  unfold zput
  by_cases h : i0 ≤ i ∧ i < i0 + k
  · rw [if_pos ⟨rfl, h⟩, if_pos h]
  · rw [if_neg (fun z => h z.2), if_neg h]
theorem zup_o {m : zM} {p i q : Nat} {x : Int} (h : q ≠ p) : (zm_up m p i x) q = m q := funext fun _ => zm_ne (Or.inl h)
theorem zWc_28 (m : zM) : zWc m 79 28 = m 4 3 := by unfold zWc; rw [zsel_79]; rfl
theorem zWc_29 (m : zM) : zWc m 79 29 = m 8 185 := by unfold zWc; rw [zsel_79]; rfl
theorem zWc_30 (m : zM) : zWc m 79 30 = m 4 4 := by unfold zWc; rw [zsel_79]; rfl
theorem zWc_c {m M : zM} (h4 : M 4 = m 4) (h5 : M 5 = m 5) (h6 : M 6 = m 6) (h7 : M 7 = m 7) (h8 : M 8 = m 8) : zWc M = zWc m := by
  unfold zWc zr79 zr85 zr86 zr87 zr91 zr89
  rw [h4, h5, h6, h7, h8]
/-- one more ROOM -/
theorem zWc_room {m : zM} {x : Int} {n : Nat} {v : Nat → Int} (hn : m 4 3 = n) (hv : zdc x = v 0) : zWc (zm_up (zm_up m 5 n x) 4 3 (n + 1)) = zput (zm_up (zWc m) 79 28 (n + 1)) 85 n 1 v := by
  obtain ⟨M, hM⟩ : ∃ M, M = zm_up (zm_up m 5 n x) 4 3 (n + 1) := ⟨_, rfl⟩
  have e43 : M 4 3 = n + 1 := by rw [hM]; exact zm_eq
  have e44 : M 4 4 = m 4 4 := by rw [hM, zm_ne (Or.inr (by decide)), zm_ne (Or.inl (by decide))]
  have e8 : M 8 = m 8 := by rw [hM, zup_o (by decide), zup_o (by decide)]
  have e7 : M 7 = m 7 := by rw [hM, zup_o (by decide), zup_o (by decide)]
  have e6 : M 6 = m 6 := by rw [hM, zup_o (by decide), zup_o (by decide)]
  have e5 : ∀ j, M 5 j = if j = n then x else m 5 j := fun j => by
    rw [hM, zup_o (by decide), zvu_up]; rfl
  rw [← hM]
  refine zsel_ext ?_ ?_ ?_ ?_ ?_ ?_ ?_
  · rw [zput_o (by decide), zvu_up]
    funext i
    show (if i = 28 then ((n : Int) + 1) else zWc m 79 i) = (if i = 28 then M 4 3 else if i = 29 then M 8 185 else if i = 30 then M 4 4 else 0)
    by_cases q : i = 28
    · rw [if_pos q, if_pos q, e43]
    · rw [if_neg q, if_neg q, e44, e8]
      unfold zWc
      rw [zsel_79]
      exact if_neg q
  · rw [zput_r]
    funext i
    show (if n ≤ i ∧ i < n + 1 then v (i - n) else zm_up (zWc m) 79 28 (n + 1) 85 i) = (if (i : Int) < M 4 3 then zdc (M 5 i) else 0)
    rw [e43, e5]
    by_cases q : i = n
    · rw [if_pos (by omega), if_pos (by omega), if_pos q, q, Nat.sub_self, hv]
    · rw [if_neg (by omega), if_neg q, zup_o (by decide)]
      unfold zWc
      rw [zsel_85]
      unfold zr85
      rw [hn]
      by_cases q2 : (i : Int) < n
      · rw [if_pos q2, if_pos (by omega)]
      · rw [if_neg q2, if_neg (by omega)]
  · rw [zput_o (by decide), zup_o (by decide)]
    unfold zWc
    rw [zsel_86]
    unfold zr86
    rw [e8]
  · rw [zput_o (by decide), zup_o (by decide)]
    unfold zWc
    rw [zsel_87]
    unfold zr87
    rw [e8, e44]
  · rw [zput_o (by decide), zup_o (by decide)]
    unfold zWc
    rw [zsel_91]
    unfold zr91
    rw [e7, e44]
  · rw [zput_o (by decide), zup_o (by decide)]
    unfold zWc
    rw [zsel_89]
    unfold zr89
    rw [e7, e6, e44]
  · intro p h1 h2 h3 h4 h5 h6
    rw [zput_o h2, zup_o h1]
    exact zsel_0 h1 h2 h3 h4 h5 h6
/-- one more CLOCK -/
theorem zWc_clock {m M : zM} {n : Nat} {v : Nat → Int} (hn : m 8 185 = n) (e4 : M 4 = m 4) (e5 : M 5 = m 5) (e6 : M 6 = m 6) (e7 : M 7 = m 7) (hc : M 8 185 = n + 1)
    (hv : ∀ j, j < 6 → M 8 (10 * j + n) = v j) (h6 : zd6 (M 8 (60 + n)) = v 6) (ho : ∀ j c, j < 7 → c < n → M 8 (10 * j + c) = m 8 (10 * j + c)) (hp : ∀ i, 160 ≤ i → i < 172 → M 8 i = m 8 i) (h44 : m 4 4 ≤ 6) :
    zWc M = zput (zm_up (zWc m) 79 29 (n + 1)) 86 (7 * n) 7 v := by
  refine zsel_ext ?_ ?_ ?_ ?_ ?_ ?_ ?_
  · rw [zput_o (by decide), zvu_up]
    funext i
    show (if i = 29 then ((n : Int) + 1) else zWc m 79 i) = (if i = 28 then M 4 3 else if i = 29 then M 8 185 else if i = 30 then M 4 4 else 0)
    by_cases q : i = 29
    · rw [if_pos q, if_neg (by omega), if_pos q, hc]
    · rw [if_neg q, if_neg q, e4]
      unfold zWc
      rw [zsel_79]
      unfold zr79
      rw [if_neg q]
  · rw [zput_o (by decide), zup_o (by decide)]
    unfold zWc
    rw [zsel_85]
    unfold zr85
    rw [e4, e5]
  · rw [zput_r]
    funext i
    show (if 7 * n ≤ i ∧ i < 7 * n + 7 then v (i - 7 * n) else zm_up (zWc m) 79 29 (n + 1) 86 i) = (if ((i / 7 : Nat) : Int) < M 8 185 then (if i % 7 = 6 then zd6 (M 8 (60 + i / 7)) else M 8 (10 * (i % 7) + i / 7)) else 0)
    rw [hc]
    by_cases q : 7 * n ≤ i ∧ i < 7 * n + 7
    · have g1 : i / 7 = n := by omega
      have g2 : i - 7 * n = i % 7 := by omega
      rw [if_pos q, if_pos (by omega), g1, g2]
      by_cases q6 : i % 7 = 6
      · rw [if_pos q6, q6, h6]
      · rw [if_neg q6, hv _ (by omega)]
    · rw [if_neg q, zup_o (by decide)]
      unfold zWc
      rw [zsel_86]
      unfold zr86
      rw [hn]
      by_cases q2 : ((i / 7 : Nat) : Int) < n
      · rw [if_pos q2, if_pos (show ((i / 7 : Nat) : Int) < (n : Int) + 1 by omega)]
        have g := ho (i % 7) (i / 7) (by omega) (by omega)
        by_cases q6 : i % 7 = 6
        · rw [if_pos q6, if_pos q6]
          rw [q6] at g
          exact congrArg zd6 g.symm
        · rw [if_neg q6, if_neg q6]
          exact g.symm
      · rw [if_neg q2, if_neg (by omega)]
  · rw [zput_o (by decide), zup_o (by decide)]
    unfold zWc
    rw [zsel_87]
    funext i
    unfold zr87
    rw [e4]
    by_cases q : ((i / 2 : Nat) : Int) < m 4 4
    · rw [if_pos q, if_pos q, hp _ (by omega) (by omega)]
    · rw [if_neg q, if_neg q]
  · rw [zput_o (by decide), zup_o (by decide)]
    unfold zWc
    rw [zsel_91]
    unfold zr91
    rw [e4, e7]
  · rw [zput_o (by decide), zup_o (by decide)]
    unfold zWc
    rw [zsel_89]
    unfold zr89
    rw [e4, e6, e7]
  · intro p h1 h2 h3 h4 h5 h6
    rw [zput_o h3, zup_o h1]
    exact zsel_0 h1 h2 h3 h4 h5 h6
/-- one more PERSON, without a WAY -/
theorem zWc_person {m M : zM} {n : Nat} {v : Nat → Int} (hn : m 4 4 = n) (hM : M 4 4 = n + 1) (e43 : M 4 3 = m 4 3) (e5 : M 5 = m 5) (e6 : M 6 = m 6) (e7 : M 7 = zvu (m 7) n 0)
    (h0 : M 8 (160 + n) = v 0) (h1 : M 8 (166 + n) = v 1) (hn5 : n ≤ 5) (ho : ∀ i, i < 160 → M 8 i = m 8 i) (h185 : M 8 185 = m 8 185) (hp : ∀ i, i < n → M 8 (160 + i) = m 8 (160 + i) ∧ M 8 (166 + i) = m 8 (166 + i)) (hc : m 8 185 ≤ 10) :
    zWc M = zcl_q (zWc m) v := by
  have g30 : zWc m 79 30 = n := (zWc_30 m).trans hn
  unfold zcl_q
  rw [g30, show ((n : Int)).toNat = n by omega]
  refine zsel_ext ?_ ?_ ?_ ?_ ?_ ?_ ?_
  · rw [zput_o (by decide), zup_o (by decide), zvu_up]
    funext i
    show (if i = 30 then ((n : Int) + 1) else zWc m 79 i) = (if i = 28 then M 4 3 else if i = 29 then M 8 185 else if i = 30 then M 4 4 else 0)
    by_cases q : i = 30
    · rw [if_pos q, if_neg (by omega), if_neg (by omega), if_pos q, hM]
    · rw [if_neg q, if_neg q, e43, h185]
      unfold zWc
      rw [zsel_79]
      unfold zr79
      rw [if_neg q]
  · rw [zput_o (by decide), zup_o (by decide), zup_o (by decide)]
    unfold zWc
    rw [zsel_85]
    unfold zr85
    rw [e43, e5]
  · rw [zput_o (by decide), zup_o (by decide), zup_o (by decide)]
    unfold zWc
    rw [zsel_86]
    funext i
    unfold zr86
    rw [h185]
    by_cases q : ((i / 7 : Nat) : Int) < m 8 185
    · rw [if_pos q, if_pos q, ho _ (by omega), ho _ (by omega)]
    · rw [if_neg q, if_neg q]
  · rw [zput_r]
    funext i
    show (if 2 * n ≤ i ∧ i < 2 * n + 2 then v (i - 2 * n) else zm_up (zm_up (zWc m) 79 30 (n + 1)) 91 n 0 87 i) = (if ((i / 2 : Nat) : Int) < M 4 4 then M 8 (160 + 6 * (i % 2) + i / 2) else 0)
    rw [hM]
    by_cases q : 2 * n ≤ i ∧ i < 2 * n + 2
    · rw [if_pos q, if_pos (by omega)]
      rcases (show i = 2 * n ∨ i = 2 * n + 1 by omega) with g | g
      · rw [show i - 2 * n = 0 by omega, show 160 + 6 * (i % 2) + i / 2 = 160 + n by omega, h0]
      · rw [show i - 2 * n = 1 by omega, show 160 + 6 * (i % 2) + i / 2 = 166 + n by omega, h1]
    · rw [if_neg q, zup_o (by decide), zup_o (by decide)]
      unfold zWc
      rw [zsel_87]
      unfold zr87
      rw [hn]
      by_cases q2 : ((i / 2 : Nat) : Int) < n
      · rw [if_pos q2, if_pos (by omega)]
        have g := hp (i / 2) (by omega)
        rcases (show i % 2 = 0 ∨ i % 2 = 1 by omega) with k | k
        · rw [k]; exact g.1.symm
        · rw [k]; exact g.2.symm
      · rw [if_neg q2, if_neg (by omega)]
  · rw [zput_o (by decide), zvu_up, zup_o (by decide)]
    funext i
    show (if i = n then 0 else zWc m 91 i) = (if (i : Int) < M 4 4 then M 7 i else 0)
    rw [hM, e7]
    show (if i = n then 0 else zWc m 91 i) = (if (i : Int) < n + 1 then (if i = n then 0 else m 7 i) else 0)
    by_cases q : i = n
    · rw [if_pos q, if_pos q]
      by_cases q2 : (i : Int) < n + 1
      · rw [if_pos q2]
      · rw [if_neg q2]
    · rw [if_neg q, if_neg q]
      unfold zWc
      rw [zsel_91]
      unfold zr91
      rw [hn]
      by_cases q2 : (i : Int) < n
      · rw [if_pos q2, if_pos (by omega)]
      · rw [if_neg q2, if_neg (by omega)]
  · rw [zput_o (by decide), zup_o (by decide), zup_o (by decide)]
    unfold zWc
    rw [zsel_89]
    funext i
    show (if ((i / 8 : Nat) : Int) < m 4 4 ∧ ((i % 8 : Nat) : Int) < m 7 (i / 8) then m 6 i else 0) = (if ((i / 8 : Nat) : Int) < M 4 4 ∧ ((i % 8 : Nat) : Int) < M 7 (i / 8) then M 6 i else 0)
    rw [hM, hn, e6, e7]
    show _ = (if ((i / 8 : Nat) : Int) < n + 1 ∧ ((i % 8 : Nat) : Int) < (if i / 8 = n then 0 else m 7 (i / 8)) then m 6 i else 0)
    by_cases q : i / 8 = n
    · rw [if_pos q, if_neg (by omega), if_neg (by omega)]
    · rw [if_neg q]
      by_cases q2 : ((i / 8 : Nat) : Int) < n ∧ ((i % 8 : Nat) : Int) < m 7 (i / 8)
      · rw [if_pos q2, if_pos ⟨by omega, q2.2⟩]
      · rw [if_neg q2, if_neg (fun z => q2 ⟨by omega, z.2⟩)]
  · intro p h1 h2 h3 h4 h5 h6
    rw [zput_o h4, zup_o h5, zup_o h1]
    exact zsel_0 h1 h2 h3 h4 h5 h6
/-- the WAY of the last one -/
theorem zWc_way {m M : zM} {n k : Nat} {v : Nat → Int} (hn : (n : Int) < m 4 4) (e4 : M 4 = m 4) (e5 : M 5 = m 5) (e8 : M 8 = m 8) (h70 : m 7 n = 0) (h7 : M 7 = zvu (m 7) n k) (hk : k ≤ 8) (h6 : ∀ i, i < 8 * n ∨ 8 * n + 8 ≤ i → M 6 i = m 6 i) (hv : ∀ j, j < k → M 6 (8 * n + j) = v j) :
    zWc M = zput (zm_up (zWc m) 91 n k) 89 (8 * n) k v := by
  refine zsel_ext ?_ ?_ ?_ ?_ ?_ ?_ ?_
  · rw [zput_o (by decide), zup_o (by decide)]
    unfold zWc
    rw [zsel_79]
    unfold zr79
    rw [e4, e8]
  · rw [zput_o (by decide), zup_o (by decide)]
    unfold zWc
    rw [zsel_85]
    unfold zr85
    rw [e4, e5]
  · rw [zput_o (by decide), zup_o (by decide)]
    unfold zWc
    rw [zsel_86]
    unfold zr86
    rw [e8]
  · rw [zput_o (by decide), zup_o (by decide)]
    unfold zWc
    rw [zsel_87]
    unfold zr87
    rw [e4, e8]
  · rw [zput_o (by decide), zvu_up]
    funext i
    show (if i = n then (k : Int) else zWc m 91 i) = (if (i : Int) < M 4 4 then M 7 i else 0)
    rw [e4, h7]
    show (if i = n then (k : Int) else zWc m 91 i) = (if (i : Int) < m 4 4 then (if i = n then (k : Int) else m 7 i) else 0)
    by_cases q : i = n
    · rw [if_pos q, if_pos q, if_pos (by omega)]
    · rw [if_neg q, if_neg q]
      unfold zWc
      rw [zsel_91]
      rfl
  · rw [zput_r]
    funext i
    show (if 8 * n ≤ i ∧ i < 8 * n + k then v (i - 8 * n) else zm_up (zWc m) 91 n k 89 i) = (if ((i / 8 : Nat) : Int) < M 4 4 ∧ ((i % 8 : Nat) : Int) < M 7 (i / 8) then M 6 i else 0)
    rw [e4, h7]
    show _ = (if ((i / 8 : Nat) : Int) < m 4 4 ∧ ((i % 8 : Nat) : Int) < (if i / 8 = n then (k : Int) else m 7 (i / 8)) then M 6 i else 0)
    by_cases q : i / 8 = n
    · rw [if_pos q]
      by_cases q2 : i < 8 * n + k
      · rw [if_pos ⟨by omega, q2⟩, if_pos ⟨by omega, by omega⟩, ← hv (i - 8 * n) (by omega)]
        exact congrArg (M 6) (by omega)
      · rw [if_neg (by omega), if_neg (by omega), zup_o (by decide)]
        unfold zWc
        rw [zsel_89]
        unfold zr89
        rw [q, h70]
        exact if_neg (by omega)
    · rw [if_neg q, if_neg (by omega), zup_o (by decide), h6 i (by omega)]
      unfold zWc
      rw [zsel_89]
      rfl
  · intro p h1 h2 h3 h4 h5 h6
    rw [zput_o h6, zup_o h5]
    exact zsel_0 h1 h2 h3 h4 h5 h6
/-! how the class's readers change what their memory shows -/
theorem zupc {m : zM} {p i j : Nat} {x y : Int} (h : i = j) (h2 : x = y) : zm_up m p i x = zm_up m p j y := by rw [h, h2]
theorem zWc_D {m M : zM} (h : zD9 (fun p i => (p = 1 ∧ (i = 2 ∨ i = 3)) ∨ p = 9) m M) : zWc M = zWc m := by
  have e : ∀ p, p ≠ 1 → p ≠ 9 → M p = m p := fun p h1 h9 => funext fun i => h p i (fun q => q.elim (fun w => h1 w.1) h9)
  exact zWc_c (e 4 (by decide) (by decide)) (e 5 (by decide) (by decide)) (e 6 (by decide) (by decide)) (e 7 (by decide) (by decide)) (e 8 (by decide) (by decide))
theorem zWc_D1 {m M : zM} (h : zD9 (fun p i => p = 1 ∧ (i = 2 ∨ i = 3)) m M) : zWc M = zWc m := zWc_D (zD9_mo h (fun _ _ w => Or.inl w))
theorem zWc_9 (m : zM) (i : Nat) (x : Int) : zWc (zm_up m 9 i x) = zWc m := zWc_c (zup_o (by decide)) (zup_o (by decide)) (zup_o (by decide)) (zup_o (by decide)) (zup_o (by decide))
theorem zWc_1 (m : zM) (i : Nat) (x : Int) : zWc (zm_up m 1 i x) = zWc m := zWc_c (zup_o (by decide)) (zup_o (by decide)) (zup_o (by decide)) (zup_o (by decide)) (zup_o (by decide))
theorem zcs_o {m : zM} {K k q : Nat} (h : q ≠ 9) : zm_cs m 9 K k q = m q := funext fun _ => zm_cs_ne (Or.inl h)
theorem zWc_cs (m : zM) (K k : Nat) : zWc (zm_cs m 9 K k) = zWc m := zWc_c (zcs_o (by decide)) (zcs_o (by decide)) (zcs_o (by decide)) (zcs_o (by decide)) (zcs_o (by decide))
theorem zD9_cs {S : Nat → Nat → Prop} {m M : zM} {a K k : Nat} (h : zD9 S m M) (q : ∀ i, S a i) : zD9 S m (zm_cs M a K k) := fun r j hr => (zm_cs_ne (Or.inl (fun e => hr (by rw [e]; exact q j)))).trans (h r j hr)
theorem zst9_2 : ∀ j : Fin 7, zst9 2 j = zlst [0, 1, 10, 40, 8, 0, 6] j := by decide +kernel
theorem zst9_5 : ∀ j : Fin 7, zst9 5 j = 10 * ((j.val : Nat) : Int) := by decide +kernel
theorem zcs_9 (m : zM) (j : Nat) (h : j < 7) : zm_cs m 9 2 7 9 j = zlst [0, 1, 10, 40, 8, 0, 6] j := by
  unfold zm_cs
  rw [if_pos ⟨rfl, h⟩]
  exact zst9_2 ⟨j, h⟩
theorem zir_e (b : Nat → Int) (n a : Int) {v : Nat → Int} (h : v 0 = 5) : (zits b n zLs0 (zlst [0]) (zlst [5]) 2 0 a v).1 = (zir b n a).1 ∧ (zits b n zLs0 (zlst [0]) (zlst [5]) 2 0 a v).2.1 = (zir b n a).2.1 ∧ (zits b n zLs0 (zlst [0]) (zlst [5]) 2 0 a v).2.2 0 = (zir b n a).2.2 0 :=
  ⟨(zits_v 2 0 a v (zlst [5])).1, (zits_v 2 0 a v (zlst [5])).2.1, (zits_v 2 0 a v (zlst [5])).2.2 0 h⟩
theorem zic_e (b : Nat → Int) (n a : Int) {v : Nat → Int} (h : ∀ j, j < 7 → v j = zlst [0, 1, 10, 40, 8, 0, 6] j) : (zits b n zLs1 (zlst [0, 0, 1, 1, 1, 0, 0]) (zlst [4, 9, 99, 99, 99, 3, 6]) 8 0 a v).1 = (zic b n a).1 ∧ (zits b n zLs1 (zlst [0, 0, 1, 1, 1, 0, 0]) (zlst [4, 9, 99, 99, 99, 3, 6]) 8 0 a v).2.1 = (zic b n a).2.1 ∧ ∀ j, j < 7 → (zits b n zLs1 (zlst [0, 0, 1, 1, 1, 0, 0]) (zlst [4, 9, 99, 99, 99, 3, 6]) 8 0 a v).2.2 j = (zic b n a).2.2 j :=
  ⟨(zits_v 8 0 a v _).1, (zits_v 8 0 a v _).2.1, fun j hj => (zits_v 8 0 a v _).2.2 j (h j hj)⟩
theorem zip_e (b : Nat → Int) (n a : Int) {v : Nat → Int} (h : v 0 = 2) (h1 : v 1 = 0) : (zits b n zLs2 (zlst [0, 0]) (zlst [9, 1]) 3 0 a v).1 = (zipn b n a).1 ∧ (zits b n zLs2 (zlst [0, 0]) (zlst [9, 1]) 3 0 a v).2.1 = (zipn b n a).2.1 ∧ (zits b n zLs2 (zlst [0, 0]) (zlst [9, 1]) 3 0 a v).2.2 0 = (zipn b n a).2.2 0 ∧ (zits b n zLs2 (zlst [0, 0]) (zlst [9, 1]) 3 0 a v).2.2 1 = (zipn b n a).2.2 1 :=
  ⟨(zits_v 3 0 a v _).1, (zits_v 3 0 a v _).2.1, (zits_v 3 0 a v _).2.2 0 h, (zits_v 3 0 a v _).2.2 1 h1⟩
theorem zcl_r_0 (b : Nat → Int) (n a : Int) (w : zM) (h : (zir b n a).1 = 0) : (zcl_r b n a w).1 = 0 ∧ (zcl_r b n a w).2.1 = (zir b n a).2.1 := by
  have e : zcl_r b n a w = (0, (zir b n a).2.1, w) := if_pos h
  rw [e]; exact ⟨rfl, rfl⟩
theorem zcl_r_1 (b : Nat → Int) (n a : Int) (w : zM) (k : Nat) (hk : w 79 28 = k) (h : (zir b n a).1 ≠ 0) : (zcl_r b n a w).1 = 1 ∧ (zcl_r b n a w).2.1 = (zir b n a).2.1 ∧ (zcl_r b n a w).2.2 = zput (zm_up w 79 28 (k + 1)) 85 k 1 (zir b n a).2.2 := by
  have e : zcl_r b n a w = (1, (zir b n a).2.1, zput (zm_up w 79 28 (w 79 28 + 1)) 85 (w 79 28).toNat 1 (zir b n a).2.2) := if_neg h
  rw [e, hk]; exact ⟨rfl, rfl, rfl⟩
theorem zcl_c_0 (b : Nat → Int) (n a : Int) (w : zM) (h : (zic b n a).1 = 0) : (zcl_c b n a w).1 = 0 ∧ (zcl_c b n a w).2.1 = (zic b n a).2.1 := by
  have e : zcl_c b n a w = (0, (zic b n a).2.1, w) := if_pos h
  rw [e]; exact ⟨rfl, rfl⟩
theorem zcl_c_1 (b : Nat → Int) (n a : Int) (w : zM) (k : Nat) (hk : w 79 29 = k) (h : (zic b n a).1 ≠ 0) : (zcl_c b n a w).1 = 1 ∧ (zcl_c b n a w).2.1 = (zic b n a).2.1 ∧ (zcl_c b n a w).2.2 = zput (zm_up w 79 29 (k + 1)) 86 (7 * k) 7 (zic b n a).2.2 := by
  have e : zcl_c b n a w = (1, (zic b n a).2.1, zput (zm_up w 79 29 (w 79 29 + 1)) 86 (7 * (w 79 29).toNat) 7 (zic b n a).2.2) := if_neg h
  rw [e, hk]; exact ⟨rfl, rfl, rfl⟩
/-- the seven numbers of a CLOCK, one by one -/
theorem zck_s {m m0 M : zM} {n x : Int} {v : Nat → Int} {k : Nat} {u : Int} (J : ∀ i : Nat, m 8 i = if i % 10 = n.toNat ∧ i < 10 * x.toNat then v (i / 10) else m0 8 i) (hM : M = zm_up m 8 k u)
    (hk : k = 10 * x.toNat + n.toNat) (hu : u = v x.toNat) (hn : n.toNat < 10) (hx : 0 ≤ x) : ∀ i : Nat, M 8 i = if i % 10 = n.toNat ∧ i < 10 * (x + 1).toNat then v (i / 10) else m0 8 i := by
  intro i
  rw [hM, zvu_up]
  show (if i = k then u else m 8 i) = _
  by_cases q : i = k
  · rw [if_pos q, if_pos (by omega), hu]
    exact congrArg v (by omega)
  · rw [if_neg q, J]
    by_cases q2 : i % 10 = n.toNat ∧ i < 10 * x.toNat
    · rw [if_pos q2, if_pos (by omega)]
    · rw [if_neg q2, if_neg (by omega)]
theorem zWc_clock2 {m mL mF M1 M2 M : zM} {n : Nat} {v : Nat → Int} (hn : m 8 185 = n) (h5 : n ≤ 5) (h44 : m 4 4 ≤ 6) (hD : zD9 (fun p i => (p = 1 ∧ (i = 2 ∨ i = 3)) ∨ (8 ≤ p ∧ p ≤ 9)) m M)
    (hL : ∀ i : Nat, mL 8 i = if i % 10 = n ∧ i < 70 then v (i / 10) else m 8 i) (hF : (v 6 = 6 ∧ mF = zm_up mL 8 (60 + n) (-1)) ∨ (v 6 ≠ 6 ∧ mF = mL)) (h6 : 0 ≤ v 6)
    (h1 : M1 = zm_up mF 8 (70 + n) 1) (h2 : M2 = zm_up M1 8 (140 + n) (-1)) (h3 : M = zm_up M2 8 185 (n + 1)) :
    zWc M = zput (zm_up (zWc m) 79 29 (n + 1)) 86 (7 * n) 7 v := by
  have e : ∀ p, 2 ≤ p → p ≤ 7 → M p = m p := fun p a b => funext fun i => hD p i (fun q => by omega)
  have hM : ∀ i, i ≠ 185 → i ≠ 140 + n → i ≠ 70 + n → M 8 i = mF 8 i := fun i a b c => by
    rw [h3, zm_ne (Or.inr a), h2, zm_ne (Or.inr b), h1, zm_ne (Or.inr c)]
  have hF2 : ∀ i, i ≠ 60 + n → mF 8 i = mL 8 i := fun i a => by
    rcases hF with hF | hF
    · rw [hF.2, zm_ne (Or.inr a)]
    · rw [hF.2]
  refine zWc_clock hn (e 4 (by decide) (by decide)) (e 5 (by decide) (by decide)) (e 6 (by decide) (by decide)) (e 7 (by decide) (by decide)) (by rw [h3]; exact zm_eq) ?_ ?_ ?_ ?_ h44
  · intro j hj
    rw [hM _ (by omega) (by omega) (by omega), hF2 _ (by omega), hL, if_pos (by omega)]
    exact congrArg v (by omega)
  · rw [hM _ (by omega) (by omega) (by omega)]
    refine zd6_e ?_ h6
    rcases hF with hF | hF
    · exact Or.inl ⟨hF.1, by rw [hF.2]; exact zm_eq⟩
    · refine Or.inr ⟨hF.1, ?_⟩
      rw [hF.2, hL, if_pos (by omega)]
      exact congrArg v (by omega)
  · intro j c hj hc
    rw [hM _ (by omega) (by omega) (by omega), hF2 _ (by omega), hL, if_neg (by omega)]
  · intro i ha hb
    rw [hM _ (by omega) (by omega) (by omega), hF2 _ (by omega), hL, if_neg (by omega)]
theorem zcl_p_0 (b : Nat → Int) (n a : Int) (w : zM) (h : (zipn b n a).1 = 0) : (zcl_p b n a w).1 = 0 ∧ (zcl_p b n a w).2.1 = (zipn b n a).2.1 := by
  have e : zcl_p b n a w = (0, (zipn b n a).2.1, w) := if_pos h
  rw [e]; exact ⟨rfl, rfl⟩
theorem zcl_p_1 (b : Nat → Int) (n a : Int) (w : zM) (h : (zipn b n a).1 ≠ 0) (h2 : (ztk b n 58 (zipn b n a).2.1).1 = 0) : (zcl_p b n a w).1 = 1 ∧ (zcl_p b n a w).2.1 = (ztk b n 58 (zipn b n a).2.1).2 ∧ (zcl_p b n a w).2.2 = zcl_q w (zipn b n a).2.2 := by
  have e : zcl_p b n a w = (1, (ztk b n 58 (zipn b n a).2.1).2, zcl_q w (zipn b n a).2.2) := (if_neg h).trans (if_pos h2)
  rw [e]; exact ⟨rfl, rfl, rfl⟩
/-- where a WAY begins -/
def zwa (b : Nat → Int) (n a : Int) : Int := (ztk b n 58 (zipn b n a).2.1).2
def zwz (b : Nat → Int) (n a : Int) : Int × Int × Nat × (Nat → Int) := zwy b n 9 0 a (fun _ => 0)
theorem zcl_p_2 (b : Nat → Int) (n a : Int) (w : zM) (h : (zipn b n a).1 ≠ 0) (h2 : (ztk b n 58 (zipn b n a).2.1).1 ≠ 0) (h3 : (zwz b n (zwa b n a)).1 = 0) : (zcl_p b n a w).1 = 0 ∧ (zcl_p b n a w).2.1 = (zwz b n (zwa b n a)).2.1 := by
  have e : zcl_p b n a w = (0, (zwz b n (zwa b n a)).2.1, w) := (if_neg h).trans ((if_neg h2).trans (if_pos h3))
  rw [e]; exact ⟨rfl, rfl⟩
theorem zcl_p_3 (b : Nat → Int) (n a : Int) (w : zM) (k : Nat) (hk : w 79 30 = k) (h : (zipn b n a).1 ≠ 0) (h2 : (ztk b n 58 (zipn b n a).2.1).1 ≠ 0) (h3 : (zwz b n (zwa b n a)).1 ≠ 0) : (zcl_p b n a w).1 = 1 ∧ (zcl_p b n a w).2.1 = (zwz b n (zwa b n a)).2.1 ∧
    (zcl_p b n a w).2.2 = zput (zm_up (zcl_q w (zipn b n a).2.2) 91 k (zwz b n (zwa b n a)).2.2.1) 89 (8 * k) (zwz b n (zwa b n a)).2.2.1 (zwz b n (zwa b n a)).2.2.2 := by
  have e : zcl_p b n a w = (1, (zwz b n (zwa b n a)).2.1, zput (zm_up (zcl_q w (zipn b n a).2.2) 91 (w 79 30).toNat (zwz b n (zwa b n a)).2.2.1) 89 (8 * (w 79 30).toNat) (zwz b n (zwa b n a)).2.2.1 (zwz b n (zwa b n a)).2.2.2) := (if_neg h).trans ((if_neg h2).trans (if_neg h3))
  rw [e, hk]; exact ⟨rfl, rfl, rfl⟩
/-! a WAY, as the class's loop meets it -/
def zwv (m : zM) (p x : Int) : Nat → Int := fun k => if (k : Int) < x then m 6 (8 * p.toNat + k) else 0
theorem zwv_0 (m : zM) (p : Int) : zwv m p 0 = fun _ => 0 := funext fun k => if_neg (by omega)
theorem zwv_s {m M : zM} {p x d : Int} (h : M 6 = zvu (m 6) (8 * p.toNat + x.toNat) d) (hx : 0 ≤ x) : zwv M p (x + 1) = zvu (zwv m p x) x.toNat d := by
  funext k
  unfold zwv
  rw [h]
  show (if (k : Int) < x + 1 then (if 8 * p.toNat + k = 8 * p.toNat + x.toNat then d else m 6 (8 * p.toNat + k)) else 0) = (if k = x.toNat then d else if (k : Int) < x then m 6 (8 * p.toNat + k) else 0)
  by_cases q : k = x.toNat
  · rw [if_pos q, if_pos (by omega), if_pos (by omega)]
  · rw [if_neg q]
    by_cases q2 : (k : Int) < x
    · rw [if_pos q2, if_pos (by omega), if_neg (by omega)]
    · rw [if_neg q2, if_neg (by omega)]
theorem zwy_l1 {b : Nat → Int} {n : Int} {F : Int × Int × Nat × (Nat → Int)} {x a : Int} {v : Nat → Int} (J : F = zwy b n (9 - x).toNat x.toNat a v) (hx : 0 ≤ x ∧ x ≤ 8) (h : zpk b n (znx b n a) < 48 ∨ 57 < zpk b n (znx b n a)) :
    (x = 0 → F.1 = 0) ∧ (x ≠ 0 → F.1 = 1) ∧ F.2.1 = znx b n a ∧ (F.2.2.1 : Int) = x ∧ F.2.2.2 = v := by
  rw [J, show (9 - x).toNat = (8 - x).toNat + 1 by omega, zwy_d _ _ _ _ h]
  refine ⟨fun q => if_pos (by omega), fun q => if_neg (by omega), rfl, ?_, rfl⟩
  show ((x.toNat : Nat) : Int) = x
  omega
theorem zwy_l2 {b : Nat → Int} {n : Int} {F : Int × Int × Nat × (Nat → Int)} {x a : Int} {v : Nat → Int} (J : F = zwy b n (9 - x).toNat x.toNat a v) (hx : 0 ≤ x ∧ x ≤ 8) (h : 48 ≤ zpk b n (znx b n a) ∧ zpk b n (znx b n a) ≤ 57) (h2 : x = 8 ∨ 52 < zpk b n (znx b n a)) : F.1 = 0 ∧ F.2.1 = znx b n a := by
  rw [J, show (9 - x).toNat = (8 - x).toNat + 1 by omega, zwy_x _ _ _ _ (by omega) (by omega)]
  exact ⟨rfl, rfl⟩
theorem zwy_l3 {b : Nat → Int} {n : Int} {F : Int × Int × Nat × (Nat → Int)} {x a p : Int} {v v1 : Nat → Int} (J : F = zwy b n (9 - x).toNat x.toNat a v) (hx : 0 ≤ x ∧ x ≤ 7) (h : 48 ≤ zpk b n (znx b n a) ∧ zpk b n (znx b n a) ≤ 52) (hp : p = znx b n a + 1) (hv : v1 = zvu v x.toNat (zpk b n (znx b n a) - 48)) : F = zwy b n (9 - (x + 1)).toNat (x + 1).toNat p v1 := by
  subst hp hv
  rw [J, show (9 - x).toNat = (9 - (x + 1)).toNat + 1 by omega, zwy_s _ _ _ _ (by omega) (by omega), show (x + 1).toNat = x.toNat + 1 by omega]
/-- the way's cells, in the loop -/
theorem zwl_7 {m m0 M1 M2 Mc M : zM} {p x : Int} {u : Int} {k : Nat} (J : (x = 0 ∧ m 7 = m0 7) ∨ (0 < x ∧ m 7 = zvu (m0 7) p.toNat x)) (hD : zD9 (fun p i => p = 1 ∧ (i = 2 ∨ i = 3)) m Mc) (h1 : M1 7 = Mc 7) (h2 : M2 = zm_up M1 7 k u) (hk : k = p.toNat) (hu : u = x + 1) (h3 : M 7 = M2 7) (hx : 0 ≤ x) :
    (x + 1 = 0 ∧ M 7 = m0 7) ∨ (0 < x + 1 ∧ M 7 = zvu (m0 7) p.toNat (x + 1)) := by
  refine Or.inr ⟨by omega, ?_⟩
  have e : Mc 7 = m 7 := funext fun i => hD 7 i (fun q => absurd q.1 (by decide))
  rw [h3, h2, zvu_up, h1, e, hk, hu]
  rcases J with J | J
  · rw [J.2]
  · rw [J.2]
    funext j
    unfold zvu
    by_cases q : j = p.toNat
    · rw [if_pos q, if_pos q]
    · rw [if_neg q, if_neg q, if_neg q]
theorem zvuc {v : Nat → Int} {i j : Nat} {x y : Int} (h : i = j) (h2 : x = y) : zvu v i x = zvu v j y := by rw [h, h2]
theorem zD9_r {m m1 : zM} {p : Nat} (h : zD9 (fun p i => p = 1 ∧ (i = 2 ∨ i = 3)) m m1) (hp : p ≠ 1) : m1 p = m p := funext fun i => h p i (fun q => absurd q.1 hp)
theorem zwl_e {F : Int × Int × Nat × (Nat → Int)} {m m0 Mc : zM} {p x : Int} (J : (x = 0 ∧ m 7 = m0 7) ∨ (0 < x ∧ m 7 = zvu (m0 7) p.toNat x)) (hD : zD9 (fun p i => p = 1 ∧ (i = 2 ∨ i = 3)) m Mc) (hE : (F.2.2.1 : Int) = x) (hE2 : F.2.2.2 = zwv m p x) (hx : 0 < x) (hx8 : x ≤ 8) :
    Mc 7 = zvu (m0 7) p.toNat (F.2.2.1 : Int) ∧ F.2.2.1 ≤ 8 ∧ ∀ j : Nat, j < F.2.2.1 → Mc 6 (8 * p.toNat + j) = F.2.2.2 j := by
  refine ⟨?_, by omega, fun j hj => ?_⟩
  · rw [zD9_r hD (by decide), hE]
    rcases J with J | J
    · omega
    · exact J.2
  · rw [zD9_r hD (by decide), hE2]
    exact (if_pos (by omega)).symm
theorem zWc_person2 {mB M1 M2 M3 M4 M : zM} {n : Nat} {v : Nat → Int} (hn : mB 4 4 = n) (h5 : n ≤ 5) (hc : mB 8 185 ≤ 10) (h1 : M1 = zm_up mB 8 (160 + n) (v 0)) (h2 : M2 = zm_up M1 8 (166 + n) (v 1)) (h3 : M3 = zm_up M2 8 (178 + n) (-1)) (h4 : M4 = zm_up M3 7 n 0) (hM : M = zm_up M4 4 4 (n + 1)) : zWc M = zcl_q (zWc mB) v := by
  have e8 : ∀ i, M 8 i = M3 8 i := fun i => by rw [hM, zm_ne (Or.inl (by decide)), h4, zm_ne (Or.inl (by decide))]
  have eX : ∀ i, i ≠ 160 + n → i ≠ 166 + n → i ≠ 178 + n → M 8 i = mB 8 i := fun i a b c => by
    rw [e8, h3, zm_ne (Or.inr c), h2, zm_ne (Or.inr b), h1, zm_ne (Or.inr a)]
  refine zWc_person hn (by rw [hM]; exact zm_eq) ?_ ?_ ?_ ?_ ?_ ?_ h5 (fun i hi => eX i (by omega) (by omega) (by omega)) (eX 185 (by omega) (by omega) (by omega)) (fun i hi => ⟨eX _ (by omega) (by omega) (by omega), eX _ (by omega) (by omega) (by omega)⟩) hc
  · rw [hM, zm_ne (Or.inr (by decide)), h4, zm_ne (Or.inl (by decide)), h3, zm_ne (Or.inl (by decide)), h2, zm_ne (Or.inl (by decide)), h1, zm_ne (Or.inl (by decide))]
  · rw [hM, zup_o (by decide), h4, zup_o (by decide), h3, zup_o (by decide), h2, zup_o (by decide), h1, zup_o (by decide)]
  · rw [hM, zup_o (by decide), h4, zup_o (by decide), h3, zup_o (by decide), h2, zup_o (by decide), h1, zup_o (by decide)]
  · rw [hM, zup_o (by decide), h4, zvu_up, h3, zup_o (by decide), h2, zup_o (by decide), h1, zup_o (by decide)]
  · rw [e8, h3, zm_ne (Or.inr (by omega)), h2, zm_ne (Or.inr (by omega)), h1]; exact zm_eq
  · rw [e8, h3, zm_ne (Or.inr (by omega)), h2]; exact zm_eq
theorem zWc_person3 {mB M1 M2 M3 M4 M : zM} {n : Nat} {v0 v1 : Int} (h3 : M3 = zm_up M2 8 (178 + n) v0) (h4 : M4 = zm_up M3 7 n v1) (hM : M = zm_up M4 4 4 (n + 1)) : M 7 n = v1 ∧ M 4 4 = n + 1 := by
  exact ⟨by rw [hM, zm_ne (Or.inl (by decide)), h4]; exact zm_eq, by rw [hM]; exact zm_eq⟩
/-- behind the WAY -/
theorem zWc_way2 {m M : zM} {n : Nat} {F : Int × Int × Nat × (Nat → Int)} (hn : m 4 4 = n + 1) (h70 : m 7 n = 0) (hD : zD9 (fun p i => (p = 1 ∧ (i = 2 ∨ i = 3)) ∨ (6 ≤ p ∧ p ≤ 7)) m M)
    (hw : M 7 = zvu (m 7) n (F.2.2.1 : Int) ∧ F.2.2.1 ≤ 8 ∧ ∀ j : Nat, j < F.2.2.1 → M 6 (8 * n + j) = F.2.2.2 j) (h6 : ∀ i, i < 8 * n ∨ 8 * n + 8 ≤ i → M 6 i = m 6 i) :
    zWc M = zput (zm_up (zWc m) 91 n F.2.2.1) 89 (8 * n) F.2.2.1 F.2.2.2 :=
  zWc_way (by omega) (funext fun i => hD 4 i (by intro q; omega)) (funext fun i => hD 5 i (by intro q; omega)) (funext fun i => hD 8 i (by intro q; omega)) h70 hw.1 hw.2.1 h6 hw.2.2
/-! a CLAUSE, by its first sign -/
theorem zcl_1 {b : Nat → Int} {n a : Int} {w w1 : zM} (hw : w1 = w) (h : zpk b n (znx b n a) = 114) (h2 : w 79 28 < 5) : (zcl b n a w).1 = (zcl_r b n (znx b n a + 1) w1).1 ∧ (zcl b n a w).2.1 = (zcl_r b n (znx b n a + 1) w1).2.1 ∧ (zcl b n a w).2.2 = (zcl_r b n (znx b n a + 1) w1).2.2 := by
  have e : zcl b n a w = zcl_r b n (znx b n a + 1) w := if_pos ⟨h, h2⟩
  rw [e, hw]; exact ⟨rfl, rfl, rfl⟩
theorem zcl_2 {b : Nat → Int} {n a : Int} {w w1 : zM} (hw : w1 = w) (h : zpk b n (znx b n a) = 99) (h2 : w 79 29 < 6) : (zcl b n a w).1 = (zcl_c b n (znx b n a + 1) w1).1 ∧ (zcl b n a w).2.1 = (zcl_c b n (znx b n a + 1) w1).2.1 ∧ (zcl b n a w).2.2 = (zcl_c b n (znx b n a + 1) w1).2.2 := by
  have e : zcl b n a w = zcl_c b n (znx b n a + 1) w := (if_neg (fun q => by omega)).trans (if_pos ⟨h, h2⟩)
  rw [e, hw]; exact ⟨rfl, rfl, rfl⟩
theorem zcl_3 {b : Nat → Int} {n a : Int} {w w1 : zM} (hw : w1 = w) (h : zpk b n (znx b n a) = 112) (h2 : w 79 30 < 6) : (zcl b n a w).1 = (zcl_p b n (znx b n a + 1) w1).1 ∧ (zcl b n a w).2.1 = (zcl_p b n (znx b n a + 1) w1).2.1 ∧ (zcl b n a w).2.2 = (zcl_p b n (znx b n a + 1) w1).2.2 := by
  have e : zcl b n a w = zcl_p b n (znx b n a + 1) w := (if_neg (fun q => by omega)).trans ((if_neg (fun q => by omega)).trans (if_pos ⟨h, h2⟩))
  rw [e, hw]; exact ⟨rfl, rfl, rfl⟩
theorem zcl_0 {b : Nat → Int} {n a : Int} {w : zM} (h1 : ¬ (zpk b n (znx b n a) = 114 ∧ w 79 28 < 5)) (h2 : ¬ (zpk b n (znx b n a) = 99 ∧ w 79 29 < 6)) (h3 : ¬ (zpk b n (znx b n a) = 112 ∧ w 79 30 < 6)) : (zcl b n a w).1 = 0 ∧ (zcl b n a w).2.1 = znx b n a := by
  have e : zcl b n a w = (0, znx b n a, w) := (if_neg h1).trans ((if_neg h2).trans (if_neg h3))
  rw [e]; exact ⟨rfl, rfl⟩
theorem zcs_l0 {b : Nat → Int} {n x a : Int} {w : zM} {F : Int × Int × zM} (J : F = zcs b n (241 - x).toNat a w) (hx : 0 ≤ x ∧ x ≤ 240) (h : (zcl b n a w).1 = 0) : F.1 = 0 ∧ F.2.1 = (zcl b n a w).2.1 := by
  have e : zcs b n ((240 - x).toNat + 1) a w = zcl b n a w := if_pos h
  rw [J, show (241 - x).toNat = (240 - x).toNat + 1 by omega, e]; exact ⟨h, rfl⟩
theorem zcs_l1 {b : Nat → Int} {n x a : Int} {w : zM} {F : Int × Int × zM} (J : F = zcs b n (241 - x).toNat a w) (hx : 0 ≤ x ∧ x ≤ 240) (h : (zcl b n a w).1 ≠ 0) (h2 : zpk b n (znx b n (zcl b n a w).2.1) ≠ 59) : F.1 = 1 ∧ F.2.1 = znx b n (zcl b n a w).2.1 ∧ F.2.2 = (zcl b n a w).2.2 := by
  have e : zcs b n ((240 - x).toNat + 1) a w = (1, znx b n (zcl b n a w).2.1, (zcl b n a w).2.2) := (if_neg h).trans (if_neg h2)
  rw [J, show (241 - x).toNat = (240 - x).toNat + 1 by omega, e]; exact ⟨rfl, rfl, rfl⟩
theorem zcs_l2 {b : Nat → Int} {n x a p : Int} {w w1 : zM} {F : Int × Int × zM} (J : F = zcs b n (241 - x).toNat a w) (hx : 0 ≤ x ∧ x ≤ 239) (h : (zcl b n a w).1 ≠ 0) (h2 : zpk b n (znx b n (zcl b n a w).2.1) = 59) (hp : p = znx b n (zcl b n a w).2.1 + 1) (hw : w1 = (zcl b n a w).2.2) : F = zcs b n (241 - (x + 1)).toNat p w1 := by
  subst hp hw
  have e : zcs b n ((240 - x).toNat + 1) a w = zcs b n (240 - x).toNat (znx b n (zcl b n a w).2.1 + 1) (zcl b n a w).2.2 := (if_neg h).trans (if_pos h2)
  rw [J, show (241 - x).toNat = (240 - x).toNat + 1 by omega, e, show (240 - x).toNat = (241 - (x + 1)).toNat by omega]
theorem zWc_0 {m : zM} (h3 : m 4 3 = 0) (h8 : m 8 185 = 0) (h4 : m 4 4 = 0) : zWc m = zw0 := by
  refine zsel_ext ?_ ?_ ?_ ?_ ?_ ?_ (fun p _ _ _ _ _ _ => rfl) <;> funext i
  · show 0 = (if i = 28 then m 4 3 else if i = 29 then m 8 185 else if i = 30 then m 4 4 else 0)
    rw [h3, h8, h4]
    by_cases q : i = 28
    · rw [if_pos q]
    · rw [if_neg q]
      by_cases q : i = 29
      · rw [if_pos q]
      · rw [if_neg q]
        by_cases q : i = 30
        · rw [if_pos q]
        · rw [if_neg q]
  · exact (if_neg (by omega)).symm
  · exact (if_neg (by omega)).symm
  · exact (if_neg (by omega)).symm
  · exact (if_neg (by omega)).symm
  · exact (if_neg (fun q => by omega)).symm
/-! what is told is there, as the class asks -/
def zwyC (m : zM) : Prop := ∀ p : Nat, (p : Int) < m 4 4 → ∀ k : Nat, (k : Int) < m 7 p → m 6 (8 * p + k) < m 4 3
def zwhC (m : zM) : Prop := 0 < m 4 3 ∧ 0 < m 8 185 ∧ 0 < m 4 4 ∧ (∀ k : Nat, (k : Int) < m 4 3 → m 5 k < m 4 3) ∧ (∀ k : Nat, (k : Int) < m 8 185 → m 8 k < m 4 3 ∧ m 8 (60 + k) < m 8 185 ∧ m 8 (60 + k) ≠ k) ∧ zwyC m
theorem zdc_i {x R : Int} (hR : 0 < R ∧ R ≤ 5) : (zdc x = 5 ∨ zdc x < R) ↔ x < R := by
  unfold zdc
  by_cases q : x = -1
  · rw [if_pos q]; omega
  · rw [if_neg q]
    by_cases q2 : x = 5
    · rw [if_pos q2]; omega
    · rw [if_neg q2]; omega
theorem zd6_i {x C k : Int} (hC : 0 < C ∧ C ≤ 6) (hk : 0 ≤ k ∧ k < C) : (zd6 x ≠ k ∧ (zd6 x = 6 ∨ zd6 x < C)) ↔ (x < C ∧ x ≠ k) := by
  unfold zd6
  by_cases q : x = -1
  · rw [if_pos q]; omega
  · rw [if_neg q]
    by_cases q2 : x = 6
    · rw [if_pos q2]; omega
    · rw [if_neg q2]; omega
theorem zWc_85k {m : zM} {k : Nat} (h : (k : Int) < m 4 3) : zWc m 85 k = zdc (m 5 k) := by
  unfold zWc; rw [zsel_85]; exact if_pos h
theorem zWc_86k {m : zM} {k : Nat} (h : (k : Int) < m 8 185) : zWc m 86 (7 * k) = m 8 k ∧ zWc m 86 (7 * k + 6) = zd6 (m 8 (60 + k)) := by
  unfold zWc
  rw [zsel_86]
  unfold zr86
  have g1 : 7 * k / 7 = k := by omega
  have g2 : 7 * k % 7 = 0 := by omega
  have g3 : (7 * k + 6) / 7 = k := by omega
  have g4 : (7 * k + 6) % 7 = 6 := by omega
  refine ⟨?_, ?_⟩
  · show (if ((7 * k / 7 : Nat) : Int) < m 8 185 then (if 7 * k % 7 = 6 then zd6 (m 8 (60 + 7 * k / 7)) else m 8 (10 * (7 * k % 7) + 7 * k / 7)) else 0) = _
    rw [g1, g2, if_pos h, if_neg (by decide)]
    exact congrArg (m 8) (by omega)
  · show (if (((7 * k + 6) / 7 : Nat) : Int) < m 8 185 then (if (7 * k + 6) % 7 = 6 then zd6 (m 8 (60 + (7 * k + 6) / 7)) else m 8 (10 * ((7 * k + 6) % 7) + (7 * k + 6) / 7)) else 0) = _
    rw [g3, g4, if_pos h, if_pos rfl]
theorem zWc_91k {m : zM} {p : Nat} (h : (p : Int) < m 4 4) : zWc m 91 p = m 7 p := by
  unfold zWc; rw [zsel_91]; exact if_pos h
theorem zWc_89k {m : zM} {p k : Nat} (h : (p : Int) < m 4 4) (hk : (k : Int) < m 7 p) (h8 : m 7 p ≤ 8) : zWc m 89 (8 * p + k) = m 6 (8 * p + k) := by
  unfold zWc
  rw [zsel_89]
  have g1 : (8 * p + k) / 8 = p := by omega
  have g2 : (8 * p + k) % 8 = k := by omega
  show (if (((8 * p + k) / 8 : Nat) : Int) < m 4 4 ∧ (((8 * p + k) % 8 : Nat) : Int) < m 7 ((8 * p + k) / 8) then m 6 (8 * p + k) else 0) = _
  rw [g1, g2]
  exact if_pos ⟨h, hk⟩
theorem zwh_C {m : zM} (h3 : m 4 3 ≤ 5) (h6 : m 8 185 ≤ 6) (h8 : ∀ p, m 7 p ≤ 8) : zwh (zWc m) ↔ zwhC m := by
  unfold zwh zwhC zwyC
  rw [zWc_28, zWc_29, zWc_30]
  refine ⟨fun h => ⟨h.1, h.2.1, h.2.2.1, fun k hk => ?_, fun k hk => ?_, fun p hp k hk => ?_⟩, fun h => ⟨h.1, h.2.1, h.2.2.1, fun k hk => ?_, fun k hk => ?_, fun p hp k hk => ?_⟩⟩
  · have g := h.2.2.2.1 k hk
    rw [zWc_85k hk] at g
    exact (zdc_i ⟨h.1, h3⟩).mp g
  · have g := h.2.2.2.2.1 k hk
    rw [(zWc_86k hk).1, (zWc_86k hk).2] at g
    exact ⟨g.1, (zd6_i ⟨h.2.1, h6⟩ ⟨by omega, hk⟩).mp g.2⟩
  · have g := h.2.2.2.2.2 p hp k (by rw [zWc_91k hp]; exact hk)
    rw [zWc_89k hp hk (h8 p)] at g
    exact g
  · rw [zWc_85k hk]
    exact (zdc_i ⟨h.1, h3⟩).mpr (h.2.2.2.1 k hk)
  · rw [(zWc_86k hk).1, (zWc_86k hk).2]
    have g := h.2.2.2.2.1 k hk
    exact ⟨g.1, (zd6_i ⟨h.2.1, h6⟩ ⟨by omega, hk⟩).mpr g.2⟩
  · rw [zWc_91k hp] at hk
    rw [zWc_89k hp hk (h8 p)]
    exact h.2.2.2.2.2 p hp k hk
theorem zfl_8 {m M : zM} (h : ∀ q i, q ≠ 8 → M q i = m q i) (q : Nat) (hq : q ≠ 8) : M q = m q := funext fun i => h q i hq
theorem zD9_cp {S : Nat → Nat → Prop} {m M : zM} {a b n : Nat} (h : zD9 S m M) (q : ∀ i, S a i) : zD9 S m (zm_cp M a b n) := fun r j hr => (zm_cp_ne (Or.inl (fun e => hr (by rw [e]; exact q j)))).trans (h r j hr)
theorem zD9_fl {S : Nat → Nat → Prop} {m M M1 : zM} {p : Nat} (h : zD9 S m M) (hf : ∀ q i, q ≠ p → M1 q i = M q i) (q : ∀ i, S p i) : zD9 S m M1 := fun r j hr => (hf r j (fun e => hr (by rw [e]; exact q j))).trans (h r j hr)
