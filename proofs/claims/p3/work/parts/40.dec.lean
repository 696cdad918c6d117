/-! what methods do, as functions of a small memory (by hand: the frame of it) -/
def zlt {α β : Type} (e : α) (f : α → β) : β := f e
def zl2 {α β γ : Type} (e : α × β) (f : α → β → γ) : γ := f e.1 e.2
theorem zlt_e {α β : Type} {e x : α} {f : α → β} (h : x = e) : zlt e f = f x := by
  subst h
  rfl
theorem zl2_e {α β γ : Type} {e : α × β} {x : α} {y : β} {f : α → β → γ} (h : (x, y) = e) : zl2 e f = f x y := by
  subst h
  rfl
/-- the class's small memory: 0 the row s, 10 the row as it is now (told as N) -/
def zHcP (s p : Nat) : Nat :=
  bif Nat.beq p 0 then s else bif Nat.beq p 1 then 18 else bif Nat.beq p 2 then 19 else bif Nat.beq p 3 then 20 else bif Nat.beq p 4 then 77 else bif Nat.beq p 5 then 78 else bif Nat.beq p 6 then 13 else bif Nat.beq p 7 then 14 else bif Nat.beq p 8 then 15 else bif Nat.beq p 9 then 16 else bif Nat.beq p 11 then 69 else bif Nat.beq p 12 then 71 else bif Nat.beq p 13 then 72 else bif Nat.beq p 14 then 73 else bif Nat.beq p 15 then 75 else 999
def zHc (s : Nat) (N : Nat → Int) (m : zM) : zM := fun p i => bif Nat.beq p 10 then N i else m (zHcP s p) i
def zHcU (s q : Nat) : Prop := q ≠ s ∧ q ≠ 18 ∧ q ≠ 19 ∧ q ≠ 20 ∧ q ≠ 77 ∧ q ≠ 78 ∧ q ≠ 13 ∧ q ≠ 14 ∧ q ≠ 15 ∧ q ≠ 16 ∧ q ≠ 69 ∧ q ≠ 71 ∧ q ≠ 72 ∧ q ≠ 73 ∧ q ≠ 75 ∧ q ≠ 999
theorem zHcP_o (s : Nat) {p : Nat} (h : 16 ≤ p) : zHcP s p = 999 := by
  unfold zHcP
  rw [z_bqf (show p ≠ 0 by omega), z_bqf (show p ≠ 1 by omega), z_bqf (show p ≠ 2 by omega), z_bqf (show p ≠ 3 by omega), z_bqf (show p ≠ 4 by omega), z_bqf (show p ≠ 5 by omega), z_bqf (show p ≠ 6 by omega), z_bqf (show p ≠ 7 by omega), z_bqf (show p ≠ 8 by omega), z_bqf (show p ≠ 9 by omega), z_bqf (show p ≠ 11 by omega), z_bqf (show p ≠ 12 by omega), z_bqf (show p ≠ 13 by omega), z_bqf (show p ≠ 14 by omega), z_bqf (show p ≠ 15 by omega)]
  rfl
theorem zHcP_17 : ∀ p q : Fin 16, p.val ≠ 10 → zHcP 17 q.val = zHcP 17 p.val → q.val = p.val := by decide +kernel
theorem zHcP_70 : ∀ p q : Fin 16, p.val ≠ 10 → zHcP 70 q.val = zHcP 70 p.val → q.val = p.val := by decide +kernel
theorem zHcP_74 : ∀ p q : Fin 16, p.val ≠ 10 → zHcP 74 q.val = zHcP 74 p.val → q.val = p.val := by decide +kernel
theorem zHcP_76 : ∀ p q : Fin 16, p.val ≠ 10 → zHcP 76 q.val = zHcP 76 p.val → q.val = p.val := by decide +kernel
theorem zHcP_9 : ∀ s : Nat, (s = 17 ∨ s = 70 ∨ s = 74 ∨ s = 76) → ∀ p : Fin 16, p.val ≠ 10 → zHcP s p.val ≠ 999 := by
  intro s k
  rcases k with k | k | k | k <;> (subst k; decide +kernel)
theorem zHcP_in {s : Nat} (k : s = 17 ∨ s = 70 ∨ s = 74 ∨ s = 76) {p q : Nat} (hp : p < 16 ∧ p ≠ 10) (h : zHcP s q = zHcP s p) : q = p := by
  rcases Nat.lt_or_ge q 16 with l | l
  · rcases k with k | k | k | k
    · subst k; exact zHcP_17 ⟨p, hp.1⟩ ⟨q, l⟩ hp.2 h
    · subst k; exact zHcP_70 ⟨p, hp.1⟩ ⟨q, l⟩ hp.2 h
    · subst k; exact zHcP_74 ⟨p, hp.1⟩ ⟨q, l⟩ hp.2 h
    · subst k; exact zHcP_76 ⟨p, hp.1⟩ ⟨q, l⟩ hp.2 h
  · rw [zHcP_o s l] at h
    exact absurd h.symm (zHcP_9 s k ⟨p, hp.1⟩ hp.2)
theorem zHc_w {s : Nat} {N : Nat → Int} {m m1 : zM} {i : Nat} {v : Int} (k : s = 17 ∨ s = 70 ∨ s = 74 ∨ s = 76) {p : Nat} (hp : p < 16 ∧ p ≠ 10) (h : m1 = zm_up m (zHcP s p) i v) : zHc s N m1 = zm_up (zHc s N m) p i v := by
  subst h
  funext q j
  by_cases e : q = p
  · subst e
    show (bif Nat.beq q 10 then N j else zm_up m (zHcP s q) i v (zHcP s q) j) = (if q = q ∧ j = i then v else bif Nat.beq q 10 then N j else m (zHcP s q) j)
    rw [z_bqf hp.2]
    by_cases g : j = i
    · subst g
      rw [if_pos ⟨rfl, rfl⟩]
      exact zm_eq
    · rw [if_neg (fun z => g z.2)]
      exact zm_ne (Or.inr g)
  · rw [zm_ne (m := zHc s N m) (Or.inl e)]
    show (bif Nat.beq q 10 then N j else zm_up m (zHcP s p) i v (zHcP s q) j) = (bif Nat.beq q 10 then N j else m (zHcP s q) j)
    rw [zm_ne (Or.inl (fun z => e (zHcP_in k hp z)))]
theorem zHcU_e {s q : Nat} (h : zHcU s q) (p : Nat) : zHcP s p ≠ q := by
  unfold zHcP
  unfold zHcU at h
  cases Nat.beq p 0 <;> cases Nat.beq p 1 <;> cases Nat.beq p 2 <;> cases Nat.beq p 3 <;> (first | exact (fun z => by simp only [cond_true, cond_false] at z; omega) | skip)
  all_goals cases Nat.beq p 4 <;> cases Nat.beq p 5 <;> cases Nat.beq p 6 <;> cases Nat.beq p 7 <;> (first | exact (fun z => by simp only [cond_true, cond_false] at z; omega) | skip)
  all_goals cases Nat.beq p 8 <;> cases Nat.beq p 9 <;> cases Nat.beq p 11 <;> cases Nat.beq p 12 <;> (first | exact (fun z => by simp only [cond_true, cond_false] at z; omega) | skip)
  all_goals cases Nat.beq p 13 <;> cases Nat.beq p 14 <;> cases Nat.beq p 15 <;> exact (fun z => by simp only [cond_true, cond_false] at z; omega)
theorem zHc_o {s : Nat} {N : Nat → Int} {m m1 : zM} {q i : Nat} {v : Int} (hq : zHcU s q) (h : m1 = zm_up m q i v) : zHc s N m1 = zHc s N m := by
  subst h
  funext p j
  show (bif Nat.beq p 10 then N j else zm_up m q i v (zHcP s p) j) = (bif Nat.beq p 10 then N j else m (zHcP s p) j)
  rw [zm_ne (Or.inl (zHcU_e hq p))]
theorem zHc_f {s : Nat} {N : Nat → Int} {m m1 : zM} {n : Nat} {v : Int} (k : s = 17 ∨ s = 70 ∨ s = 74 ∨ s = 76) {p : Nat} (hp : p < 16 ∧ p ≠ 10) (h : m1 = zfl m (zHcP s p) n v) : zHc s N m1 = zfl (zHc s N m) p n v := by
  subst h
  funext q j
  by_cases e : q = p
  · subst e
    show (bif Nat.beq q 10 then N j else if zHcP s q = zHcP s q ∧ j < n then v else m (zHcP s q) j) = (if q = q ∧ j < n then v else bif Nat.beq q 10 then N j else m (zHcP s q) j)
    rw [z_bqf hp.2]
    show (if zHcP s q = zHcP s q ∧ j < n then v else m (zHcP s q) j) = (if q = q ∧ j < n then v else m (zHcP s q) j)
    by_cases g : j < n
    · rw [if_pos (show q = q ∧ j < n from ⟨rfl, g⟩), if_pos (show zHcP s q = zHcP s q ∧ j < n from ⟨rfl, g⟩)]
    · rw [if_neg (show ¬ (q = q ∧ j < n) from fun z => g z.2), if_neg (show ¬ (zHcP s q = zHcP s q ∧ j < n) from fun z => g z.2)]
  · show (bif Nat.beq q 10 then N j else if zHcP s q = zHcP s p ∧ j < n then v else m (zHcP s q) j) = (if q = p ∧ j < n then v else bif Nat.beq q 10 then N j else m (zHcP s q) j)
    rw [if_neg (show ¬ (zHcP s q = zHcP s p ∧ j < n) from fun z => e (zHcP_in k hp z.1)), if_neg (show ¬ (q = p ∧ j < n) from fun z => e z.1)]
theorem zHc_fo {s : Nat} {N : Nat → Int} {m m1 : zM} {q n : Nat} {v : Int} (hq : zHcU s q) (h : m1 = zfl m q n v) : zHc s N m1 = zHc s N m := by
  subst h
  funext p j
  show (bif Nat.beq p 10 then N j else if zHcP s p = q ∧ j < n then v else m (zHcP s p) j) = (bif Nat.beq p 10 then N j else m (zHcP s p) j)
  rw [if_neg (fun z => zHcU_e hq p z.1)]
/-- the model's small memory -/
def zHmP (s p : Nat) : Nat :=
  bif Nat.beq p 0 then s else bif Nat.beq p 1 then 79 else bif Nat.beq p 2 then 94 else bif Nat.beq p 3 then 95 else bif Nat.beq p 4 then 101 else bif Nat.beq p 5 then 102 else bif Nat.beq p 6 then 84 else bif Nat.beq p 7 then 88 else bif Nat.beq p 8 then 90 else bif Nat.beq p 9 then 103 else bif Nat.beq p 11 then 104 else 999
def zHm (s : Nat) (N : Nat → Int) (m : zM) : zM := fun p i => bif Nat.beq p 10 then N i else bif (Nat.beq p 1 && Nat.ble i 17) then 0 else m (zHmP s p) i
def zHmU (s q : Nat) : Prop := q ≠ s ∧ q ≠ 79 ∧ q ≠ 94 ∧ q ≠ 95 ∧ q ≠ 101 ∧ q ≠ 102 ∧ q ≠ 84 ∧ q ≠ 88 ∧ q ≠ 90 ∧ q ≠ 103 ∧ q ≠ 104 ∧ q ≠ 999
theorem zHmP_o (s : Nat) {p : Nat} (h : 12 ≤ p) : zHmP s p = 999 := by
  unfold zHmP
  rw [z_bqf (show p ≠ 0 by omega), z_bqf (show p ≠ 1 by omega), z_bqf (show p ≠ 2 by omega), z_bqf (show p ≠ 3 by omega), z_bqf (show p ≠ 4 by omega), z_bqf (show p ≠ 5 by omega), z_bqf (show p ≠ 6 by omega), z_bqf (show p ≠ 7 by omega), z_bqf (show p ≠ 8 by omega), z_bqf (show p ≠ 9 by omega), z_bqf (show p ≠ 11 by omega)]
  rfl
theorem zHmP_92 : ∀ p q : Fin 12, p.val ≠ 10 → zHmP 92 q.val = zHmP 92 p.val → q.val = p.val := by decide +kernel
theorem zHmP_93 : ∀ p q : Fin 12, p.val ≠ 10 → zHmP 93 q.val = zHmP 93 p.val → q.val = p.val := by decide +kernel
theorem zHmP_9 : ∀ s : Nat, (s = 92 ∨ s = 93) → ∀ p : Fin 12, p.val ≠ 10 → zHmP s p.val ≠ 999 := by
  intro s k
  rcases k with k | k <;> (subst k; decide +kernel)
theorem zHmP_in {s : Nat} (k : s = 92 ∨ s = 93) {p q : Nat} (hp : p < 12 ∧ p ≠ 10) (h : zHmP s q = zHmP s p) : q = p := by
  rcases Nat.lt_or_ge q 12 with l | l
  · rcases k with k | k
    · subst k; exact zHmP_92 ⟨p, hp.1⟩ ⟨q, l⟩ hp.2 h
    · subst k; exact zHmP_93 ⟨p, hp.1⟩ ⟨q, l⟩ hp.2 h
  · rw [zHmP_o s l] at h
    exact absurd h.symm (zHmP_9 s k ⟨p, hp.1⟩ hp.2)
theorem zHm_w {s : Nat} {N : Nat → Int} {m m1 : zM} {i : Nat} {v : Int} (k : s = 92 ∨ s = 93) {p : Nat} (hp : p < 12 ∧ p ≠ 10 ∧ (p ≠ 1 ∨ 18 ≤ i)) (h : m1 = zm_up m (zHmP s p) i v) : zHm s N m1 = zm_up (zHm s N m) p i v := by
  subst h
  funext q j
  by_cases e : q = p
  · subst e
    show (bif Nat.beq q 10 then N j else bif (Nat.beq q 1 && Nat.ble j 17) then 0 else zm_up m (zHmP s q) i v (zHmP s q) j) = (if q = q ∧ j = i then v else bif Nat.beq q 10 then N j else bif (Nat.beq q 1 && Nat.ble j 17) then 0 else m (zHmP s q) j)
    rw [z_bqf hp.2.1]
    by_cases g : j = i
    · subst g
      rw [if_pos ⟨rfl, rfl⟩, zm_eq]
      rcases hp.2.2 with a | a
      · rw [z_bqf a]; rfl
      · have : Nat.ble j 17 = false := by
          cases hb : Nat.ble j 17 with
          | false => rfl
          | true => have := Nat.le_of_ble_eq_true hb; omega
        rw [this, Bool.and_false]; rfl
    · rw [if_neg (fun z => g z.2), zm_ne (Or.inr g)]
  · rw [zm_ne (m := zHm s N m) (Or.inl e)]
    show (bif Nat.beq q 10 then N j else bif (Nat.beq q 1 && Nat.ble j 17) then 0 else zm_up m (zHmP s p) i v (zHmP s q) j) = (bif Nat.beq q 10 then N j else bif (Nat.beq q 1 && Nat.ble j 17) then 0 else m (zHmP s q) j)
    rw [zm_ne (Or.inl (fun z => e (zHmP_in k ⟨hp.1, hp.2.1⟩ z)))]
theorem zHmU_e {s q : Nat} (h : zHmU s q) (p : Nat) : zHmP s p ≠ q := by
  unfold zHmP
  unfold zHmU at h
  cases Nat.beq p 0 <;> cases Nat.beq p 1 <;> cases Nat.beq p 2 <;> cases Nat.beq p 3 <;> (first | exact (fun z => by simp only [cond_true, cond_false] at z; omega) | skip)
  all_goals cases Nat.beq p 4 <;> cases Nat.beq p 5 <;> cases Nat.beq p 6 <;> cases Nat.beq p 7 <;> (first | exact (fun z => by simp only [cond_true, cond_false] at z; omega) | skip)
  all_goals cases Nat.beq p 8 <;> cases Nat.beq p 9 <;> cases Nat.beq p 11 <;> exact (fun z => by simp only [cond_true, cond_false] at z; omega)
theorem zHm_o {s : Nat} {N : Nat → Int} {m m1 : zM} {q i : Nat} {v : Int} (hq : zHmU s q) (h : m1 = zm_up m q i v) : zHm s N m1 = zHm s N m := by
  subst h
  funext p j
  show (bif Nat.beq p 10 then N j else bif (Nat.beq p 1 && Nat.ble j 17) then 0 else zm_up m q i v (zHmP s p) j) = (bif Nat.beq p 10 then N j else bif (Nat.beq p 1 && Nat.ble j 17) then 0 else m (zHmP s p) j)
  rw [zm_ne (Or.inl (zHmU_e hq p))]
/-- a cell of the model that the small memory leaves out -/
theorem zHm_lo {s : Nat} {N : Nat → Int} {m m1 : zM} {i : Nat} {v : Int} (k : s = 92 ∨ s = 93) (hi : i ≤ 17) (h : m1 = zm_up m 79 i v) : zHm s N m1 = zHm s N m := by
  subst h
  funext p j
  show (bif Nat.beq p 10 then N j else bif (Nat.beq p 1 && Nat.ble j 17) then 0 else zm_up m 79 i v (zHmP s p) j) = (bif Nat.beq p 10 then N j else bif (Nat.beq p 1 && Nat.ble j 17) then 0 else m (zHmP s p) j)
  by_cases e : p = 1
  · subst e
    by_cases g : j ≤ 17
    · rw [Nat.ble_eq_true_of_le g]; rfl
    · rw [zm_ne (Or.inr (by omega))]
  · rw [zm_ne (p := 79) (Or.inl (fun z => e (zHmP_in k (p := 1) ⟨by decide, by decide⟩ (z.trans rfl))))]
/-- Arrays.fill, with what the memory is behind it -/
theorem S_fillz (zn : Bool) (d : Nat) {c : Nat × Nat} {mM : zM} (hN : 107 ≤ c.1) (hC : c.1 < z_RO) {p n : Nat} (hp : zA 0 p n) (hlt : p < 79 ∧ p ≠ 12 ∧ p ≠ 18 ∧ p ≠ 0 ∧ p ≠ 68 ∧ p ≠ 2 ∧ p ≠ 1 ∧ p ≠ 75) (hn : n ≤ 2000000000) {v : Int} (m : zM) (hI : zI c mM m) (hv : ∀ i, i < n → zlo p i ≤ v ∧ v ≤ zhi p i) :
    ∃ m1, z_sem zn (d + 1) 28 [.ref p, .int (Int32.ofInt v)] (zk c m) none (zk c m1) ∧ zI c mM m1 ∧ (∀ q i, q ≠ p → m1 q i = m q i) ∧ (∀ i, i < n → m1 p i = v) ∧ m1 = zfl m p n v := by
  refine ⟨zfl m p n v, ?_, ?_, ?_, ?_, rfl⟩
  · have h := zf_fill zn d (N := c.1) (sl := c.2) (a := p) (n := n) (g := (zk c m).2.2) (f := fun j => Int32.ofInt (m p j)) (v := Int32.ofInt v) (hp _) (Nat.ble_eq_true_of_le (Nat.lt_of_lt_of_le hlt.1 (Nat.le_trans (by decide) hN))) (Nat.ble_eq_true_of_le hC) hn
    have e : ((c.1, c.2, va_up (zk c m).2.2 p (.inl (0, n, .inl (zfillf (fun j => Int32.ofInt (m p j)) (Int32.ofInt v) n)))) : z_H) = zk c (zfl m p n v) := by
      unfold zk
      congr 2
      funext k
      unfold va_up
      by_cases h : k = p
      · subst h
        rw [if_pos rfl, hp]
        congr 4
        funext j
        unfold zfillf zfl
        by_cases hj : j < n
        · simp [hj]
        · simp [hj]
      · rw [if_neg h]
        show zm_sh k (m k) = zm_sh k (zfl m p n v k)
        congr 1
        funext j
        unfold zfl
        rw [if_neg (fun q => h q.1)]
    rw [e] at h
    exact h
  · refine ⟨fun p1 i1 => ?_, ?_⟩
    · unfold zfl
      by_cases q : p1 = p ∧ i1 < n
      · rw [if_pos q, q.1]; exact hv i1 q.2
      · rw [if_neg q]; exact hI.1 p1 i1
    · obtain ⟨h1, h2, h3, h4⟩ := hI.2
      have e : ∀ q i, q ≠ p → zfl m p n v q i = m q i := fun q i hq => by unfold zfl; rw [if_neg (fun z => hq z.1)]
      refine ⟨by rw [e 18 1 (fun e => hlt.2.2.1 e.symm)]; exact h1, by rw [e 0 13 (fun e => hlt.2.2.2.1 e.symm)]; exact h2, fun j hj => ?_, fun q j a => ?_⟩
      · rw [e 12 j (fun e => hlt.2.1 e.symm)]
        exact h3 j (by rw [e 0 13 (fun e => hlt.2.2.2.1 e.symm)] at hj; exact hj)
      · rw [e q j (by unfold zQk at a; omega)]; exact h4 q j a
  · intro q i hq
    show (if q = p ∧ i < n then v else m q i) = _
    rw [if_neg (fun z => hq z.1)]
  · intro i hi
    show (if p = p ∧ i < n then v else m p i) = _
    rw [if_pos ⟨rfl, hi⟩]
/-- a TASTE's small memory -/
def zHt (T : Nat) (m : zM) : zM := fun p i => m (T + p) i
theorem zHt_w {T : Nat} {m m1 : zM} {p i : Nat} {v : Int} (h : m1 = zm_up m (T + p) i v) : zHt T m1 = zm_up (zHt T m) p i v := by
  subst h
  funext q j
  show zm_up m (T + p) i v (T + q) j = _
  by_cases e : q = p ∧ j = i
  · rw [e.1, e.2, zm_eq, zm_eq]
  · rw [zm_ne (show T + q ≠ T + p ∨ j ≠ i by omega), zm_ne (show q ≠ p ∨ j ≠ i by omega)]
    rfl
/-- what a look is worth to the model: V of the letters, or 100 less FAT; and 10 times the LURE -/
def zwt (V : Int → Int → Int → Int → Int → Int → Int) (t f h s k d p l : Int) : Int := if t = -1 then zw ((100 - f) + (10 * l)) else zw (V f h s k d p + (10 * l))
