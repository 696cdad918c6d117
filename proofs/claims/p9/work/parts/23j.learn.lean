/-! A TASTE LEARNT: its four cells -/
theorem va_up2 {α : Type} (g : Nat → α) (n : Nat) (a b : α) : va_up (va_up g n a) n b = va_up g n b := by
  funext q
  unfold va_up
  split <;> rfl
theorem va_upN {α : Type} (g : Nat → α) (n : Nat) (a : α) {q : Nat} (h : q ≠ n) : va_up g n a q = g q := by
  unfold va_up
  rw [if_neg h]
theorem va_upE {α : Type} (g : Nat → α) (n : Nat) (a : α) : va_up g n a n = a := by
  unfold va_up
  rw [if_pos rfl]
def zof (e : z_E) : z_O := (false, 0, none, zh0, some e)
set_option maxRecDepth 100000 in
theorem S_copyOf (zn : Bool) (d : Nat) {N sl : Nat} {g : Nat → z_E} {a n0 : Nat} {f : Nat → Int32} {x : Int32} {k : Int} (hg : g a = .inl (0, n0, .inl f)) (haN : a < N) (hN : N + 1 < z_RO) (hx : x = Int32.ofInt k) (hk : 0 ≤ k ∧ k < n0) (hn0 : n0 ≤ 240) :
    z_sem zn (d + 1) 27 [.ref a, .int x] (N, sl, g) (some (.ref N)) (N + 1, sl + x.toNatClampNeg, va_up g N (.inl (0, x.toNatClampNeg, .inl (va_cpy f (fun _ => 0) 0 0 x.toNatClampNeg)))) := by
  have hR : zR k := by unfold zR; omega
  have hto := zi_x hx hR
  have hnat := zi_nat hx hR
  have hl : (Int32.ofNat n0).toInt = (n0 : Int) := zi_x (a := (n0 : Int)) rfl (by unfold zR; omega)
  have hlt : x < Int32.ofNat n0 := by rw [Int32.lt_iff_toInt_lt, hto, hl]; omega
  have h0 : ¬ x < 0 := fun q => by
    rw [Int32.lt_iff_toInt_lt, hto] at q
    have : (0 : Int32).toInt = 0 := by decide
    omega
  have hne : x ≠ Int32.ofNat n0 := fun q => by
    have := congrArg Int32.toInt q
    rw [hto, hl] at this
    omega
  have hmin : (if x < Int32.ofNat n0 then x else Int32.ofNat n0) = x := if_pos hlt
  have z0 : (Int32.ofInt 0).toNatClampNeg = 0 := by decide
  have nz : ¬ (Int32.ofInt 0) < 0 := by decide
  have hsrc : va_up g N (.inl (0, z_da 0 x.toNatClampNeg)) a = .inl (0, n0, .inl f) := by rw [va_upN _ _ _ (by omega)]; exact hg
  have key : z_sem zn (d + 1) 27 [.ref a, .int x] (N, sl, g) (some (.ref N)) (N + 1, sl + x.toNatClampNeg, va_up (va_up g N (.inl (0, z_da 0 x.toNatClampNeg))) N (.inl (0, x.toNatClampNeg, .inl (va_cpy f (fun _ => 0) (Int32.ofInt 0).toNatClampNeg (Int32.ofInt 0).toNatClampNeg (if x < Int32.ofNat n0 then x else Int32.ofNat n0).toNatClampNeg)))) := by
    refine ⟨zu_J7_copyOf_59c91, hN, (Nat.le_of_ble_eq_true rfl), [zo, zo, zof (.inl (0, n0, .inl f)), zt, zo, zo, zo, zo, zo, zo, zo, zo, zof (.inl (0, n0, .inl f)), zo, zo, (false, 0, none, (0, 0, fun _ => .inl (0, n0, .inl f)), some (.inl (0, x.toNatClampNeg, .inl (fun _ => 0)))), zo],
      (32, [some (.ref a), some (.int x), some (.ref N)], [.ref N], (N + 1, sl + x.toNatClampNeg, va_up (va_up g N (.inl (0, z_da 0 x.toNatClampNeg))) N (.inl (0, x.toNatClampNeg, .inl (va_cpy f (fun _ => 0) (Int32.ofInt 0).toNatClampNeg (Int32.ofInt 0).toNatClampNeg (if x < Int32.ofNat n0 then x else Int32.ofNat n0).toNatClampNeg))))), _, rfl, ?_, ?_⟩
    · refine ⟨trivial, trivial, ⟨hg, haN⟩, zbt hne, trivial, ⟨⟨h0, by rw [hnat]; omega⟩, Nat.le_refl _, Nat.le_refl _⟩, trivial, trivial, trivial, trivial, trivial, trivial, ⟨hsrc, Nat.lt_succ_of_lt haN⟩, trivial, ⟨(Nat.le_of_ble_eq_true rfl), Nat.le_refl _, Nat.le_refl _⟩, ⟨⟨va_upE _ _ _, Nat.lt_succ_self N⟩, ⟨hsrc, Nat.lt_succ_of_lt haN⟩, nz, nz, by show ¬ (if x < Int32.ofNat n0 then x else Int32.ofNat n0) < 0; rw [hmin]; exact h0, by show _ + (if x < Int32.ofNat n0 then x else Int32.ofNat n0).toNatClampNeg ≤ _; rw [hmin, z0, hnat]; omega, by show _ + (if x < Int32.ofNat n0 then x else Int32.ofNat n0).toNatClampNeg ≤ _; rw [hmin, z0]; omega, (Nat.le_of_ble_eq_true rfl)⟩, trivial, trivial⟩
    · exact ⟨rfl, rfl, Nat.lt_succ_self N, rfl⟩
  rw [va_up2, hmin, z0] at key
  exact key
def zc4 (v : Value) (h : z_H) : z_O := (false, 0, some v, h, none)
set_option maxRecDepth 100000 in
theorem S_X9_init (zn : Bool) (d : Nat) {T sl : Nat} {g : Nat → z_E} {a n0 : Nat} {f : Nat → Int32} {x : Int32} {k b : Int} (hT : g T = .inr (9, [.null, .int 0, .null, .null])) (hg : g a = .inl (0, n0, .inl f)) (haT : a < T) (hN : T + 4 < z_RO) (hx : x = Int32.ofInt k) (hk : 0 ≤ k ∧ k < n0) (hn0 : n0 ≤ 240) (hb : 0 ≤ b ∧ b ≤ 1) :
    ∃ g1, z_sem zn (d + 2) 113 [.ref T, .ref a, .int x, .int (Int32.ofInt b)] (T + 1, sl, g) none (T + 4, sl + 38 + x.toNatClampNeg, g1) ∧
      g1 T = .inr (9, [.ref (T + 3), .int (Int32.ofInt b), .ref (T + 1), .ref (T + 2)]) ∧ g1 (T + 1) = .inl (0, 6, .inl (fun _ => 0)) ∧ g1 (T + 2) = .inl (1, 32, .inr (.inl (fun _ => 0))) ∧ g1 (T + 3) = .inl (0, x.toNatClampNeg, .inl (va_cpy f (fun _ => 0) 0 0 x.toNatClampNeg)) ∧ ∀ q, q ≠ T → q ≠ T + 1 → q ≠ T + 2 → q ≠ T + 3 → g1 q = g q := by
  obtain ⟨g2, h2⟩ : ∃ q, q = va_up g (T + 1) (.inl (0, z_da 0 6) : z_E) := ⟨_, rfl⟩
  obtain ⟨g3, h3⟩ : ∃ q, q = va_up g2 T (.inr (9, [.null, .int 0, .ref (T + 1), .null]) : z_E) := ⟨_, rfl⟩
  obtain ⟨g4, h4⟩ : ∃ q, q = va_up g3 (T + 2) (.inl (1, z_da 1 32) : z_E) := ⟨_, rfl⟩
  obtain ⟨g5, h5⟩ : ∃ q, q = va_up g4 T (.inr (9, [.null, .int 0, .ref (T + 1), .ref (T + 2)]) : z_E) := ⟨_, rfl⟩
  obtain ⟨g6, h6⟩ : ∃ q, q = va_up g5 (T + 3) (.inl (0, x.toNatClampNeg, .inl (va_cpy f (fun _ => 0) 0 0 x.toNatClampNeg)) : z_E) := ⟨_, rfl⟩
  obtain ⟨g7, h7⟩ : ∃ q, q = va_up g6 T (.inr (9, [.ref (T + 3), .int 0, .ref (T + 1), .ref (T + 2)]) : z_E) := ⟨_, rfl⟩
  obtain ⟨g8, h8⟩ : ∃ q, q = va_up g7 T (.inr (9, [.ref (T + 3), .int (Int32.ofInt b), .ref (T + 1), .ref (T + 2)]) : z_E) := ⟨_, rfl⟩
  have e2 : g2 T = .inr (9, [.null, .int 0, .null, .null]) := by rw [h2, va_upN _ _ _ (by omega)]; exact hT
  have e4 : g4 T = .inr (9, [.null, .int 0, .ref (T + 1), .null]) := by rw [h4, va_upN _ _ _ (by omega), h3, va_upE]
  have e5 : g5 a = .inl (0, n0, .inl f) := by rw [h5, va_upN _ _ _ (by omega), h4, va_upN _ _ _ (by omega), h3, va_upN _ _ _ (by omega), h2, va_upN _ _ _ (by omega)]; exact hg
  have e6 : g6 T = .inr (9, [.null, .int 0, .ref (T + 1), .ref (T + 2)]) := by rw [h6, va_upN _ _ _ (by omega), h5, va_upE]
  have e7 : g7 T = .inr (9, [.ref (T + 3), .int 0, .ref (T + 1), .ref (T + 2)]) := by rw [h7, va_upE]
  have hc := S_copyOf zn d (N := T + 3) (sl := sl + 6 + 32) (g := g5) (a := a) e5 (by omega) (by omega) hx hk hn0
  rw [← h6] at hc
  have hs38 : sl + 6 + 32 = sl + 38 := by omega
  rw [hs38] at hc
  refine ⟨g8, ?_, by rw [h8, va_upE], ?_, ?_, ?_, fun q k0 k1 k2 k3 => ?_⟩
  · have lv9 : ∃ L, L = [some (Value.ref T), some (.ref a), some (.int x), some (.int (Int32.ofInt b))] := ⟨_, rfl⟩
    have p1 : z_reach (z_sem zn (d + 1)) (none, zn) (T + 4, sl + 38 + x.toNatClampNeg) 113 (0, [some (.ref T), some (.ref a), some (.int x), some (.int (Int32.ofInt b))], [], (T + 1, sl, g)) (23, [some (.ref T), some (.ref a), some (.int x), some (.int (Int32.ofInt b))], [.int x, .ref a, .ref T], (T + 3, sl + 38, g5)) := by
      rw [← hs38, h5, h4, h3, h2]
      rw [h2] at e2
      rw [h4, h3, h2] at e4
      exact ⟨[zo, zo, zo, zo, zo, zof (.inr (9, [.null, .int 0, .null, .null])), zo, zo, zo, zof (.inr (9, [.null, .int 0, .ref (T + 1), .null])), zo, zo, zo], _, rfl, trivial, (Nat.le_of_ble_eq_true rfl), trivial, trivial, ⟨⟨by decide, by decide⟩, by show T + 1 + 1 ≤ T + 4; omega, by show sl + 6 ≤ sl + 38 + x.toNatClampNeg; omega⟩, ⟨⟨e2, by show T < T + 1 + 1; omega⟩, rfl, rfl⟩, trivial, trivial, ⟨⟨by decide, by decide⟩, by show T + 1 + 1 + 1 ≤ T + 4; omega, by show sl + 6 + 32 ≤ sl + 38 + x.toNatClampNeg; omega⟩, ⟨⟨e4, by show T < T + 1 + 1 + 1; omega⟩, rfl, rfl⟩, trivial, trivial, trivial, trivial⟩
    have p2 : z_reach (z_sem zn (d + 1)) (none, zn) (T + 4, sl + 38 + x.toNatClampNeg) 113 (23, [some (.ref T), some (.ref a), some (.int x), some (.int (Int32.ofInt b))], [.int x, .ref a, .ref T], (T + 3, sl + 38, g5)) (26, [some (.ref T), some (.ref a), some (.int x), some (.int (Int32.ofInt b))], [.ref (T + 3), .ref T], (T + 4, sl + 38 + x.toNatClampNeg, g6)) :=
      ⟨[zc4 (.ref (T + 3)) (T + 4, sl + 38 + x.toNatClampNeg, g6)], _, rfl, ⟨(Nat.le_of_ble_eq_true rfl), hc, (Nat.le_of_ble_eq_true rfl), by show T + 3 ≤ T + 4; omega, by show sl + 38 ≤ sl + 38 + x.toNatClampNeg; omega, Nat.le_refl _, Nat.le_refl _⟩, trivial⟩
    have p3 : z_reach (z_sem zn (d + 1)) (none, zn) (T + 4, sl + 38 + x.toNatClampNeg) 113 (26, [some (.ref T), some (.ref a), some (.int x), some (.int (Int32.ofInt b))], [.ref (T + 3), .ref T], (T + 4, sl + 38 + x.toNatClampNeg, g6)) (34, [some (.ref T), some (.ref a), some (.int x), some (.int (Int32.ofInt b))], [], (T + 4, sl + 38 + x.toNatClampNeg, g8)) := by
      rw [h8, h7]
      rw [h7] at e7
      exact ⟨[zof (.inr (9, [.null, .int 0, .ref (T + 1), .ref (T + 2)])), zo, zo, zof (.inr (9, [.ref (T + 3), .int 0, .ref (T + 1), .ref (T + 2)]))], _, rfl, ⟨⟨e6, by show T < T + 4; omega⟩, rfl, rfl⟩, trivial, trivial, ⟨⟨e7, by show T < T + 4; omega⟩, z_narZ rfl hb, z_fitZ rfl hb⟩, trivial⟩
    exact z_sem_of zu_X9_init hN (Nat.le_of_ble_eq_true rfl) (z_reach.trans p1 (z_reach.trans p2 p3)) (zfin_v rfl rfl)
  · rw [h8, va_upN _ _ _ (by omega), h7, va_upN _ _ _ (by omega), h6, va_upN _ _ _ (by omega), h5, va_upN _ _ _ (by omega), h4, va_upN _ _ _ (by omega), h3, va_upN _ _ _ (by omega), h2, va_upE]; rfl
  · rw [h8, va_upN _ _ _ (by omega), h7, va_upN _ _ _ (by omega), h6, va_upN _ _ _ (by omega), h5, va_upN _ _ _ (by omega), h4, va_upE]; rfl
  · rw [h8, va_upN _ _ _ (by omega), h7, va_upN _ _ _ (by omega), h6, va_upE]
  · rw [h8, va_upN _ _ _ k0, h7, va_upN _ _ _ k0, h6, va_upN _ _ _ k3, h5, va_upN _ _ _ k0, h4, va_upN _ _ _ k2, h3, va_upN _ _ _ k0, h2, va_upN _ _ _ k1]
/-- the memory behind a TASTE learnt -/
def zmT (m : zM) (T : Nat) : zM := fun p i => if p = T then (if i = 1 then m 10 3 else 0) else if p = T + 1 then 0 else if p = T + 2 then 0 else if p = T + 3 then (if i = 1001 then m 10 2 else if i < (m 10 2).toNat then m 11 i else 0) else m p i
def zmL (m : zM) (T : Nat) : zM := zm_up (zm_up (zm_up (zmT m T) 12 (m 0 13).toNat (T : Int)) 0 13 (m 0 13 + 1)) 1 1 0
theorem zmT_o {m : zM} {T p i : Nat} (h : p < T) : zmT m T p i = m p i := by
  unfold zmT
  rw [if_neg (by omega), if_neg (by omega), if_neg (by omega), if_neg (by omega)]
theorem zmT_h {m : zM} {T p i : Nat} (h : T + 3 < p) : zmT m T p i = m p i := by
  unfold zmT
  rw [if_neg (by omega), if_neg (by omega), if_neg (by omega), if_neg (by omega)]
theorem zmL_o {m : zM} {T p i : Nat} (h : p < T ∨ T + 3 < p) (h2 : p ≠ 12 ∨ i ≠ (m 0 13).toNat) (h3 : p ≠ 0 ∨ i ≠ 13) (h4 : p ≠ 1 ∨ i ≠ 1) : zmL m T p i = m p i := by
  unfold zmL
  rw [zm_ne h4, zm_ne h3, zm_ne h2]
  exact h.elim zmT_o zmT_h
theorem zmL_T {m : zM} {T p i : Nat} (hT : 107 ≤ T) (h : T ≤ p) : zmL m T p i = zmT m T p i := by
  unfold zmL
  rw [zm_ne (by omega), zm_ne (by omega), zm_ne (by omega)]
theorem zT_b4 {T i : Nat} (h : zTp T) (d : Nat) (hd : d < 4) : zlo (T + d) i ≤ 0 ∧ 240 ≤ zhi (T + d) i := by
  rcases h with h | h | h | h <;> subst h <;> (rcases (show d = 0 ∨ d = 1 ∨ d = 2 ∨ d = 3 by omega) with q | q | q | q <;> subst q) <;> (show (bif Nat.beq i 1001 then _ else _) ≤ _ ∧ _ ≤ (bif Nat.beq i 1001 then _ else _); cases Nat.beq i 1001 <;> decide)
theorem zT_b3 {T i : Nat} (h : zTp T) (hi : i ≠ 1001) : zhi (T + 3) i = 2147483647 := by
  rcases h with h | h | h | h <;> subst h <;> (show (bif Nat.beq i 1001 then _ else _) = _; rw [z_bqf hi]; rfl)
theorem zI_learn {c : Nat × Nat} {mM m : zM} {sl : Nat} (hI : zI c mM m) (h0 : 0 ≤ m 0 13) (h3 : m 0 13 ≤ 3) : zI (c.1 + 4, sl) (zmL m c.1) (zmL m c.1) := by
  obtain ⟨hB, g1, g2, g3, g4⟩ := hI
  have hc : 107 + 4 * m 0 13 = (c.1 : Int) := g2
  have hT : zTp c.1 := by unfold zTp; omega
  have h107 : 107 ≤ c.1 := by omega
  have h102 : (0 : Int) ≤ m 10 2 ∧ m 10 2 ≤ 240 := hB 10 2
  have h103 : (0 : Int) ≤ m 10 3 ∧ m 10 3 ≤ 1 := hB 10 3
  refine ⟨fun p i => ?_, ?_, ?_, fun j hj => ?_, fun _ _ _ => rfl⟩
  · by_cases e : p < c.1 ∨ c.1 + 3 < p
    · by_cases e1 : p = 12 ∧ i = (m 0 13).toNat
      · rw [e1.1, e1.2]
        have x : zmL m c.1 12 (m 0 13).toNat = (c.1 : Int) := by unfold zmL; rw [zm_ne (by omega), zm_ne (by omega), zm_eq]
        rw [x]
        show (-2147483648 : Int) ≤ _ ∧ _ ≤ (2147483647 : Int)
        omega
      · by_cases e2 : p = 0 ∧ i = 13
        · rw [e2.1, e2.2]
          have x : zmL m c.1 0 13 = m 0 13 + 1 := by unfold zmL; rw [zm_ne (by omega), zm_eq]
          rw [x]
          show (0 : Int) ≤ _ ∧ _ ≤ (4 : Int)
          omega
        · by_cases e3 : p = 1 ∧ i = 1
          · rw [e3.1, e3.2]
            have x : zmL m c.1 1 1 = 0 := by unfold zmL; rw [zm_eq]
            rw [x]
            show (0 : Int) ≤ _ ∧ _ ≤ (240 : Int)
            decide
          · rw [zmL_o e (by omega) (by omega) (by omega)]; exact hB p i
    · rw [zmL_T h107 (by omega)]
      have hcode : ∀ i, (0 : Int) ≤ m 11 i ∧ m 11 i ≤ 2147483647 := fun i => hB 11 i
      obtain ⟨dd, hd, hp⟩ : ∃ dd, dd < 4 ∧ p = c.1 + dd := ⟨p - c.1, by omega, by omega⟩
      have hb4 := zT_b4 (i := i) hT dd hd
      rw [← hp] at hb4
      unfold zmT
      by_cases e0 : p = c.1
      · rw [if_pos e0]; split <;> omega
      · rw [if_neg e0]
        by_cases e1 : p = c.1 + 1
        · rw [if_pos e1]; omega
        · rw [if_neg e1]
          by_cases e2 : p = c.1 + 2
          · rw [if_pos e2]; omega
          · have e3 : p = c.1 + 3 := by omega
            rw [if_neg e2, if_pos e3]
            by_cases e4 : i = 1001
            · rw [if_pos e4]; omega
            · rw [if_neg e4]
              have := zT_b3 hT e4
              rw [← e3] at this
              have hq := hcode i
              split <;> omega
  · rcases (show m 18 1 = 0 ∨ _ from g1) with q | q
    · left; rw [zmL_o (by omega) (by omega) (by omega) (by omega)]; exact q
    · right; rw [zmL_o (by omega) (by omega) (by omega) (by omega)]; exact ⟨q.1, by show _ ≤ ((c.1 + 4 : Nat) : Int); omega⟩
  · have x : zmL m c.1 0 13 = m 0 13 + 1 := by unfold zmL; rw [zm_ne (by omega), zm_eq]
    rw [x]; show _ = ((c.1 + 4 : Nat) : Int); omega
  · have x : zmL m c.1 0 13 = m 0 13 + 1 := by unfold zmL; rw [zm_ne (by omega), zm_eq]
    rw [x] at hj
    by_cases e : j = (m 0 13).toNat
    · subst e
      have x2 : zmL m c.1 12 (m 0 13).toNat = (c.1 : Int) := by unfold zmL; rw [zm_ne (by omega), zm_ne (by omega), zm_eq]
      rw [x2]; omega
    · rw [zmL_o (by omega) (by omega) (by omega) (by omega)]; exact g3 j (by omega)
theorem zmL_13 {m : zM} {T : Nat} : zmL m T 0 13 = m 0 13 + 1 := by unfold zmL; rw [zm_ne (by omega), zm_eq]
theorem zmL_12 {m : zM} {T : Nat} : zmL m T 12 (m 0 13).toNat = (T : Int) := by unfold zmL; rw [zm_ne (by omega), zm_ne (by omega), zm_eq]
theorem zmL_N {m : zM} {T : Nat} (hT : 107 ≤ T) : zN m (zmL m T) := fun p hp => zmL_o (by unfold zRow at hp; omega) (by unfold zRow at hp; omega) (by unfold zRow at hp; omega) (by unfold zRow at hp; omega)
set_option maxRecDepth 100000 in
theorem S_learn_tail (zn : Bool) (d : Nat) {c2 : Nat × Nat} (hN : 107 ≤ c2.1) {m m2 : zM} {T : Nat} (h2 : m2 = zm_up (zmT m T) 12 (m 0 13).toNat (T : Int)) (hT : 107 ≤ T) (hI2 : zB m2 ∧ True) :
    zW zn d 156 c2 (37, [(some (.ref 0))], [], zk c2 m2) (fun v h1 => ∃ (r : Int) (m1 : zM), v = some (.int (Int32.ofInt r)) ∧ h1 = zk c2 m1 ∧ True ∧ (m1 = zmL m T) ∧ (r = m 0 13)) := by
  have e13 : m2 0 13 = m 0 13 := by rw [h2, zm_ne (by omega), zmT_o (by omega)]
  have f101 : (0 : Int) ≤ m2 0 13 ∧ m2 0 13 ≤ 4 := hI2.1 0 13
  obtain ⟨m102, hm102⟩ : ∃ q, q = zm_up m2 0 13 ((m2 0 13) + 1) := ⟨_, rfl⟩
  have em102 : m102 0 13 = ((m2 0 13) + 1) := by rw [hm102]; exact zm_eq
  refine zW.step (st1 := (47, [(some (.ref 0))], [], z_hup (zk c2 m2) 0 (.inr (11, [.ref 1, .ref 3, .ref 10, .ref 12, .ref 13, .ref 17, .ref 18, .ref 23, .ref 68, .ref 69, .ref 73, .ref 75, .int (Int32.ofInt (m2 0 12)), .int ((Int32.ofInt (m2 0 13)) + (Int32.ofInt 1)), .int (Int32.ofInt (m2 0 14))])))) (st2 := (47, [(some (.ref 0))], [], zk c2 m102)) ⟨[zo, zo, zo, zo, zo, zo], _, rfl, ⟨trivial, trivial, (Nat.lt_of_lt_of_le (Nat.le_of_ble_eq_true rfl) hN), trivial, trivial, ⟨(Nat.lt_of_lt_of_le (Nat.le_of_ble_eq_true rfl) hN), rfl, rfl⟩, trivial⟩⟩ (z_steq rfl rfl ((zk_up c2 m2 0 13 ((m2 0 13) + 1) _ ((congrArg (fun q => (.inr (11, [.ref 1, .ref 3, .ref 10, .ref 12, .ref 13, .ref 17, .ref 18, .ref 23, .ref 68, .ref 69, .ref 73, .ref 75, .int (Int32.ofInt (m2 0 12)), .int q, .int (Int32.ofInt (m2 0 14))]) : z_E)) (zi_add rfl rfl)).trans rfl)).trans (by rw [hm102]))) ?_
  obtain ⟨m103, hm103⟩ : ∃ q, q = zm_up m102 1 1 0 := ⟨_, rfl⟩
  have em103 : m103 1 1 = 0 := by rw [hm103]; exact zm_eq
  have f104 : m103 0 13 = m102 0 13 := by rw [hm103]; exact zm_ne (by omega)
  refine zW.step (st1 := (55, [(some (.ref 0))], [], z_hup (zk c2 m102) 1 (.inr (8, [.ref 2, .int (Int32.ofInt 0), .int (Int32.ofInt (m102 1 2)), .int (Int32.ofInt (m102 1 3))])))) (st2 := (55, [(some (.ref 0))], [], zk c2 m103)) ⟨[zo, zo, zo, zo], _, rfl, ⟨trivial, (Nat.lt_of_lt_of_le (Nat.le_of_ble_eq_true rfl) hN), trivial, ⟨(Nat.lt_of_lt_of_le (Nat.le_of_ble_eq_true rfl) hN), rfl, rfl⟩, trivial⟩⟩ (z_steq rfl rfl ((zk_up c2 m102 1 1 0 _ rfl).trans (by rw [hm103]))) ?_
  refine zW.step (st1 := (61, [(some (.ref 0))], [.int ((Int32.ofInt (m103 0 13)) - (Int32.ofInt 1))], zk c2 m103)) (st2 := (61, [(some (.ref 0))], [.int (Int32.ofInt ((m103 0 13) - 1))], zk c2 m103)) ⟨[zo, zo, zo, zo], _, rfl, ⟨trivial, (Nat.lt_of_lt_of_le (Nat.le_of_ble_eq_true rfl) hN), trivial, trivial, trivial⟩⟩ (z_steq rfl (z_c1 (z_vi (zi_sub rfl rfl)) rfl) rfl) ?_
  exact zW.fin (zfin_i rfl rfl rfl) ⟨(m103 0 13) - 1, m103, rfl, rfl, trivial, (by rw [hm103, hm102, e13, h2]; rfl), (by omega)⟩


set_option maxRecDepth 100000 in
theorem S_X11_learn (zn : Bool) (d : Nat) {c : Nat × Nat} {mM m : zM} (hN : 107 ≤ c.1) (hC : c.1 + 4 < z_RO) (hI : zI c mM m) (h3 : m 0 13 ≤ 3) (hlen : m 10 2 ≤ 239) :
    ∃ m1 sl, z_sem zn (d + 4) 156 [.ref 0] (zk c m) (some (.int (Int32.ofInt (m 0 13)))) (zk (c.1 + 4, sl) m1) ∧ zI (c.1 + 4, sl) m1 m1 ∧ m1 = zmL m c.1 ∧ zN m m1 ∧ sl ≤ c.2 + 282 ∧ c.2 ≤ sl := by
  have h13 : (0 : Int) ≤ m 0 13 ∧ m 0 13 ≤ 4 := hI.1 0 13
  have hc : 107 + 4 * m 0 13 = (c.1 : Int) := hI.2.2.1
  have h102 : (0 : Int) ≤ m 10 2 ∧ m 10 2 ≤ 240 := hI.1 10 2
  have h103 : (0 : Int) ≤ m 10 3 ∧ m 10 3 ≤ 1 := hI.1 10 3
  have hT : zTp c.1 := by unfold zTp; omega
  obtain ⟨g0, hg0⟩ : ∃ q, q = va_up (zk c m).2.2 c.1 (.inr (9, [.null, .int 0, .null, .null]) : z_E) := ⟨_, rfl⟩
  have o0 : ∀ q, q ≠ c.1 → g0 q = zm_sh q (m q) := fun q hq => by rw [hg0, va_upN _ _ _ hq]; rfl
  obtain ⟨g1, hs, t0, t1, t2, t3, tq⟩ := S_X9_init zn (d + 1) (T := c.1) (sl := c.2 + 4) (g := g0) (a := 11) (n0 := 240) (f := fun j => Int32.ofInt (m 11 j)) (x := Int32.ofInt (m 10 2)) (k := m 10 2) (b := m 10 3) (by rw [hg0, va_upE]) (o0 11 (by omega)) (by omega) hC rfl (by omega) (by decide) h103
  have hnat : (Int32.ofInt (m 10 2)).toNatClampNeg = (m 10 2).toNat := zi_nat rfl (by unfold zR; omega)
  rw [hnat] at hs t3
  have hkn : (Int32.ofInt (m 0 13)).toNatClampNeg = (m 0 13).toNat := zi_nat rfl (by unfold zR; omega)
  obtain ⟨c2, hc2⟩ : ∃ q, q = (c.1 + 4, c.2 + 4 + 38 + (m 10 2).toNat) := ⟨_, rfl⟩
  obtain ⟨m2, h2⟩ : ∃ q, q = zm_up (zmT m c.1) 12 (m 0 13).toNat (c.1 : Int) := ⟨_, rfl⟩
  have hz := zI_learn (sl := c.2 + 4 + 38 + (m 10 2).toNat) hI h13.1 h3
  have hB2 : zB m2 := fun p i => by
    have q := hz.1 p i
    by_cases e1 : (p = 0 ∧ i = 13) ∨ (p = 1 ∧ i = 1)
    · rw [h2, zm_ne (by omega), zmT_o (by omega)]; exact hI.1 p i
    · unfold zmL at q
      rw [zm_ne (by omega), zm_ne (by omega), ← h2] at q
      exact q
  have heq : z_hup ((c.1 + 4, c.2 + 4 + 38 + (m 10 2).toNat, g1) : z_H) 12 (.inl (4, 4, .inr (.inr (.inr (.inr (va_up (fun j => zm_ro (m 12 j)) (Int32.ofInt (m 0 13)).toNatClampNeg (some c.1))))))) = zk c2 m2 := by
    rw [hc2, hkn]
    show ((c.1 + 4, c.2 + 4 + 38 + (m 10 2).toNat, va_up g1 12 _) : z_H) = ((c.1 + 4, c.2 + 4 + 38 + (m 10 2).toNat, fun k => zm_sh k (m2 k)) : z_H)
    congr 2
    funext q
    by_cases e : q = 12
    · subst e
      rw [va_upE]
      show _ = (.inl (4, 4, .inr (.inr (.inr (.inr (fun j => zm_ro (m2 12 j)))))) : z_E)
      congr 7
      funext j
      by_cases e9 : j = (m 0 13).toNat
      · subst e9
        rw [va_upE, h2, zm_eq]
        unfold zm_ro
        rw [if_neg (by omega)]; rfl
      · rw [va_upN _ _ _ e9, h2, zm_ne (by omega), zmT_o (by omega)]
    · have f : ∀ i, m2 q i = zmT m c.1 q i := fun i => by rw [h2, zm_ne (by omega)]
      rw [va_upN _ _ _ e]
      have ef : m2 q = zmT m c.1 q := funext f
      rw [ef]
      by_cases q0 : q = c.1
      · rw [q0, t0]
        refine ((zk_tas (0, 0) (zmT m c.1) hT).trans ?_).symm
        have : zmT m c.1 c.1 1 = m 10 3 := by unfold zmT; rw [if_pos rfl, if_pos rfl]
        rw [this]
      · by_cases q1 : q = c.1 + 1
        · rw [q1, t1]
          refine ((zAt1 hT (zmT m c.1 (c.1 + 1))).trans ?_).symm
          have : ∀ j, zmT m c.1 (c.1 + 1) j = 0 := fun j => by unfold zmT; rw [if_neg (by omega), if_pos rfl]
          congr 4
          funext j
          rw [this]; rfl
        · by_cases q2 : q = c.1 + 2
          · rw [q2, t2]
            refine ((zAt2 hT (zmT m c.1 (c.1 + 2))).trans ?_).symm
            have : ∀ j, zmT m c.1 (c.1 + 2) j = 0 := fun j => by unfold zmT; rw [if_neg (by omega), if_neg (by omega), if_pos rfl]
            congr 5
            funext j
            rw [this]; rfl
          · by_cases q3 : q = c.1 + 3
            · rw [q3, t3]
              refine ((zk_code (c.1 + 4, 0) (zmT m c.1) hT (Nat.le_refl _)).1.trans ?_).symm
              have e1 : zmT m c.1 (c.1 + 3) 1001 = m 10 2 := by unfold zmT; rw [if_neg (by omega), if_neg (by omega), if_neg (by omega), if_pos rfl, if_pos rfl]
              rw [e1]
              congr 4
              funext j
              unfold va_cpy zcd
              by_cases j1 : j = 1001
              · rw [if_pos j1, if_neg (by omega)]; rfl
              · rw [if_neg j1]
                have e2 : zmT m c.1 (c.1 + 3) j = if j < (m 10 2).toNat then m 11 j else 0 := by unfold zmT; rw [if_neg (by omega), if_neg (by omega), if_neg (by omega), if_pos rfl, if_neg j1]
                rw [e2]
                by_cases j2 : j < (m 10 2).toNat
                · rw [if_pos j2, if_pos (by omega)]; congr 2; omega
                · rw [if_neg j2, if_neg (by omega)]; rfl
            · rw [tq q q0 q1 q2 q3, o0 q q0]
              congr 1
              funext i
              unfold zmT
              rw [if_neg q0, if_neg q1, if_neg q2, if_neg q3]
  have hW : zW zn (d + 3) 156 c2 (0, [(some (.ref 0))], [], zk c m) (fun v h1 => ∃ (r : Int) (m1 : zM), v = some (.int (Int32.ofInt r)) ∧ h1 = zk c2 m1 ∧ True ∧ (m1 = zmL m c.1) ∧ (r = m 0 13)) := by
    have b1 : c2.1 = c.1 + 4 := by rw [hc2]
    have b2 : c2.2 = c.2 + 4 + 38 + (m 10 2).toNat := by rw [hc2]
    have LT0 : ∀ n : Nat, n < 107 → n < c.1 := fun n hn => by omega
    have c0 : g0 0 = zm_sh 0 (m 0) := o0 0 (by omega)
    have c10 : g0 10 = zm_sh 10 (m 10) := o0 10 (by omega)
    refine zW.step (st1 := (33, [some (.ref 0)], [.int (Int32.ofInt (m 10 3)), .int (Int32.ofInt (m 10 2)), .ref 11, .ref c.1, .ref c.1, .int (Int32.ofInt (m 0 13)), .ref 12], (c.1 + 1, c.2 + 4, va_up (zk c m).2.2 c.1 (.inr (9, [.null, .int 0, .null, .null]))))) (st2 := (33, [some (.ref 0)], [.int (Int32.ofInt (m 10 3)), .int (Int32.ofInt (m 10 2)), .ref 11, .ref c.1, .ref c.1, .int (Int32.ofInt (m 0 13)), .ref 12], (c.1 + 1, c.2 + 4, g0))) ⟨[zo, zo, zo, zo, zo, zo, zo, zof (zm_sh 0 (m 0)), zof (zm_sh 10 (m 10)), zo, zof (zm_sh 0 (m 0)), zof (zm_sh 10 (m 10)), zo, zof (zm_sh 0 (m 0)), zof (zm_sh 10 (m 10))], _, rfl, ?_⟩ (by rw [hg0]) ?_
    · rw [hg0] at c0 c10
      exact ⟨trivial, LT0 0 (by decide), trivial, LT0 0 (by decide), ⟨by rw [b1]; omega, by rw [b2]; show c.2 + 4 ≤ _; omega⟩, trivial, trivial, ⟨c0, by show 0 < c.1 + 1; omega⟩, ⟨c10, by show 10 < c.1 + 1; omega⟩, trivial, ⟨c0, by show 0 < c.1 + 1; omega⟩, ⟨c10, by show 10 < c.1 + 1; omega⟩, trivial, ⟨c0, by show 0 < c.1 + 1; omega⟩, ⟨c10, by show 10 < c.1 + 1; omega⟩, trivial⟩
    refine zW.step (st1 := (36, [some (.ref 0)], [.ref c.1, .int (Int32.ofInt (m 0 13)), .ref 12], (c.1 + 4, c.2 + 4 + 38 + (m 10 2).toNat, g1))) ⟨[zc none (c.1 + 4, c.2 + 4 + 38 + (m 10 2).toNat, g1)], _, rfl, ⟨⟨(Nat.le_of_ble_eq_true rfl), rfl⟩, hs, (Nat.le_of_ble_eq_true rfl), by show c.1 + 1 ≤ c.1 + 4; omega, by show c.2 + 4 ≤ c.2 + 4 + 38 + (m 10 2).toNat; omega, by rw [b1]; exact Nat.le_refl _, by rw [b2]; exact Nat.le_refl _⟩, trivial⟩ rfl ?_
    have c12 : g1 12 = zm_sh 12 (m 12) := by rw [tq 12 (by omega) (by omega) (by omega) (by omega)]; exact o0 12 (by omega)
    refine zW.step (st1 := (37, [some (.ref 0)], [], z_hup ((c.1 + 4, c.2 + 4 + 38 + (m 10 2).toNat, g1) : z_H) 12 (.inl (4, 4, .inr (.inr (.inr (.inr (va_up (fun j => zm_ro (m 12 j)) (Int32.ofInt (m 0 13)).toNatClampNeg (some c.1)))))))))
      ⟨[zof (zm_sh 12 (m 12))], _, rfl, ⟨⟨c12, by show 12 < c.1 + 4; omega⟩, zi_in rfl h13.1 (by omega) (by decide), by show c.1 < c.1 + 4; omega, _, t0⟩, trivial⟩ (by rw [heq]) ?_
    exact S_learn_tail zn (d + 3) (by rw [b1]; omega) h2 hN ⟨hB2, trivial⟩
  obtain ⟨st2, v, h', r1, r2, r, m1, rfl, rfl, -, rfl, rfl⟩ := hW
  subst hc2
  exact ⟨_, _, z_sem_of zu_X11_learn hC (Nat.le_of_ble_eq_true rfl) r1 r2, hz, rfl, zmL_N hN, by omega, by omega⟩
/-- what a TASTE that is told leaves: of what is kept, all but the tape's length -/
def zlnF (mM m1 : zM) : Prop := ∀ p i, zQk p i → (p ≠ 1 ∨ i ≠ 1) → m1 p i = mM p i
def zlnP (mM m : zM) (r : Int) (m1 : zM) : Prop := (m 0 13 < 4 ∧ zt_fault (mM 2) (mM 1 1) = -1 → r = m 0 13 ∧ m1 0 13 = m 0 13 + 1 ∧ m1 1 1 = 0) ∧ (¬ (m 0 13 < 4 ∧ zt_fault (mM 2) (mM 1 1) = -1) → r = -1 ∧ m1 0 13 = m 0 13 ∧ m1 1 1 = mM 1 1)
theorem zi13 {c : Nat × Nat} {mM m m1 : zM} (h : zI c mM m) (h1 : zI c mM m1) : m1 0 13 = m 0 13 := by
  have a := h.2.2.1
  have b := h1.2.2.1
  omega
theorem zlnF_0 {c : Nat × Nat} {mM m : zM} (h : zI c mM m) : zlnF mM m := fun p i q _ => h.2.2.2.2 p i q
theorem zlnF_1 {c : Nat × Nat} {mM m5 m6 : zM} (h : zI c mM m5) (hN : 107 ≤ c.1) (h6 : m6 = zmL m5 c.1) : zlnF mM m6 := fun p i q n => by
  have w := q
  unfold zQk at w
  rw [h6, zmL_o (by omega) (by omega) (by omega) (by omega)]
  exact h.2.2.2.2 p i q
theorem zlnP_0 {c : Nat × Nat} {mM m : zM} (h : zI c mM m) (h4 : 4 ≤ m 0 13) : zlnP mM m (-1) m :=
  ⟨fun q => by omega, fun _ => ⟨rfl, rfl, h.2.2.2.2 1 1 (by unfold zQk; omega)⟩⟩
theorem zlnP_2 {c : Nat × Nat} {mM m m5 : zM} (h : zI c mM m) (h5 : zI c mM m5) (hf : zt_fault (mM 2) (mM 1 1) ≠ -1) : zlnP mM m (-1) m5 :=
  ⟨fun q => absurd q.2 hf, fun _ => ⟨rfl, zi13 h h5, h5.2.2.2.2 1 1 (by unfold zQk; omega)⟩⟩
theorem zlnP_1 {c : Nat × Nat} {mM m m5 m6 : zM} (h : zI c mM m) (h5 : zI c mM m5) (h4 : m 0 13 < 4) (hf : zt_fault (mM 2) (mM 1 1) = -1) (h6 : m6 = zmL m5 c.1) : zlnP mM m (m5 0 13) m6 := by
  subst h6
  refine ⟨fun _ => ⟨zi13 h h5, ?_, ?_⟩, fun q => absurd ⟨h4, hf⟩ q⟩
  · rw [zmL_13, zi13 h h5]
  · unfold zmL; exact zm_eq
set_option maxRecDepth 100000 in
set_option maxHeartbeats 4000000 in
theorem S_X11_text_1 (zn : Bool) (d : Nat) {c : Nat × Nat} {mM : zM} (hN : 107 ≤ c.1) (t9 : Int) (m : zM) (hIm : zI c mM m) (ht : 0 ≤ t9 ∧ t9 ≤ 999999000) (hH : zH t9 m) :
    ∃ r m1 c1, z_sem zn (d + 37) 180 [.ref 0, .int (Int32.ofInt 1)] (zk c m) (some (.int (Int32.ofInt r))) (zk c1 m1) ∧ zI c1 m1 m1 ∧ zH t9 m1 ∧ (107 ≤ c1.1 ∧ c.1 ≤ c1.1 ∧ c.2 ≤ c1.2 ∧ c1.2 ≤ c.2 + 282) ∧ zlnF mM m1 ∧ zlnP mM m r m1 := by
  have f3 : (0 : Int) ≤ m 0 13 ∧ m 0 13 ≤ 4 := hIm.1 0 13
  have f4 : 107 + 4 * m 0 13 = (c.1 : Int) := hIm.2.2.1
  have hRO : z_RO = 1000000 := rfl
  have hC : c.1 < z_RO := by omega
  by_cases b4 : 4 ≤ (m 0 13)
  · have hW : zW zn (d + 36) 180 c (0, [(some (.ref 0)), (some (.int (Int32.ofInt 1)))], [], zk c m) (fun v h1 => ∃ (r : Int) (m1 : zM), v = some (.int (Int32.ofInt r)) ∧ h1 = zk c m1 ∧ zI c m1 m1 ∧ zH t9 m1 ∧ zlnF mM m1 ∧ zlnP mM m r m1) := by
      refine zW.step (st1 := (29, [(some (.ref 0)), (some (.int (Int32.ofInt 1)))], [], zk c m)) (st2 := (29, [(some (.ref 0)), (some (.int (Int32.ofInt 1)))], [], zk c m)) ⟨[zo, zt, zo, zo, zo], _, rfl, ⟨trivial, zbt (by decide), trivial, trivial, zbf (fun q => q rfl), trivial⟩⟩ rfl ?_
      refine zW.step (st1 := (57, [(some (.ref 0)), (some (.int (Int32.ofInt 1)))], [], zk c m)) (st2 := (57, [(some (.ref 0)), (some (.int (Int32.ofInt 1)))], [], zk c m)) ⟨[zo, zo, zo, zt], _, rfl, ⟨trivial, (Nat.lt_of_lt_of_le (Nat.le_of_ble_eq_true rfl) hN), trivial, zbt ((zi_le rfl rfl (⟨by decide, by decide⟩ : zR 4) (by unfold zR; omega)).mpr b4), trivial⟩⟩ rfl ?_
      refine zW.step (st1 := (58, [(some (.ref 0)), (some (.int (Int32.ofInt 1)))], [.int (Int32.ofInt (-1))], zk c m)) (st2 := (58, [(some (.ref 0)), (some (.int (Int32.ofInt 1)))], [.int (Int32.ofInt (-1))], zk c m)) ⟨[zo], _, rfl, ⟨trivial, trivial⟩⟩ rfl ?_
      exact zW.fin (zfin_i rfl rfl rfl) ⟨(-1), m, rfl, rfl, zI_self hIm, hH, zlnF_0 hIm, zlnP_0 hIm (by omega)⟩
    obtain ⟨st2, v, h', r1, r2, r, m1, rfl, rfl, q1, q2, q3, q4⟩ := hW
    exact ⟨r, m1, c, z_sem_of zu_X11_text hC (Nat.le_of_ble_eq_true rfl) r1 r2, q1, q2, ⟨hN, Nat.le_refl _, Nat.le_refl _, by omega⟩, q3, q4⟩
  · obtain ⟨r5, m5, hs5, hIm5, q_5, f_5, p9_5, kN_5⟩ := S_X10_read_F zn (d + 0) hN hC m hIm
    have tk6 : zH t9 m5 := zH_N hH kN_5
    have f5 : 107 + 4 * m5 0 13 = (c.1 : Int) := hIm5.2.2.1
    have pre : ∀ c2 : Nat × Nat, c.1 ≤ c2.1 → c.2 ≤ c2.2 → ∀ Q, zW zn (d + 36) 180 c2 (44, [(some (.ref 0)), (some (.int (Int32.ofInt 1)))], [.int (Int32.ofInt r5)], zk c m5) Q → zW zn (d + 36) 180 c2 (0, [(some (.ref 0)), (some (.int (Int32.ofInt 1)))], [], zk c m) Q := by
      intro c2 g1 g2 Q k
      have hN2 : 107 ≤ c2.1 := by omega
      refine zW.step (st1 := (29, [(some (.ref 0)), (some (.int (Int32.ofInt 1)))], [], zk c m)) (st2 := (29, [(some (.ref 0)), (some (.int (Int32.ofInt 1)))], [], zk c m)) ⟨[zo, zt, zo, zo, zo], _, rfl, ⟨trivial, zbt (by decide), trivial, trivial, zbf (fun q => q rfl), trivial⟩⟩ rfl ?_
      refine zW.step (st1 := (37, [(some (.ref 0)), (some (.int (Int32.ofInt 1)))], [], zk c m)) (st2 := (37, [(some (.ref 0)), (some (.int (Int32.ofInt 1)))], [], zk c m)) ⟨[zo, zo, zo, zo], _, rfl, ⟨trivial, (Nat.lt_of_lt_of_le (Nat.le_of_ble_eq_true rfl) hN), trivial, zbf (fun q => b4 ((zi_le rfl rfl (⟨by decide, by decide⟩ : zR 4) (by unfold zR; omega)).mp q)), trivial⟩⟩ rfl ?_
      refine zW.step (st1 := (41, [(some (.ref 0)), (some (.int (Int32.ofInt 1)))], [.ref 10], zk c m)) (st2 := (41, [(some (.ref 0)), (some (.int (Int32.ofInt 1)))], [.ref 10], zk c m)) ⟨[zo, zo], _, rfl, ⟨trivial, (Nat.lt_of_lt_of_le (Nat.le_of_ble_eq_true rfl) hN), trivial⟩⟩ rfl ?_
      exact zW.step (st1 := (44, [(some (.ref 0)), (some (.int (Int32.ofInt 1)))], [.int (Int32.ofInt r5)], zk c m5)) ⟨[zc (some (.int (Int32.ofInt r5))) (zk c m5)], _, rfl, ⟨⟨⟨(Nat.lt_of_lt_of_le (Nat.le_of_ble_eq_true rfl) hN), (Nat.le_of_ble_eq_true rfl)⟩, hs5, (Nat.le_of_ble_eq_true rfl), Nat.le_refl _, Nat.le_refl _, g1, g2⟩, trivial⟩⟩ rfl k
    by_cases b7 : r5 = (-1)
    · obtain ⟨m6, sl, hs6, hI6, hc6, kN6, hsl, hsl2⟩ := S_X11_learn zn (d + 32) hN (by omega) hIm5 (by omega) (p9_5 b7)
      have tk7 : zH t9 m6 := zH_N tk6 kN6
      have hW : zW zn (d + 36) 180 (c.1 + 4, sl) (0, [(some (.ref 0)), (some (.int (Int32.ofInt 1)))], [], zk c m) (fun v h1 => ∃ (r : Int) (m1 : zM), v = some (.int (Int32.ofInt r)) ∧ h1 = zk (c.1 + 4, sl) m1 ∧ zI (c.1 + 4, sl) m1 m1 ∧ zH t9 m1 ∧ zlnF mM m1 ∧ zlnP mM m r m1) := by
        refine pre (c.1 + 4, sl) (by show c.1 ≤ c.1 + 4; omega) hsl2 _ ?_
        refine zW.step (st1 := (49, [(some (.ref 0)), (some (.int (Int32.ofInt 1)))], [.ref 0], zk c m5)) (st2 := (49, [(some (.ref 0)), (some (.int (Int32.ofInt 1)))], [.ref 0], zk c m5)) ⟨[zo, zo, zo], _, rfl, ⟨trivial, zbf (fun q => q ((zi_eq rfl rfl (by unfold zR; omega) (⟨by decide, by decide⟩ : zR (-1))).mpr b7)), trivial, trivial⟩⟩ rfl ?_
        refine zW.step (st1 := (52, [(some (.ref 0)), (some (.int (Int32.ofInt 1)))], [.int (Int32.ofInt (m5 0 13))], zk (c.1 + 4, sl) m6)) ⟨[zc (some (.int (Int32.ofInt (m5 0 13)))) (zk (c.1 + 4, sl) m6)], _, rfl, ⟨⟨⟨(Nat.lt_of_lt_of_le (Nat.le_of_ble_eq_true rfl) hN), (Nat.le_of_ble_eq_true rfl)⟩, hs6, (Nat.le_of_ble_eq_true rfl), by show c.1 ≤ c.1 + 4; omega, hsl2, Nat.le_refl _, Nat.le_refl _⟩, trivial⟩⟩ rfl ?_
        refine zW.step (st1 := (56, [(some (.ref 0)), (some (.int (Int32.ofInt 1)))], [.int (Int32.ofInt (m5 0 13))], zk (c.1 + 4, sl) m6)) (st2 := (56, [(some (.ref 0)), (some (.int (Int32.ofInt 1)))], [.int (Int32.ofInt (m5 0 13))], zk (c.1 + 4, sl) m6)) ⟨[zo], _, rfl, ⟨trivial, trivial⟩⟩ rfl ?_
        exact zW.fin (zfin_i rfl rfl rfl) ⟨_, m6, rfl, rfl, hI6, tk7, zlnF_1 hIm5 hN hc6, zlnP_1 hIm hIm5 (by omega) (by omega) hc6⟩
      obtain ⟨st2, v, h', r1, r2, r, m1, rfl, rfl, q1, q2, q3, q4⟩ := hW
      exact ⟨r, m1, (c.1 + 4, sl), z_sem_of zu_X11_text (by show c.1 + 4 < z_RO; omega) (Nat.le_of_ble_eq_true rfl) r1 r2, q1, q2, ⟨by show 107 ≤ c.1 + 4; omega, by show c.1 ≤ c.1 + 4; omega, hsl2, hsl⟩, q3, q4⟩
    · have hW : zW zn (d + 36) 180 c (0, [(some (.ref 0)), (some (.int (Int32.ofInt 1)))], [], zk c m) (fun v h1 => ∃ (r : Int) (m1 : zM), v = some (.int (Int32.ofInt r)) ∧ h1 = zk c m1 ∧ zI c m1 m1 ∧ zH t9 m1 ∧ zlnF mM m1 ∧ zlnP mM m r m1) := by
        refine pre c (Nat.le_refl _) (Nat.le_refl _) _ ?_
        refine zW.step (st1 := (55, [(some (.ref 0)), (some (.int (Int32.ofInt 1)))], [], zk c m5)) (st2 := (55, [(some (.ref 0)), (some (.int (Int32.ofInt 1)))], [], zk c m5)) ⟨[zo, zt], _, rfl, ⟨trivial, zbt (fun q => b7 ((zi_eq rfl rfl (by unfold zR; omega) (⟨by decide, by decide⟩ : zR (-1))).mp q)), trivial⟩⟩ rfl ?_
        refine zW.step (st1 := (56, [(some (.ref 0)), (some (.int (Int32.ofInt 1)))], [.int (Int32.ofInt (-1))], zk c m5)) (st2 := (56, [(some (.ref 0)), (some (.int (Int32.ofInt 1)))], [.int (Int32.ofInt (-1))], zk c m5)) ⟨[zo], _, rfl, ⟨trivial, trivial⟩⟩ rfl ?_
        exact zW.fin (zfin_i rfl rfl rfl) ⟨(-1), m5, rfl, rfl, zI_self hIm5, tk6, zlnF_0 hIm5, zlnP_2 hIm hIm5 (by omega)⟩
      obtain ⟨st2, v, h', r1, r2, r, m1, rfl, rfl, q1, q2, q3, q4⟩ := hW
      exact ⟨r, m1, c, z_sem_of zu_X11_text hC (Nat.le_of_ble_eq_true rfl) r1 r2, q1, q2, ⟨hN, Nat.le_refl _, Nat.le_refl _, by omega⟩, q3, q4⟩
