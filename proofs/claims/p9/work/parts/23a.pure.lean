/-! TEXTS: what both readers do with bytes b, n of them -/
/-- past blanks -/
def zsk (b : Nat → Int) (n : Int) : Nat → Int → Int
  | 0, a => a
  | k + 1, a => if a < n ∧ b a.toNat = 32 then zsk b n k (a + 1) else a
def znx (b : Nat → Int) (n a : Int) : Int := zsk b n 242 a
/-- what stands there; none: -1 -/
def zpk (b : Nat → Int) (n a : Int) : Int := if a < n then b a.toNat else -1
theorem zsk_0 {b : Nat → Int} {n a : Int} (h : ¬ (a < n ∧ b a.toNat = 32)) : ∀ k, zsk b n k a = a := by
  intro k
  cases k with
  | zero => rfl
  | succ k => exact if_neg h
theorem zsk_1 {b : Nat → Int} {n a : Int} (h : a < n ∧ b a.toNat = 32) (k : Nat) : zsk b n (k + 1) a = zsk b n k (a + 1) := if_pos h
theorem zsk_m {b : Nat → Int} {n : Int} : ∀ (k : Nat) (a : Int), n - a ≤ k → zsk b n (k + 1) a = zsk b n k a := by
  intro k
  induction k with
  | zero =>
    intro a h
    exact zsk_0 (fun q => by omega) 1
  | succ k ih =>
    intro a h
    by_cases q : a < n ∧ b a.toNat = 32
    · rw [zsk_1 q, zsk_1 q]
      exact ih (a + 1) (by omega)
    · rw [zsk_0 q, zsk_0 q]
theorem zsk_e {b : Nat → Int} {n : Int} : ∀ (k : Nat) (a : Int), n - a ≤ k → ¬ (zsk b n k a < n ∧ b (zsk b n k a).toNat = 32) := by
  intro k
  induction k with
  | zero =>
    intro a h q
    have : zsk b n 0 a = a := rfl
    rw [this] at q
    omega
  | succ k ih =>
    intro a h
    by_cases q : a < n ∧ b a.toNat = 32
    · rw [zsk_1 q]
      exact ih (a + 1) (by omega)
    · rw [zsk_0 q]
      exact q
theorem zsk_b {b : Nat → Int} {n : Int} : ∀ (k : Nat) (a : Int), a ≤ zsk b n k a ∧ (zsk b n k a ≤ n ∨ zsk b n k a = a) := by
  intro k
  induction k with
  | zero => intro a; exact ⟨Int.le_refl a, Or.inr rfl⟩
  | succ k ih =>
    intro a
    by_cases q : a < n ∧ b a.toNat = 32
    · rw [zsk_1 q]
      have := ih (a + 1)
      omega
    · rw [zsk_0 q]
      exact ⟨Int.le_refl a, Or.inr rfl⟩
theorem znx_s {b : Nat → Int} {n a : Int} (h0 : 0 ≤ a) (hn : n ≤ 240) (h : a < n) (h1 : b a.toNat = 32) : znx b n (a + 1) = znx b n a := by
  have e1 : znx b n a = zsk b n 241 (a + 1) := zsk_1 ⟨h, h1⟩ 241
  rw [e1]
  exact zsk_m 241 (a + 1) (by omega)
theorem znx_0 {b : Nat → Int} {n a : Int} (h : n ≤ a ∨ b a.toNat ≠ 32) : znx b n a = a := zsk_0 (fun q => h.elim (fun w => by omega) (fun w => w q.2)) 242
theorem znx_b {b : Nat → Int} {n : Int} (a : Int) : a ≤ znx b n a ∧ (znx b n a ≤ n ∨ znx b n a = a) := zsk_b 242 a
theorem znx_i {b : Nat → Int} {n a : Int} (h0 : 0 ≤ a) (hn : n ≤ 240) : znx b n (znx b n a) = znx b n a := zsk_0 (zsk_e 242 a (by omega)) 242
theorem zpk_in {b : Nat → Int} {n a : Int} (h : a < n) : zpk b n a = b a.toNat := if_pos h
theorem zpk_out {b : Nat → Int} {n a : Int} (h : n ≤ a) : zpk b n a = -1 := if_neg (by omega)
theorem zpk_nx {b : Nat → Int} {n a : Int} (h0 : 0 ≤ a) (hn : n ≤ 240) : zpk b n (znx b n a) ≠ 32 := by
  intro q
  unfold zpk at q
  split at q
  · exact zsk_e 242 a (by omega) ⟨‹_›, q⟩
  · omega
/-- a byte, as it is read -/
def zub (v : Int) : Int := if 0 ≤ v then v else v + 256
/-- the place of a letter -/
def zix : List Int → Int → Int → Int
  | [], _, _ => -1
  | x :: l, i, s => if x = s then i else zix l (i + 1) s
def zLs0 : List Int := [115]
def zLs1 : List Int := [114, 104, 102, 109, 116, 107, 122]
def zLs2 : List Int := [101, 98]
def zLs3 : List Int := [102, 104, 115, 107, 100, 112]
def zLs5 : List Int := [121]
/-- one sign -/
def ztk (b : Nat → Int) (n s a : Int) : Int × Int := if zpk b n (znx b n a) = s then (1, znx b n a + 1) else (0, znx b n a)
/-- a number of one or two digits: whether, where it goes on or is wrong, it -/
def zn2 (b : Nat → Int) (n a : Int) : Int × Int × Int :=
  if zpk b n (znx b n a) < 48 ∨ 57 < zpk b n (znx b n a) then (0, znx b n a, 0)
  else if zpk b n (znx b n a + 1) < 48 ∨ 57 < zpk b n (znx b n a + 1) then (1, znx b n a + 1, zpk b n (znx b n a) - 48)
  else if zpk b n (znx b n a + 1 + 1) < 48 ∨ 57 < zpk b n (znx b n a + 1 + 1) then (1, znx b n a + 1 + 1, 10 * (zpk b n (znx b n a) - 48) + (zpk b n (znx b n a + 1) - 48))
  else (0, znx b n a + 1 + 1, 0)
def zvu (v : Nat → Int) (s : Nat) (x : Int) : Nat → Int := fun j => if j = s then x else v j
/-- ITEMS, by letters and bounds: whether, where, what they are -/
def zits (b : Nat → Int) (n : Int) (L : List Int) (lo hi : Nat → Int) : Nat → Int → Int → (Nat → Int) → Int × Int × (Nat → Int)
  | 0, _, a, v => (0, a, v)
  | k + 1, had, a, v =>
    if zix L 0 (zpk b n (znx b n a)) = -1 then (1, znx b n a, v)
    else if zb_and (zb_shr had (zix L 0 (zpk b n (znx b n a)))) 1 = 1 then (0, znx b n a, v)
    else if (zn2 b n (znx b n a + 1)).1 = 0 then (0, (zn2 b n (znx b n a + 1)).2.1, v)
    else if (zn2 b n (znx b n a + 1)).2.2 < lo (zix L 0 (zpk b n (znx b n a))).toNat ∨ hi (zix L 0 (zpk b n (znx b n a))).toNat < (zn2 b n (znx b n a + 1)).2.2 then (0, (zn2 b n (znx b n a + 1)).2.1 - 1, v)
    else zits b n L lo hi k (zb_or had (zb_shl 1 (zix L 0 (zpk b n (znx b n a))))) (zn2 b n (znx b n a + 1)).2.1 (zvu v (zix L 0 (zpk b n (znx b n a))).toNat (zn2 b n (znx b n a + 1)).2.2)
/-- a WAY: whether, where, how long, its digits -/
def zwy (b : Nat → Int) (n : Int) : Nat → Nat → Int → (Nat → Int) → Int × Int × Nat × (Nat → Int)
  | 0, i, a, v => (0, a, i, v)
  | k + 1, i, a, v =>
    if zpk b n (znx b n a) < 48 ∨ 57 < zpk b n (znx b n a) then (if i = 0 then 0 else 1, znx b n a, i, v)
    else if i = 8 ∨ 52 < zpk b n (znx b n a) then (0, znx b n a, i, v)
    else zwy b n k (i + 1) (znx b n a + 1) (zvu v i (zpk b n (znx b n a) - 48))
def zlst (l : List Int) (k : Nat) : Int := l.getD k 0
/-- cells of a store, k of them from i0 on -/
def zput (w : zM) (q i0 k : Nat) (v : Nat → Int) : zM := fun p i => if p = q ∧ i0 ≤ i ∧ i < i0 + k then v (i - i0) else w p i
def zir (b : Nat → Int) (n a : Int) := zits b n zLs0 (zlst [0]) (zlst [5]) 2 0 a (zlst [5])
def zic (b : Nat → Int) (n a : Int) := zits b n zLs1 (zlst [0, 0, 1, 1, 1, 0, 0]) (zlst [4, 9, 99, 99, 99, 3, 6]) 8 0 a (zlst [0, 1, 10, 40, 8, 0, 6])
def zipn (b : Nat → Int) (n a : Int) := zits b n zLs2 (zlst [0, 0]) (zlst [9, 1]) 3 0 a (zlst [2, 0])
def zcl_r (b : Nat → Int) (n a : Int) (w : zM) : Int × Int × zM :=
  if (zir b n a).1 = 0 then (0, (zir b n a).2.1, w) else (1, (zir b n a).2.1, zput (zm_up w 79 28 (w 79 28 + 1)) 85 (w 79 28).toNat 1 (zir b n a).2.2)
def zcl_c (b : Nat → Int) (n a : Int) (w : zM) : Int × Int × zM :=
  if (zic b n a).1 = 0 then (0, (zic b n a).2.1, w) else (1, (zic b n a).2.1, zput (zm_up w 79 29 (w 79 29 + 1)) 86 (7 * (w 79 29).toNat) 7 (zic b n a).2.2)
/-- a PERSON without a WAY -/
def zcl_q (w : zM) (v : Nat → Int) : zM := zput (zm_up (zm_up w 79 30 (w 79 30 + 1)) 91 (w 79 30).toNat 0) 87 (2 * (w 79 30).toNat) 2 v
def zcl_p (b : Nat → Int) (n a : Int) (w : zM) : Int × Int × zM :=
  if (zipn b n a).1 = 0 then (0, (zipn b n a).2.1, w)
  else if (ztk b n 58 (zipn b n a).2.1).1 = 0 then (1, (ztk b n 58 (zipn b n a).2.1).2, zcl_q w (zipn b n a).2.2)
  else if (zwy b n 9 0 (ztk b n 58 (zipn b n a).2.1).2 (fun _ => 0)).1 = 0 then (0, (zwy b n 9 0 (ztk b n 58 (zipn b n a).2.1).2 (fun _ => 0)).2.1, w)
  else (1, (zwy b n 9 0 (ztk b n 58 (zipn b n a).2.1).2 (fun _ => 0)).2.1, zput (zm_up (zcl_q w (zipn b n a).2.2) 91 (w 79 30).toNat (zwy b n 9 0 (ztk b n 58 (zipn b n a).2.1).2 (fun _ => 0)).2.2.1) 89 (8 * (w 79 30).toNat) (zwy b n 9 0 (ztk b n 58 (zipn b n a).2.1).2 (fun _ => 0)).2.2.1 (zwy b n 9 0 (ztk b n 58 (zipn b n a).2.1).2 (fun _ => 0)).2.2.2)
/-- a CLAUSE of a HOUSE -/
def zcl (b : Nat → Int) (n a : Int) (w : zM) : Int × Int × zM :=
  if zpk b n (znx b n a) = 114 ∧ w 79 28 < 5 then zcl_r b n (znx b n a + 1) w
  else if zpk b n (znx b n a) = 99 ∧ w 79 29 < 6 then zcl_c b n (znx b n a + 1) w
  else if zpk b n (znx b n a) = 112 ∧ w 79 30 < 6 then zcl_p b n (znx b n a + 1) w
  else (0, znx b n a, w)
/-- CLAUSES -/
def zcs (b : Nat → Int) (n : Int) : Nat → Int → zM → Int × Int × zM
  | 0, a, w => (0, a, w)
  | k + 1, a, w =>
    if (zcl b n a w).1 = 0 then zcl b n a w
    else if zpk b n (znx b n (zcl b n a w).2.1) = 59 then zcs b n k (znx b n (zcl b n a w).2.1 + 1) (zcl b n a w).2.2
    else (1, znx b n (zcl b n a w).2.1, (zcl b n a w).2.2)
/-- what is told is there -/
def zwh (w : zM) : Prop := 0 < w 79 28 ∧ 0 < w 79 29 ∧ 0 < w 79 30 ∧ (∀ k : Nat, (k : Int) < w 79 28 → w 85 k = 5 ∨ w 85 k < w 79 28) ∧
  (∀ k : Nat, (k : Int) < w 79 29 → w 86 (7 * k) < w 79 28 ∧ w 86 (7 * k + 6) ≠ (k : Int) ∧ (w 86 (7 * k + 6) = 6 ∨ w 86 (7 * k + 6) < w 79 29)) ∧
  ∀ p : Nat, (p : Int) < w 79 30 → ∀ k : Nat, (k : Int) < w 91 p → w 89 (8 * p + k) < w 79 28
/-- the store at first -/
def zw0 : zM := fun _ _ => 0
/-- all CLAUSES of a TAPE; its FAULT as a HOUSE: v -/
def zhs (b : Nat → Int) (n : Int) : Int × Int × zM := zcs b n 241 0 zw0
def zhf (b : Nat → Int) (n v : Int) : Prop :=
  ((zhs b n).1 = 0 ∧ v = (zhs b n).2.1) ∨ ((zhs b n).1 ≠ 0 ∧ zpk b n (zhs b n).2.1 ≠ -1 ∧ v = (zhs b n).2.1) ∨ ((zhs b n).1 ≠ 0 ∧ zpk b n (zhs b n).2.1 = -1 ∧ ¬ zwh (zhs b n).2.2 ∧ v = n) ∨ ((zhs b n).1 ≠ 0 ∧ zpk b n (zhs b n).2.1 = -1 ∧ zwh (zhs b n).2.2 ∧ v = -1)
theorem ztk_f (b : Nat → Int) (n s a : Int) : (zpk b n (znx b n a) = s → (ztk b n s a).1 = 1 ∧ (ztk b n s a).2 = znx b n a + 1) ∧ (zpk b n (znx b n a) ≠ s → (ztk b n s a).1 = 0 ∧ (ztk b n s a).2 = znx b n a) := by
  unfold ztk
  exact ⟨fun h => by rw [if_pos h]; exact ⟨rfl, rfl⟩, fun h => by rw [if_neg h]; exact ⟨rfl, rfl⟩⟩
/-! TASTES: the FAULT alone. What stands deeper is given as a function -/
/-- a number of one to four digits, at a digit -/
def zn4 (b : Nat → Int) (n : Int) : Nat → Int → Int × Int
  | 0, a => if zpk b n a < 48 ∨ 57 < zpk b n a then (1, a) else (0, a)
  | k + 1, a => if zpk b n a < 48 ∨ 57 < zpk b n a then (1, a) else zn4 b n k (a + 1)
def zt_atom (b : Nat → Int) (n : Int) (inner : Option (Int → Int × Int)) (a : Int) : Int × Int :=
  if zpk b n (znx b n a) = 91 then
    match inner with
    | none => (0, znx b n a)
    | some f => if (f (znx b n a + 1)).1 = 0 then f (znx b n a + 1) else ztk b n 93 (f (znx b n a + 1)).2
  else if 48 ≤ zpk b n (znx b n a) ∧ zpk b n (znx b n a) ≤ 57 then zn4 b n 4 (znx b n a)
  else if zix zLs3 0 (zpk b n (znx b n a)) = -1 then (0, znx b n a)
  else (1, znx b n a + 1)
def zt_loop (b : Nat → Int) (n s1 s2 : Int) (f : Int → Int × Int) : Nat → Int → Int × Int
  | 0, a => (0, a)
  | k + 1, a =>
    if zpk b n (znx b n a) ≠ s1 ∧ zpk b n (znx b n a) ≠ s2 then (1, znx b n a)
    else if (f (znx b n a + 1)).1 = 0 then f (znx b n a + 1) else zt_loop b n s1 s2 f k (f (znx b n a + 1)).2
def zt_list (b : Nat → Int) (n s1 s2 : Int) (f0 f : Int → Int × Int) (a : Int) : Int × Int :=
  if (f0 a).1 = 0 then f0 a else zt_loop b n s1 s2 f 241 (f0 a).2
def zt_term (b : Nat → Int) (n : Int) (inner : Option (Int → Int × Int)) : Int → Int × Int := zt_list b n 42 47 (zt_atom b n inner) (zt_atom b n inner)
def zt_sum (b : Nat → Int) (n : Int) : Nat → Int → Int × Int
  | 0 => zt_list b n 43 45 (zt_term b n none) (zt_term b n none)
  | d + 1 => zt_list b n 43 45 (zt_term b n (some (zt_sum b n d))) (zt_term b n (some (zt_sum b n d)))
/-- what stands within signs at a depth d from the deepest -/
def zt_in (b : Nat → Int) (n : Int) : Nat → Option (Int → Int × Int)
  | 0 => none
  | d + 1 => some (zt_sum b n d)
theorem zt_sum_eq (b : Nat → Int) (n : Int) (d : Nat) : zt_sum b n d = zt_list b n 43 45 (zt_term b n (zt_in b n d)) (zt_term b n (zt_in b n d)) := by cases d <;> rfl
/-- behind the first SUM of a TRUTH -/
def zt_cmp (b : Nat → Int) (n : Int) (d : Nat) (a : Int) : Int × Int :=
  if zpk b n (znx b n a) ≠ 61 ∧ zpk b n (znx b n a) ≠ 60 ∧ zpk b n (znx b n a) ≠ 62 then (0, znx b n a) else zt_sum b n d (znx b n a + 1)
def zt_conds (b : Nat → Int) (n : Int) (u0 u : Int → Int × Int) : Int → Int × Int := zt_list b n 124 124 (zt_list b n 38 38 u0 u) (zt_list b n 38 38 u u)
def zt_deep (b : Nat → Int) (n : Int) (u : Int → Int × Int) (a : Int) : Int × Int :=
  if zpk b n (znx b n a) = 33 then u (znx b n a + 1)
  else if (zt_conds b n u u (znx b n a + 1)).1 = 0 then zt_conds b n u u (znx b n a + 1)
  else ztk b n 41 (zt_conds b n u u (znx b n a + 1)).2
def zt_unit (b : Nat → Int) (n : Int) : Nat → Int → Int × Int
  | 0, a =>
    if zpk b n (znx b n a) = 33 ∨ zpk b n (znx b n a) = 40 then (0, znx b n a)
    else if (zt_sum b n 0 a).1 = 0 then zt_sum b n 0 a else zt_cmp b n 0 (zt_sum b n 0 a).2
  | d + 1, a =>
    if zpk b n (znx b n a) = 33 ∨ zpk b n (znx b n a) = 40 then zt_deep b n (zt_unit b n d) a
    else if (zt_sum b n (d + 1) a).1 = 0 then zt_sum b n (d + 1) a else zt_cmp b n (d + 1) (zt_sum b n (d + 1) a).2
/-- a CLAUSE of a TASTE: behind a CONDITION -/
def zt_rest (b : Nat → Int) (n : Int) (r : Int × Int) : Int × Int :=
  if r.1 = 0 then r else if (ztk b n 63 r.2).1 = 0 then ztk b n 63 r.2 else zt_sum b n 6 (ztk b n 63 r.2).2
def zt_clause (b : Nat → Int) (n a : Int) : Int × Int :=
  if (ztk b n 121 a).1 = 0 then ztk b n 121 a
  else if (ztk b n 58 (ztk b n 121 a).2).1 = 0 then ztk b n 58 (ztk b n 121 a).2
  else
    let c := (ztk b n 58 (ztk b n 121 a).2).2
    if zpk b n (znx b n c) = 33 ∨ zpk b n (znx b n c) = 40 then zt_rest b n (zt_conds b n (zt_unit b n 6) (zt_unit b n 6) c)
    else if (zt_sum b n 6 c).1 = 0 then zt_sum b n 6 c
    else
      let s := (zt_sum b n 6 c).2
      if zpk b n (znx b n s) ≠ 61 ∧ zpk b n (znx b n s) ≠ 60 ∧ zpk b n (znx b n s) ≠ 62 then (1, znx b n s)
      else zt_rest b n (zt_conds b n (zt_cmp b n 6) (zt_unit b n 6) s)
/-- the FAULT of a TASTE: v -/
def zt_fault (b : Nat → Int) (n : Int) : Int :=
  let r := zt_list b n 59 59 (zt_clause b n) (zt_clause b n) 0
  if r.1 = 0 then r.2 else if zpk b n r.2 = -1 then -1 else r.2
/-! where they go on: none goes back, none goes beyond the end, what holds has read something -/
def zgd (n : Int) (f : Int → Int × Int) : Prop := ∀ a, 0 ≤ a → a ≤ n → a ≤ (f a).2 ∧ (f a).2 ≤ n ∧ ((f a).1 ≠ 0 → a < (f a).2)
theorem znx_le {b : Nat → Int} {n a : Int} (h : a ≤ n) : a ≤ znx b n a ∧ znx b n a ≤ n := by
  have := znx_b (b := b) (n := n) a
  omega
theorem zpk_lt {b : Nat → Int} {n a : Int} (h : zpk b n a ≠ -1) : a < n := by
  unfold zpk at h
  split at h
  · assumption
  · exact absurd rfl h
theorem ztk_g {b : Nat → Int} {n s : Int} (hs : s ≠ -1) : zgd n (ztk b n s) := by
  intro a h0 h1
  have w := znx_le (b := b) h1
  by_cases q : zpk b n (znx b n a) = s
  · have := (ztk_f b n s a).1 q
    have := zpk_lt (b := b) (n := n) (a := znx b n a) (by omega)
    omega
  · have := (ztk_f b n s a).2 q
    omega
theorem zn4_g {b : Nat → Int} {n : Int} : ∀ (k : Nat) (a : Int), a ≤ n → a ≤ (zn4 b n k a).2 ∧ (zn4 b n k a).2 ≤ n := by
  intro k
  induction k with
  | zero =>
    intro a h
    unfold zn4
    split <;> exact ⟨Int.le_refl a, h⟩
  | succ k ih =>
    intro a h
    unfold zn4
    split
    · exact ⟨Int.le_refl a, h⟩
    · have := zpk_lt (b := b) (n := n) (a := a) (by omega)
      have := ih (a + 1) (by omega)
      omega
def zgo (n : Int) (f : Option (Int → Int × Int)) : Prop := ∀ g, f = some g → zgd n g
theorem zt_atom_g {b : Nat → Int} {n : Int} {f : Option (Int → Int × Int)} (hf : zgo n f) : zgd n (zt_atom b n f) := by
  intro a h0 h1
  have w := znx_le (b := b) h1
  unfold zt_atom
  split
  · have l := zpk_lt (b := b) (n := n) (a := znx b n a) (by omega)
    split
    · exact ⟨w.1, w.2, fun q => absurd rfl q⟩
    · rename_i g
      have i := hf g rfl (znx b n a + 1) (by omega) (by omega)
      split
      · omega
      · have k := ztk_g (b := b) (n := n) (s := 93) (by omega) (g (znx b n a + 1)).2 (by omega) i.2.1
        omega
  · split
    · have l := zpk_lt (b := b) (n := n) (a := znx b n a) (by omega)
      have e : zn4 b n 4 (znx b n a) = zn4 b n 3 (znx b n a + 1) := if_neg (by omega)
      rw [e]
      have := zn4_g (b := b) (n := n) 3 (znx b n a + 1) (by omega)
      omega
    · split
      · exact ⟨w.1, w.2, fun q => absurd rfl q⟩
      · have l := zpk_lt (b := b) (n := n) (a := znx b n a) (fun q => by
          rename_i r
          rw [q] at r
          exact r (by decide))
        dsimp only
        omega
theorem zt_loop_g {b : Nat → Int} {n s1 s2 : Int} {f : Int → Int × Int} (hs : s1 ≠ -1 ∧ s2 ≠ -1) (hf : zgd n f) : ∀ (k : Nat) (a : Int), 0 ≤ a → a ≤ n → a ≤ (zt_loop b n s1 s2 f k a).2 ∧ (zt_loop b n s1 s2 f k a).2 ≤ n := by
  intro k
  induction k with
  | zero => intro a h0 h1; exact ⟨Int.le_refl a, h1⟩
  | succ k ih =>
    intro a h0 h1
    have w := znx_le (b := b) h1
    unfold zt_loop
    split
    · exact w
    · have l := zpk_lt (b := b) (n := n) (a := znx b n a) (by omega)
      have i := hf (znx b n a + 1) (by omega) (by omega)
      split
      · omega
      · have := ih (f (znx b n a + 1)).2 (by omega) (by omega)
        omega
theorem zt_loop_m {b : Nat → Int} {n s1 s2 : Int} {f : Int → Int × Int} (hs : s1 ≠ -1 ∧ s2 ≠ -1) (hf : zgd n f) : ∀ (k : Nat) (a : Int), 0 ≤ a → a ≤ n → n - a ≤ k → zt_loop b n s1 s2 f (k + 2) a = zt_loop b n s1 s2 f (k + 1) a := by
  intro k
  induction k with
  | zero =>
    intro a h0 h1 h2
    have w := znx_le (b := b) h1
    have e : zpk b n (znx b n a) = -1 := zpk_out (by omega)
    unfold zt_loop
    rw [if_pos (by omega), if_pos (by omega)]
  | succ k ih =>
    intro a h0 h1 h2
    have w := znx_le (b := b) h1
    show (if _ then _ else if _ then _ else zt_loop b n s1 s2 f (k + 2) _) = (if _ then _ else if _ then _ else zt_loop b n s1 s2 f (k + 1) _)
    split
    · rfl
    · have l := zpk_lt (b := b) (n := n) (a := znx b n a) (by omega)
      have i := hf (znx b n a + 1) (by omega) (by omega)
      split
      · rfl
      · exact ih _ (by omega) (by omega) (by omega)
/-- one turn of the loop -/
theorem zt_loop_e {b : Nat → Int} {n s1 s2 : Int} {f : Int → Int × Int} (hs : s1 ≠ -1 ∧ s2 ≠ -1) (hf : zgd n f) {a : Int} (h0 : 0 ≤ a) (h1 : a ≤ n) (hn : n ≤ 240) : zt_loop b n s1 s2 f 241 a = if zpk b n (znx b n a) ≠ s1 ∧ zpk b n (znx b n a) ≠ s2 then (1, znx b n a) else if (f (znx b n a + 1)).1 = 0 then f (znx b n a + 1) else zt_loop b n s1 s2 f 241 (f (znx b n a + 1)).2 := by
  have w := znx_le (b := b) h1
  show (if _ then _ else if _ then _ else zt_loop b n s1 s2 f 240 _) = _
  split
  · rfl
  · have l := zpk_lt (b := b) (n := n) (a := znx b n a) (by omega)
    have i := hf (znx b n a + 1) (by omega) (by omega)
    split
    · rfl
    · exact (zt_loop_m hs hf 239 _ (by omega) (by omega) (by omega)).symm
theorem zt_list_g {b : Nat → Int} {n s1 s2 : Int} {f0 f : Int → Int × Int} (hs : s1 ≠ -1 ∧ s2 ≠ -1) (h0 : zgd n f0) (hf : zgd n f) : zgd n (zt_list b n s1 s2 f0 f) := by
  intro a g0 g1
  have i := h0 a g0 g1
  unfold zt_list
  split
  · exact i
  · have := zt_loop_g (b := b) hs hf 241 (f0 a).2 (by omega) (by omega)
    omega
theorem zt_term_g {b : Nat → Int} {n : Int} {f : Option (Int → Int × Int)} (hf : zgo n f) : zgd n (zt_term b n f) := zt_list_g (by decide) (zt_atom_g hf) (zt_atom_g hf)
theorem zt_sum_g {b : Nat → Int} {n : Int} : ∀ d, zgd n (zt_sum b n d) := by
  intro d
  induction d with
  | zero => exact zt_list_g (by decide) (zt_term_g (fun g q => nomatch q)) (zt_term_g (fun g q => nomatch q))
  | succ d ih =>
    have k : zgo n (some (zt_sum b n d)) := fun g q => by rw [← Option.some.inj q]; exact ih
    exact zt_list_g (by decide) (zt_term_g k) (zt_term_g k)
theorem zt_in_g {b : Nat → Int} {n : Int} (d : Nat) : zgo n (zt_in b n d) := by
  intro g q
  cases d with
  | zero => exact nomatch q
  | succ d => rw [← Option.some.inj q]; exact zt_sum_g d
theorem zt_cmp_g {b : Nat → Int} {n : Int} (d : Nat) : zgd n (zt_cmp b n d) := by
  intro a h0 h1
  have w := znx_le (b := b) h1
  unfold zt_cmp
  split
  · exact ⟨w.1, w.2, fun q => absurd rfl q⟩
  · have l := zpk_lt (b := b) (n := n) (a := znx b n a) (by omega)
    have := zt_sum_g (b := b) (n := n) d (znx b n a + 1) (by omega) (by omega)
    omega
theorem zt_conds_g {b : Nat → Int} {n : Int} {u0 u : Int → Int × Int} (h0 : zgd n u0) (h : zgd n u) : zgd n (zt_conds b n u0 u) := zt_list_g (by decide) (zt_list_g (by decide) h0 h) (zt_list_g (by decide) h h)
theorem zt_deep_g {b : Nat → Int} {n : Int} {u : Int → Int × Int} (h : zgd n u) (a : Int) (h0 : 0 ≤ a) (h1 : a ≤ n) (hk : zpk b n (znx b n a) ≠ -1) : a ≤ (zt_deep b n u a).2 ∧ (zt_deep b n u a).2 ≤ n ∧ ((zt_deep b n u a).1 ≠ 0 → a < (zt_deep b n u a).2) := by
  have w := znx_le (b := b) h1
  have l := zpk_lt hk
  unfold zt_deep
  split
  · have := h (znx b n a + 1) (by omega) (by omega)
    omega
  · have i := zt_conds_g (b := b) h h (znx b n a + 1) (by omega) (by omega)
    split
    · omega
    · have := ztk_g (b := b) (n := n) (s := 41) (by omega) (zt_conds b n u u (znx b n a + 1)).2 (by omega) (by omega)
      omega
theorem zt_su_g {b : Nat → Int} {n : Int} (d : Nat) (a : Int) (h0 : 0 ≤ a) (h1 : a ≤ n) : a ≤ (if (zt_sum b n d a).1 = 0 then zt_sum b n d a else zt_cmp b n d (zt_sum b n d a).2).2 ∧ (if (zt_sum b n d a).1 = 0 then zt_sum b n d a else zt_cmp b n d (zt_sum b n d a).2).2 ≤ n ∧ ((if (zt_sum b n d a).1 = 0 then zt_sum b n d a else zt_cmp b n d (zt_sum b n d a).2).1 ≠ 0 → a < (if (zt_sum b n d a).1 = 0 then zt_sum b n d a else zt_cmp b n d (zt_sum b n d a).2).2) := by
  have i := zt_sum_g (b := b) (n := n) d a h0 h1
  split
  · exact i
  · have := zt_cmp_g (b := b) (n := n) d (zt_sum b n d a).2 (by omega) (by omega)
    omega
theorem zt_unit_g {b : Nat → Int} {n : Int} : ∀ d, zgd n (zt_unit b n d) := by
  intro d
  induction d with
  | zero =>
    intro a h0 h1
    have w := znx_le (b := b) h1
    unfold zt_unit
    split
    · exact ⟨w.1, w.2, fun q => absurd rfl q⟩
    · exact zt_su_g 0 a h0 h1
  | succ d ih =>
    intro a h0 h1
    unfold zt_unit
    split
    · exact zt_deep_g ih a h0 h1 (by omega)
    · exact zt_su_g (d + 1) a h0 h1
theorem zt_rest_g {b : Nat → Int} {n a : Int} {r : Int × Int} (h0 : 0 ≤ a) (h : a ≤ r.2 ∧ r.2 ≤ n ∧ (r.1 ≠ 0 → a < r.2)) : a ≤ (zt_rest b n r).2 ∧ (zt_rest b n r).2 ≤ n ∧ ((zt_rest b n r).1 ≠ 0 → a < (zt_rest b n r).2) := by
  unfold zt_rest
  split
  · exact h
  · have i := ztk_g (b := b) (n := n) (s := 63) (by omega) r.2 (by omega) (by omega)
    split
    · omega
    · have := zt_sum_g (b := b) (n := n) 6 (ztk b n 63 r.2).2 (by omega) (by omega)
      omega
theorem zt_clause_g {b : Nat → Int} {n : Int} : zgd n (zt_clause b n) := by
  intro a h0 h1
  have i := ztk_g (b := b) (n := n) (s := 121) (by omega) a h0 h1
  unfold zt_clause
  split
  · exact i
  · have j := ztk_g (b := b) (n := n) (s := 58) (by omega) (ztk b n 121 a).2 (by omega) (by omega)
    split
    · omega
    · generalize (ztk b n 58 (ztk b n 121 a).2).2 = c at j ⊢
      dsimp only
      split
      · have k := zt_conds_g (b := b) (zt_unit_g (b := b) (n := n) 6) (zt_unit_g (b := b) (n := n) 6) c (by omega) (by omega)
        have := zt_rest_g (b := b) (a := c) (by omega) k
        omega
      · have k := zt_sum_g (b := b) (n := n) 6 c (by omega) (by omega)
        split
        · omega
        · have w := znx_le (b := b) (n := n) (a := (zt_sum b n 6 c).2) (by omega)
          split
          · dsimp only
            omega
          · have l := zt_conds_g (b := b) (zt_cmp_g (b := b) (n := n) 6) (zt_unit_g (b := b) (n := n) 6) (zt_sum b n 6 c).2 (by omega) (by omega)
            have := zt_rest_g (b := b) (a := (zt_sum b n 6 c).2) (by omega) l
            omega
/-! AS THE CLASS READS THEM -/
theorem zpk_or (b : Nat → Int) (n a : Int) : zpk b n a = -1 ∨ a < n := by
  by_cases h : zpk b n a = -1
  · exact Or.inl h
  · exact Or.inr (zpk_lt h)
theorem zn_c {c : Nat × Nat} {mM m : zM} (hI : zI c mM m) : m 1 1 = mM 1 1 ∧ 0 ≤ mM 1 1 ∧ mM 1 1 ≤ 240 := by
  have e : m 1 1 = mM 1 1 := hI.2.2.2.2 1 1 (by unfold zQk; omega)
  have h : 0 ≤ m 1 1 ∧ m 1 1 ≤ 240 := hI.1 1 1
  omega
theorem zpk_c {c : Nat × Nat} {mM m : zM} {a : Int} (hI : zI c mM m) (ha : m 1 2 = a) : (m 1 2 < m 1 1 → m 2 (m 1 2).toNat = zpk (mM 2) (mM 1 1) a) ∧ (m 1 1 ≤ m 1 2 → zpk (mM 2) (mM 1 1) a = -1) := by
  have e := zn_c hI
  have e2 : m 2 (m 1 2).toNat = mM 2 (m 1 2).toNat := hI.2.2.2.2 2 _ (by unfold zQk; omega)
  subst ha
  exact ⟨fun h => by rw [zpk_in (by omega), e2], fun h => zpk_out (by omega)⟩
theorem znx_c {c : Nat × Nat} {mM m : zM} (hI : zI c mM m) : (m 1 2 < m 1 1 → m 2 (m 1 2).toNat = 32 → znx (mM 2) (mM 1 1) (m 1 2 + 1) = znx (mM 2) (mM 1 1) (m 1 2)) ∧ ((m 1 1 ≤ m 1 2 ∨ m 2 (m 1 2).toNat ≠ 32) → znx (mM 2) (mM 1 1) (m 1 2) = m 1 2) := by
  have e := zn_c hI
  have h : 0 ≤ m 1 2 ∧ m 1 2 ≤ 240 := hI.1 1 2
  have e2 : m 2 (m 1 2).toNat = mM 2 (m 1 2).toNat := hI.2.2.2.2 2 _ (by unfold zQk; omega)
  rw [e2]
  exact ⟨fun h1 h2 => znx_s h.1 e.2.2 (by omega) h2, fun h1 => znx_0 (h1.imp (fun q => by omega) id)⟩
theorem zn4_f (b : Nat → Int) (n a : Int) (h : 48 ≤ zpk b n a ∧ zpk b n a ≤ 57) :
    ((zpk b n (a + 1) < 48 ∨ 57 < zpk b n (a + 1)) ∧ (zn4 b n 4 a).1 = 1 ∧ (zn4 b n 4 a).2 = a + 1) ∨
    (48 ≤ zpk b n (a + 1) ∧ zpk b n (a + 1) ≤ 57 ∧ (zpk b n (a + 1 + 1) < 48 ∨ 57 < zpk b n (a + 1 + 1)) ∧ (zn4 b n 4 a).1 = 1 ∧ (zn4 b n 4 a).2 = a + 1 + 1) ∨
    (48 ≤ zpk b n (a + 1) ∧ zpk b n (a + 1) ≤ 57 ∧ 48 ≤ zpk b n (a + 1 + 1) ∧ zpk b n (a + 1 + 1) ≤ 57 ∧ (zpk b n (a + 1 + 1 + 1) < 48 ∨ 57 < zpk b n (a + 1 + 1 + 1)) ∧ (zn4 b n 4 a).1 = 1 ∧ (zn4 b n 4 a).2 = a + 1 + 1 + 1) ∨
    (48 ≤ zpk b n (a + 1) ∧ zpk b n (a + 1) ≤ 57 ∧ 48 ≤ zpk b n (a + 1 + 1) ∧ zpk b n (a + 1 + 1) ≤ 57 ∧ 48 ≤ zpk b n (a + 1 + 1 + 1) ∧ zpk b n (a + 1 + 1 + 1) ≤ 57 ∧ (zpk b n (a + 1 + 1 + 1 + 1) < 48 ∨ 57 < zpk b n (a + 1 + 1 + 1 + 1)) ∧ (zn4 b n 4 a).1 = 1 ∧ (zn4 b n 4 a).2 = a + 1 + 1 + 1 + 1) ∨
    (48 ≤ zpk b n (a + 1) ∧ zpk b n (a + 1) ≤ 57 ∧ 48 ≤ zpk b n (a + 1 + 1) ∧ zpk b n (a + 1 + 1) ≤ 57 ∧ 48 ≤ zpk b n (a + 1 + 1 + 1) ∧ zpk b n (a + 1 + 1 + 1) ≤ 57 ∧ 48 ≤ zpk b n (a + 1 + 1 + 1 + 1) ∧ zpk b n (a + 1 + 1 + 1 + 1) ≤ 57 ∧ (zn4 b n 4 a).1 = 0 ∧ (zn4 b n 4 a).2 = a + 1 + 1 + 1 + 1) := by
  have e0 : zn4 b n 4 a = zn4 b n 3 (a + 1) := if_neg (by omega)
  rw [e0]
  by_cases h1 : zpk b n (a + 1) < 48 ∨ 57 < zpk b n (a + 1)
  · have e1 : zn4 b n 3 (a + 1) = (1, a + 1) := if_pos h1
    rw [e1]; exact Or.inl ⟨h1, rfl, rfl⟩
  have e1 : zn4 b n 3 (a + 1) = zn4 b n 2 (a + 1 + 1) := if_neg h1
  rw [e1]
  by_cases h2 : zpk b n (a + 1 + 1) < 48 ∨ 57 < zpk b n (a + 1 + 1)
  · have e2 : zn4 b n 2 (a + 1 + 1) = (1, a + 1 + 1) := if_pos h2
    rw [e2]; exact Or.inr (Or.inl ⟨by omega, by omega, h2, rfl, rfl⟩)
  have e2 : zn4 b n 2 (a + 1 + 1) = zn4 b n 1 (a + 1 + 1 + 1) := if_neg h2
  rw [e2]
  by_cases h3 : zpk b n (a + 1 + 1 + 1) < 48 ∨ 57 < zpk b n (a + 1 + 1 + 1)
  · have e3 : zn4 b n 1 (a + 1 + 1 + 1) = (1, a + 1 + 1 + 1) := if_pos h3
    rw [e3]; exact Or.inr (Or.inr (Or.inl ⟨by omega, by omega, by omega, by omega, h3, rfl, rfl⟩))
  have e3 : zn4 b n 1 (a + 1 + 1 + 1) = zn4 b n 0 (a + 1 + 1 + 1 + 1) := if_neg h3
  rw [e3]
  by_cases h4 : zpk b n (a + 1 + 1 + 1 + 1) < 48 ∨ 57 < zpk b n (a + 1 + 1 + 1 + 1)
  · have e4 : zn4 b n 0 (a + 1 + 1 + 1 + 1) = (1, a + 1 + 1 + 1 + 1) := if_pos h4
    rw [e4]; exact Or.inr (Or.inr (Or.inr (Or.inl ⟨by omega, by omega, by omega, by omega, by omega, by omega, h4, rfl, rfl⟩)))
  have e4 : zn4 b n 0 (a + 1 + 1 + 1 + 1) = (0, a + 1 + 1 + 1 + 1) := if_neg h4
  rw [e4]; exact Or.inr (Or.inr (Or.inr (Or.inr ⟨by omega, by omega, by omega, by omega, by omega, by omega, by omega, by omega, rfl, rfl⟩)))
theorem zpr {p : Int × Int} {x y : Int} (h : p = (x, y)) : p.1 = x ∧ p.2 = y := by rw [h]; exact ⟨rfl, rfl⟩
theorem zpe {p q : Int × Int} (h : p = q) : p.1 = q.1 ∧ p.2 = q.2 := by rw [h]; exact ⟨rfl, rfl⟩
theorem zlv0 {Lv : Int} (h : Lv = 6) : (6 - Lv).toNat = 0 := by omega
theorem zlvS {Lv : Int} (h : 0 ≤ Lv ∧ Lv ≤ 5) : (6 - Lv).toNat = (6 - (Lv + 1)).toNat + 1 := by omega
theorem zt_atom_d0 (b : Nat → Int) (n a Lv : Int) (h : zpk b n (znx b n a) = 91) (hl : Lv = 6) : (zt_atom b n (zt_in b n (6 - Lv).toNat) a).1 = 0 ∧ (zt_atom b n (zt_in b n (6 - Lv).toNat) a).2 = znx b n a := by
  rw [zlv0 hl]
  exact zpr (if_pos h)
theorem zt_atom_br (b : Nat → Int) (n a Lv : Int) (h : zpk b n (znx b n a) = 91) (hl : 0 ≤ Lv ∧ Lv ≤ 5) :
    ((zt_sum b n (6 - (Lv + 1)).toNat (znx b n a + 1)).1 = 0 → (zt_atom b n (zt_in b n (6 - Lv).toNat) a).1 = 0 ∧ (zt_atom b n (zt_in b n (6 - Lv).toNat) a).2 = (zt_sum b n (6 - (Lv + 1)).toNat (znx b n a + 1)).2) ∧
    ((zt_sum b n (6 - (Lv + 1)).toNat (znx b n a + 1)).1 ≠ 0 → (zt_atom b n (zt_in b n (6 - Lv).toNat) a).1 = (ztk b n 93 (zt_sum b n (6 - (Lv + 1)).toNat (znx b n a + 1)).2).1 ∧ (zt_atom b n (zt_in b n (6 - Lv).toNat) a).2 = (ztk b n 93 (zt_sum b n (6 - (Lv + 1)).toNat (znx b n a + 1)).2).2) := by
  rw [zlvS hl]
  generalize (6 - (Lv + 1)).toNat = d
  have e : zt_atom b n (zt_in b n (d + 1)) a = if (zt_sum b n d (znx b n a + 1)).1 = 0 then zt_sum b n d (znx b n a + 1) else ztk b n 93 (zt_sum b n d (znx b n a + 1)).2 := if_pos h
  rw [e]
  exact ⟨fun q => by rw [if_pos q]; exact ⟨q, rfl⟩, fun q => by rw [if_neg q]; exact ⟨rfl, rfl⟩⟩
theorem zt_atom_dg (b : Nat → Int) (n a : Int) (f : Option (Int → Int × Int)) (h : 48 ≤ zpk b n (znx b n a) ∧ zpk b n (znx b n a) ≤ 57) : (zt_atom b n f a).1 = (zn4 b n 4 (znx b n a)).1 ∧ (zt_atom b n f a).2 = (zn4 b n 4 (znx b n a)).2 :=
  zpe ((if_neg (by omega)).trans (if_pos h))
theorem zt_atom_no (b : Nat → Int) (n a : Int) (f : Option (Int → Int × Int)) (h : zpk b n (znx b n a) ≠ 91) (h2 : zpk b n (znx b n a) < 48 ∨ 57 < zpk b n (znx b n a)) (h3 : zix zLs3 0 (zpk b n (znx b n a)) = -1) : (zt_atom b n f a).1 = 0 ∧ (zt_atom b n f a).2 = znx b n a :=
  zpr ((if_neg h).trans ((if_neg (by omega)).trans (if_pos h3)))
theorem zt_atom_le (b : Nat → Int) (n a : Int) (f : Option (Int → Int × Int)) (h : zpk b n (znx b n a) ≠ 91) (h2 : zpk b n (znx b n a) < 48 ∨ 57 < zpk b n (znx b n a)) (h3 : zix zLs3 0 (zpk b n (znx b n a)) ≠ -1) : (zt_atom b n f a).1 = 1 ∧ (zt_atom b n f a).2 = znx b n a + 1 :=
  zpr ((if_neg h).trans ((if_neg (by omega)).trans (if_neg h3)))
theorem zt_list_0 {b : Nat → Int} {n s1 s2 : Int} {f0 f : Int → Int × Int} {a : Int} (h : (f0 a).1 = 0) : (zt_list b n s1 s2 f0 f a).1 = 0 ∧ (zt_list b n s1 s2 f0 f a).2 = (f0 a).2 := by
  have e : zt_list b n s1 s2 f0 f a = f0 a := if_pos h
  rw [e]; exact ⟨h, rfl⟩
theorem zt_list_n {b : Nat → Int} {n s1 s2 : Int} {f0 f : Int → Int × Int} {a : Int} (h : (f0 a).1 ≠ 0) : (zt_list b n s1 s2 f0 f a).1 = (zt_loop b n s1 s2 f 241 (f0 a).2).1 ∧ (zt_list b n s1 s2 f0 f a).2 = (zt_loop b n s1 s2 f 241 (f0 a).2).2 := zpe (if_neg h)
theorem zt_lp_stop {b : Nat → Int} {n s1 s2 : Int} {f : Int → Int × Int} {a : Int} (h : zpk b n (znx b n a) ≠ s1 ∧ zpk b n (znx b n a) ≠ s2) : (zt_loop b n s1 s2 f 241 a).1 = 1 ∧ (zt_loop b n s1 s2 f 241 a).2 = znx b n a := zpr (if_pos h)
theorem zt_lp_go {b : Nat → Int} {n s1 s2 : Int} {f : Int → Int × Int} {a : Int} (hf : zgd n f) (hs : s1 ≠ -1 ∧ s2 ≠ -1) (h0 : 0 ≤ a ∧ a ≤ n) (hn : n ≤ 240) (h : zpk b n (znx b n a) = s1 ∨ zpk b n (znx b n a) = s2) :
    ((f (znx b n a + 1)).1 = 0 → (zt_loop b n s1 s2 f 241 a).1 = 0 ∧ (zt_loop b n s1 s2 f 241 a).2 = (f (znx b n a + 1)).2) ∧ ((f (znx b n a + 1)).1 ≠ 0 → (zt_loop b n s1 s2 f 241 a).1 = (zt_loop b n s1 s2 f 241 (f (znx b n a + 1)).2).1 ∧ (zt_loop b n s1 s2 f 241 a).2 = (zt_loop b n s1 s2 f 241 (f (znx b n a + 1)).2).2) := by
  rw [zt_loop_e hs hf h0.1 h0.2 hn, if_neg (by omega)]
  exact ⟨fun q => by rw [if_pos q]; exact ⟨q, rfl⟩, fun q => by rw [if_neg q]; exact ⟨rfl, rfl⟩⟩
/-- a unit, begun or not -/
def zt_un (b : Nat → Int) (n : Int) (d : Nat) (bg a : Int) : Int × Int := if bg = 0 then zt_unit b n d a else zt_cmp b n d a
theorem zt_un_g {b : Nat → Int} {n : Int} (d : Nat) (bg : Int) : zgd n (zt_un b n d bg) := by
  intro a h0 h1
  unfold zt_un
  split
  · exact zt_unit_g d a h0 h1
  · exact zt_cmp_g d a h0 h1
def zt_tr (b : Nat → Int) (n : Int) (d : Nat) (bg : Int) : Int → Int × Int := zt_list b n 38 38 (zt_un b n d bg) (zt_un b n d 0)
theorem zt_tr_g {b : Nat → Int} {n : Int} (d : Nat) (bg : Int) : zgd n (zt_tr b n d bg) := zt_list_g (by decide) (zt_un_g d bg) (zt_un_g d 0)
def zt_co (b : Nat → Int) (n : Int) (d : Nat) (bg : Int) : Int → Int × Int := zt_list b n 124 124 (zt_tr b n d bg) (zt_tr b n d 0)
theorem zt_co_g {b : Nat → Int} {n : Int} (d : Nat) (bg : Int) : zgd n (zt_co b n d bg) := zt_list_g (by decide) (zt_tr_g d bg) (zt_tr_g d 0)
theorem zt_un_0 {b : Nat → Int} {n : Int} {d : Nat} : zt_un b n d 0 = zt_unit b n d := funext fun _ => if_pos rfl
theorem zt_co_0 {b : Nat → Int} {n : Int} {d : Nat} : zt_conds b n (zt_unit b n d) (zt_unit b n d) = zt_co b n d 0 := by
  rw [← zt_un_0]; rfl
theorem zt_co_1 {b : Nat → Int} {n : Int} {d : Nat} : zt_conds b n (zt_cmp b n d) (zt_unit b n d) = zt_co b n d 1 := by
  rw [← zt_un_0]
  have e : zt_cmp b n d = zt_un b n d 1 := funext fun _ => (if_neg (by decide)).symm
  rw [e]; rfl
theorem zt_atom_nx {b : Nat → Int} {n a : Int} {f : Option (Int → Int × Int)} (h0 : 0 ≤ a) (hn : n ≤ 240) : zt_atom b n f (znx b n a) = zt_atom b n f a := by
  unfold zt_atom
  rw [znx_i h0 hn]
theorem zt_list_nx {b : Nat → Int} {n s1 s2 a a1 : Int} {f0 f : Int → Int × Int} (h : f0 a1 = f0 a) : zt_list b n s1 s2 f0 f a1 = zt_list b n s1 s2 f0 f a := by
  unfold zt_list
  rw [h]
theorem zt_sum_nx {b : Nat → Int} {n a : Int} (d : Nat) (h0 : 0 ≤ a) (hn : n ≤ 240) : zt_sum b n d (znx b n a) = zt_sum b n d a := by
  rw [zt_sum_eq]
  exact zt_list_nx (zt_list_nx (zt_atom_nx h0 hn))
theorem zt_cmp_nx {b : Nat → Int} {n a : Int} (d : Nat) (h0 : 0 ≤ a) (hn : n ≤ 240) : zt_cmp b n d (znx b n a) = zt_cmp b n d a := by
  unfold zt_cmp
  rw [znx_i h0 hn]
theorem zt_unit_nx {b : Nat → Int} {n a : Int} (d : Nat) (h0 : 0 ≤ a) (hn : n ≤ 240) : zt_unit b n d (znx b n a) = zt_unit b n d a := by
  cases d with
  | zero =>
    unfold zt_unit
    rw [znx_i h0 hn, zt_sum_nx 0 h0 hn]
  | succ d =>
    unfold zt_unit
    unfold zt_deep
    rw [znx_i h0 hn, zt_sum_nx (d + 1) h0 hn]
theorem zt_un_nx {b : Nat → Int} {n a : Int} (d : Nat) (bg : Int) (h0 : 0 ≤ a) (hn : n ≤ 240) : zt_un b n d bg (znx b n a) = zt_un b n d bg a := by
  unfold zt_un
  rw [zt_unit_nx d h0 hn, zt_cmp_nx d h0 hn]
theorem zt_co_nx {b : Nat → Int} {n a : Int} (d : Nat) (bg : Int) (h0 : 0 ≤ a) (hn : n ≤ 240) : zt_co b n d bg (znx b n a) = zt_co b n d bg a := zt_list_nx (zt_list_nx (zt_un_nx d bg h0 hn))
/-- what stands within ! or ( -/
theorem zt_un_d0 (b : Nat → Int) (n a Lv bg : Int) (hb : bg = 0) (h : zpk b n (znx b n a) = 33 ∨ zpk b n (znx b n a) = 40) : Lv = 6 → (zt_un b n (6 - Lv).toNat bg a).1 = 0 ∧ (zt_un b n (6 - Lv).toNat bg a).2 = znx b n a := fun hl => by
  rw [hb, zt_un_0, zlv0 hl]
  exact zpr (if_pos h)
/-- deeper, from the sign itself on -/
def zt_dp (b : Nat → Int) (n : Int) (d : Nat) (sg p : Int) : Int × Int :=
  if sg = 33 then zt_un b n d 0 (p + 1) else if (zt_co b n d 0 (p + 1)).1 = 0 then zt_co b n d 0 (p + 1) else ztk b n 41 (zt_co b n d 0 (p + 1)).2
theorem zt_un_dp (b : Nat → Int) (n a Lv bg sg : Int) (hb : bg = 0) (hs : sg = zpk b n (znx b n a)) (h : sg = 33 ∨ sg = 40) (hl : 0 ≤ Lv ∧ Lv ≤ 5) : (zt_un b n (6 - Lv).toNat bg a).1 = (zt_dp b n (6 - (Lv + 1)).toNat sg (znx b n a)).1 ∧ (zt_un b n (6 - Lv).toNat bg a).2 = (zt_dp b n (6 - (Lv + 1)).toNat sg (znx b n a)).2 := by
  rw [hb, zt_un_0, zlvS hl]
  generalize (6 - (Lv + 1)).toNat = d
  have e : zt_unit b n (d + 1) a = zt_deep b n (zt_unit b n d) a := if_pos (by rw [← hs]; exact h)
  rw [e, hs]
  unfold zt_deep zt_dp
  rw [zt_co_0, zt_un_0]
  exact ⟨rfl, rfl⟩
theorem zt_dp_n (b : Nat → Int) (n : Int) (d : Nat) (sg p : Int) (h : sg = 33) : (zt_dp b n d sg p).1 = (zt_un b n d 0 (p + 1)).1 ∧ (zt_dp b n d sg p).2 = (zt_un b n d 0 (p + 1)).2 := zpe (if_pos h)
theorem zt_dp_b (b : Nat → Int) (n : Int) (d : Nat) (sg p : Int) (h : sg ≠ 33) : ((zt_co b n d 0 (p + 1)).1 = 0 → (zt_dp b n d sg p).1 = 0 ∧ (zt_dp b n d sg p).2 = (zt_co b n d 0 (p + 1)).2) ∧ ((zt_co b n d 0 (p + 1)).1 ≠ 0 → (zt_dp b n d sg p).1 = (ztk b n 41 (zt_co b n d 0 (p + 1)).2).1 ∧ (zt_dp b n d sg p).2 = (ztk b n 41 (zt_co b n d 0 (p + 1)).2).2) := by
  unfold zt_dp
  rw [if_neg h]
  exact ⟨fun q => by rw [if_pos q]; exact ⟨q, rfl⟩, fun q => by rw [if_neg q]; exact ⟨rfl, rfl⟩⟩
/-- a TRUTH of two SUMS -/
theorem zt_un_s (b : Nat → Int) (n a : Int) (d : Nat) (bg : Int) (hb : bg = 0) (h0 : 0 ≤ a) (hn : n ≤ 240) (h : zpk b n (znx b n a) ≠ 33 ∧ zpk b n (znx b n a) ≠ 40) : ((zt_sum b n d (znx b n a)).1 = 0 → (zt_un b n d bg a).1 = 0 ∧ (zt_un b n d bg a).2 = (zt_sum b n d (znx b n a)).2) ∧ ((zt_sum b n d (znx b n a)).1 ≠ 0 → (zt_un b n d bg a).1 = (zt_cmp b n d (zt_sum b n d (znx b n a)).2).1 ∧ (zt_un b n d bg a).2 = (zt_cmp b n d (zt_sum b n d (znx b n a)).2).2) := by
  rw [hb, zt_un_0, zt_sum_nx d h0 hn]
  have e : zt_unit b n d a = if (zt_sum b n d a).1 = 0 then zt_sum b n d a else zt_cmp b n d (zt_sum b n d a).2 := by
    cases d <;> exact if_neg (by omega)
  rw [e]
  exact ⟨fun q => by rw [if_pos q]; exact ⟨q, rfl⟩, fun q => by rw [if_neg q]; exact ⟨rfl, rfl⟩⟩
theorem zt_un_1 (b : Nat → Int) (n a : Int) (d : Nat) (bg : Int) (h : bg ≠ 0) : (zt_un b n d bg a).1 = (zt_cmp b n d a).1 ∧ (zt_un b n d bg a).2 = (zt_cmp b n d a).2 := zpe (if_neg h)
theorem zt_cmp_0 (b : Nat → Int) (n a : Int) (d : Nat) (h : zpk b n (znx b n a) ≠ 61 ∧ zpk b n (znx b n a) ≠ 60 ∧ zpk b n (znx b n a) ≠ 62) : (zt_cmp b n d a).1 = 0 ∧ (zt_cmp b n d a).2 = znx b n a := zpr (if_pos h)
theorem zt_cmp_s (b : Nat → Int) (n a : Int) (d : Nat) (h : zpk b n (znx b n a) = 61 ∨ zpk b n (znx b n a) = 60 ∨ zpk b n (znx b n a) = 62) : (zt_cmp b n d a).1 = (zt_sum b n d (znx b n a + 1)).1 ∧ (zt_cmp b n d a).2 = (zt_sum b n d (znx b n a + 1)).2 := zpe (if_neg (by omega))
/-- places of letters -/
theorem zix_n (i s : Int) : zix [] i s = -1 := rfl
theorem zix_c (x : Int) (l : List Int) (i s : Int) : zix (x :: l) i s = if x = s then i else zix l (i + 1) s := rfl
theorem zix_0 (i s : Int) (h : 0 ≤ i ∧ i < 1) : (zbt9 0 i.toNat = s → zix (zLs0.drop i.toNat) i s = i) ∧ (zbt9 0 i.toNat ≠ s → zix (zLs0.drop i.toNat) i s = zix (zLs0.drop (i + 1).toNat) (i + 1) s) := by
  have h1 : i = 0 := by omega
  rcases h1 with rfl
  · have e : zbt9 0 (0 : Int).toNat = 115 := by decide +kernel
    have e1 : zLs0.drop (0 : Int).toNat = 115 :: [] := rfl
    have e2 : zLs0.drop ((0 : Int) + 1).toNat = [] := rfl
    rw [e, e1, e2, zix_c]
    exact ⟨fun q => if_pos q, fun q => if_neg q⟩
theorem zix_0_e (s : Int) : zix (zLs0.drop (1 : Int).toNat) 1 s = -1 := rfl
theorem zix_0_b (s : Int) : -1 ≤ zix zLs0 0 s ∧ zix zLs0 0 s < 1 ∧ (zix zLs0 0 s ≠ -1 → s = 115) := by
  unfold zLs0
  simp only [zix_c, zix_n]
  repeat' split
  all_goals omega
theorem zix_0_m (s : Int) (h : 0 ≤ s ∧ s ≤ 255) : zix zLs0 0 (Int.bmod s 256) = zix zLs0 0 s := by
  by_cases q : s < 128
  · rw [Int.bmod_eq_of_le (by omega) (by omega)]
  · have e : Int.bmod s 256 = s - 256 := by
      have := Int.bmod_def s 256
      omega
    rw [e]
    have h1 := zix_0_b (s - 256)
    have h2 := zix_0_b s
    omega
theorem zix_1 (i s : Int) (h : 0 ≤ i ∧ i < 7) : (zbt9 1 i.toNat = s → zix (zLs1.drop i.toNat) i s = i) ∧ (zbt9 1 i.toNat ≠ s → zix (zLs1.drop i.toNat) i s = zix (zLs1.drop (i + 1).toNat) (i + 1) s) := by
  have h1 : i = 0 ∨ i = 1 ∨ i = 2 ∨ i = 3 ∨ i = 4 ∨ i = 5 ∨ i = 6 := by omega
  rcases h1 with rfl | rfl | rfl | rfl | rfl | rfl | rfl
  · have e : zbt9 1 (0 : Int).toNat = 114 := by decide +kernel
    have e1 : zLs1.drop (0 : Int).toNat = 114 :: [104, 102, 109, 116, 107, 122] := rfl
    have e2 : zLs1.drop ((0 : Int) + 1).toNat = [104, 102, 109, 116, 107, 122] := rfl
    rw [e, e1, e2, zix_c]
    exact ⟨fun q => if_pos q, fun q => if_neg q⟩
  · have e : zbt9 1 (1 : Int).toNat = 104 := by decide +kernel
    have e1 : zLs1.drop (1 : Int).toNat = 104 :: [102, 109, 116, 107, 122] := rfl
    have e2 : zLs1.drop ((1 : Int) + 1).toNat = [102, 109, 116, 107, 122] := rfl
    rw [e, e1, e2, zix_c]
    exact ⟨fun q => if_pos q, fun q => if_neg q⟩
  · have e : zbt9 1 (2 : Int).toNat = 102 := by decide +kernel
    have e1 : zLs1.drop (2 : Int).toNat = 102 :: [109, 116, 107, 122] := rfl
    have e2 : zLs1.drop ((2 : Int) + 1).toNat = [109, 116, 107, 122] := rfl
    rw [e, e1, e2, zix_c]
    exact ⟨fun q => if_pos q, fun q => if_neg q⟩
  · have e : zbt9 1 (3 : Int).toNat = 109 := by decide +kernel
    have e1 : zLs1.drop (3 : Int).toNat = 109 :: [116, 107, 122] := rfl
    have e2 : zLs1.drop ((3 : Int) + 1).toNat = [116, 107, 122] := rfl
    rw [e, e1, e2, zix_c]
    exact ⟨fun q => if_pos q, fun q => if_neg q⟩
  · have e : zbt9 1 (4 : Int).toNat = 116 := by decide +kernel
    have e1 : zLs1.drop (4 : Int).toNat = 116 :: [107, 122] := rfl
    have e2 : zLs1.drop ((4 : Int) + 1).toNat = [107, 122] := rfl
    rw [e, e1, e2, zix_c]
    exact ⟨fun q => if_pos q, fun q => if_neg q⟩
  · have e : zbt9 1 (5 : Int).toNat = 107 := by decide +kernel
    have e1 : zLs1.drop (5 : Int).toNat = 107 :: [122] := rfl
    have e2 : zLs1.drop ((5 : Int) + 1).toNat = [122] := rfl
    rw [e, e1, e2, zix_c]
    exact ⟨fun q => if_pos q, fun q => if_neg q⟩
  · have e : zbt9 1 (6 : Int).toNat = 122 := by decide +kernel
    have e1 : zLs1.drop (6 : Int).toNat = 122 :: [] := rfl
    have e2 : zLs1.drop ((6 : Int) + 1).toNat = [] := rfl
    rw [e, e1, e2, zix_c]
    exact ⟨fun q => if_pos q, fun q => if_neg q⟩
theorem zix_1_e (s : Int) : zix (zLs1.drop (7 : Int).toNat) 7 s = -1 := rfl
theorem zix_1_b (s : Int) : -1 ≤ zix zLs1 0 s ∧ zix zLs1 0 s < 7 ∧ (zix zLs1 0 s ≠ -1 → s = 114 ∨ s = 104 ∨ s = 102 ∨ s = 109 ∨ s = 116 ∨ s = 107 ∨ s = 122) := by
  unfold zLs1
  simp only [zix_c, zix_n]
  repeat' split
  all_goals omega
theorem zix_1_m (s : Int) (h : 0 ≤ s ∧ s ≤ 255) : zix zLs1 0 (Int.bmod s 256) = zix zLs1 0 s := by
  by_cases q : s < 128
  · rw [Int.bmod_eq_of_le (by omega) (by omega)]
  · have e : Int.bmod s 256 = s - 256 := by
      have := Int.bmod_def s 256
      omega
    rw [e]
    have h1 := zix_1_b (s - 256)
    have h2 := zix_1_b s
    omega
theorem zix_2 (i s : Int) (h : 0 ≤ i ∧ i < 2) : (zbt9 2 i.toNat = s → zix (zLs2.drop i.toNat) i s = i) ∧ (zbt9 2 i.toNat ≠ s → zix (zLs2.drop i.toNat) i s = zix (zLs2.drop (i + 1).toNat) (i + 1) s) := by
  have h1 : i = 0 ∨ i = 1 := by omega
  rcases h1 with rfl | rfl
  · have e : zbt9 2 (0 : Int).toNat = 101 := by decide +kernel
    have e1 : zLs2.drop (0 : Int).toNat = 101 :: [98] := rfl
    have e2 : zLs2.drop ((0 : Int) + 1).toNat = [98] := rfl
    rw [e, e1, e2, zix_c]
    exact ⟨fun q => if_pos q, fun q => if_neg q⟩
  · have e : zbt9 2 (1 : Int).toNat = 98 := by decide +kernel
    have e1 : zLs2.drop (1 : Int).toNat = 98 :: [] := rfl
    have e2 : zLs2.drop ((1 : Int) + 1).toNat = [] := rfl
    rw [e, e1, e2, zix_c]
    exact ⟨fun q => if_pos q, fun q => if_neg q⟩
theorem zix_2_e (s : Int) : zix (zLs2.drop (2 : Int).toNat) 2 s = -1 := rfl
theorem zix_2_b (s : Int) : -1 ≤ zix zLs2 0 s ∧ zix zLs2 0 s < 2 ∧ (zix zLs2 0 s ≠ -1 → s = 101 ∨ s = 98) := by
  unfold zLs2
  simp only [zix_c, zix_n]
  repeat' split
  all_goals omega
theorem zix_2_m (s : Int) (h : 0 ≤ s ∧ s ≤ 255) : zix zLs2 0 (Int.bmod s 256) = zix zLs2 0 s := by
  by_cases q : s < 128
  · rw [Int.bmod_eq_of_le (by omega) (by omega)]
  · have e : Int.bmod s 256 = s - 256 := by
      have := Int.bmod_def s 256
      omega
    rw [e]
    have h1 := zix_2_b (s - 256)
    have h2 := zix_2_b s
    omega
theorem zix_3 (i s : Int) (h : 0 ≤ i ∧ i < 6) : (zbt9 3 i.toNat = s → zix (zLs3.drop i.toNat) i s = i) ∧ (zbt9 3 i.toNat ≠ s → zix (zLs3.drop i.toNat) i s = zix (zLs3.drop (i + 1).toNat) (i + 1) s) := by
  have h1 : i = 0 ∨ i = 1 ∨ i = 2 ∨ i = 3 ∨ i = 4 ∨ i = 5 := by omega
  rcases h1 with rfl | rfl | rfl | rfl | rfl | rfl
  · have e : zbt9 3 (0 : Int).toNat = 102 := by decide +kernel
    have e1 : zLs3.drop (0 : Int).toNat = 102 :: [104, 115, 107, 100, 112] := rfl
    have e2 : zLs3.drop ((0 : Int) + 1).toNat = [104, 115, 107, 100, 112] := rfl
    rw [e, e1, e2, zix_c]
    exact ⟨fun q => if_pos q, fun q => if_neg q⟩
  · have e : zbt9 3 (1 : Int).toNat = 104 := by decide +kernel
    have e1 : zLs3.drop (1 : Int).toNat = 104 :: [115, 107, 100, 112] := rfl
    have e2 : zLs3.drop ((1 : Int) + 1).toNat = [115, 107, 100, 112] := rfl
    rw [e, e1, e2, zix_c]
    exact ⟨fun q => if_pos q, fun q => if_neg q⟩
  · have e : zbt9 3 (2 : Int).toNat = 115 := by decide +kernel
    have e1 : zLs3.drop (2 : Int).toNat = 115 :: [107, 100, 112] := rfl
    have e2 : zLs3.drop ((2 : Int) + 1).toNat = [107, 100, 112] := rfl
    rw [e, e1, e2, zix_c]
    exact ⟨fun q => if_pos q, fun q => if_neg q⟩
  · have e : zbt9 3 (3 : Int).toNat = 107 := by decide +kernel
    have e1 : zLs3.drop (3 : Int).toNat = 107 :: [100, 112] := rfl
    have e2 : zLs3.drop ((3 : Int) + 1).toNat = [100, 112] := rfl
    rw [e, e1, e2, zix_c]
    exact ⟨fun q => if_pos q, fun q => if_neg q⟩
  · have e : zbt9 3 (4 : Int).toNat = 100 := by decide +kernel
    have e1 : zLs3.drop (4 : Int).toNat = 100 :: [112] := rfl
    have e2 : zLs3.drop ((4 : Int) + 1).toNat = [112] := rfl
    rw [e, e1, e2, zix_c]
    exact ⟨fun q => if_pos q, fun q => if_neg q⟩
  · have e : zbt9 3 (5 : Int).toNat = 112 := by decide +kernel
    have e1 : zLs3.drop (5 : Int).toNat = 112 :: [] := rfl
    have e2 : zLs3.drop ((5 : Int) + 1).toNat = [] := rfl
    rw [e, e1, e2, zix_c]
    exact ⟨fun q => if_pos q, fun q => if_neg q⟩
theorem zix_3_e (s : Int) : zix (zLs3.drop (6 : Int).toNat) 6 s = -1 := rfl
theorem zix_3_b (s : Int) : -1 ≤ zix zLs3 0 s ∧ zix zLs3 0 s < 6 ∧ (zix zLs3 0 s ≠ -1 → s = 102 ∨ s = 104 ∨ s = 115 ∨ s = 107 ∨ s = 100 ∨ s = 112) := by
  unfold zLs3
  simp only [zix_c, zix_n]
  repeat' split
  all_goals omega
theorem zix_3_m (s : Int) (h : 0 ≤ s ∧ s ≤ 255) : zix zLs3 0 (Int.bmod s 256) = zix zLs3 0 s := by
  by_cases q : s < 128
  · rw [Int.bmod_eq_of_le (by omega) (by omega)]
  · have e : Int.bmod s 256 = s - 256 := by
      have := Int.bmod_def s 256
      omega
    rw [e]
    have h1 := zix_3_b (s - 256)
    have h2 := zix_3_b s
    omega
theorem zix_5 (i s : Int) (h : 0 ≤ i ∧ i < 1) : (zbt9 5 i.toNat = s → zix (zLs5.drop i.toNat) i s = i) ∧ (zbt9 5 i.toNat ≠ s → zix (zLs5.drop i.toNat) i s = zix (zLs5.drop (i + 1).toNat) (i + 1) s) := by
  have h1 : i = 0 := by omega
  rcases h1 with rfl
  · have e : zbt9 5 (0 : Int).toNat = 121 := by decide +kernel
    have e1 : zLs5.drop (0 : Int).toNat = 121 :: [] := rfl
    have e2 : zLs5.drop ((0 : Int) + 1).toNat = [] := rfl
    rw [e, e1, e2, zix_c]
    exact ⟨fun q => if_pos q, fun q => if_neg q⟩
theorem zix_5_e (s : Int) : zix (zLs5.drop (1 : Int).toNat) 1 s = -1 := rfl
theorem zix_5_b (s : Int) : -1 ≤ zix zLs5 0 s ∧ zix zLs5 0 s < 1 ∧ (zix zLs5 0 s ≠ -1 → s = 121) := by
  unfold zLs5
  simp only [zix_c, zix_n]
  repeat' split
  all_goals omega
theorem zix_5_m (s : Int) (h : 0 ≤ s ∧ s ≤ 255) : zix zLs5 0 (Int.bmod s 256) = zix zLs5 0 s := by
  by_cases q : s < 128
  · rw [Int.bmod_eq_of_le (by omega) (by omega)]
  · have e : Int.bmod s 256 = s - 256 := by
      have := Int.bmod_def s 256
      omega
    rw [e]
    have h1 := zix_5_b (s - 256)
    have h2 := zix_5_b s
    omega
theorem zb_us8 (a : Int) (h : 0 ≤ a ∧ a ≤ 255) : zb_ushr a 8 = 0 := by
  have : ∀ i : Fin 256, zb_ushr (i.val : Int) 8 = 0 := by decide +kernel
  have e := this ⟨a.toNat, by omega⟩
  rw [show ((⟨a.toNat, by omega⟩ : Fin 256).val : Int) = a by show ((a.toNat : Nat) : Int) = a; omega] at e
  exact e
/-- CLAUSES: from one's head to the next's -/
theorem zt_cl_go {b : Nat → Int} {n s : Int} {f : Int → Int × Int} {a : Int} (hf : zgd n f) (hs : s ≠ -1) (h0 : 0 ≤ a ∧ a ≤ n) (hn : n ≤ 240) (h1 : (f a).1 ≠ 0) (h : zpk b n (znx b n (f a).2) = s) : (zt_list b n s s f f a).1 = (zt_list b n s s f f (znx b n (f a).2 + 1)).1 ∧ (zt_list b n s s f f a).2 = (zt_list b n s s f f (znx b n (f a).2 + 1)).2 := by
  have i := hf a h0.1 h0.2
  have e : zt_list b n s s f f a = zt_loop b n s s f 241 (f a).2 := if_neg h1
  rw [e, zt_loop_e ⟨hs, hs⟩ hf (by omega) i.2.1 hn, if_neg (by omega)]
  exact ⟨rfl, rfl⟩
theorem zt_cl_stop {b : Nat → Int} {n s : Int} {f : Int → Int × Int} {a : Int} (h1 : (f a).1 ≠ 0) (h : zpk b n (znx b n (f a).2) ≠ s) : (zt_list b n s s f f a).1 = 1 ∧ (zt_list b n s s f f a).2 = znx b n (f a).2 := by
  have e : zt_list b n s s f f a = zt_loop b n s s f 241 (f a).2 := if_neg h1
  rw [e]
  exact zt_lp_stop ⟨h, h⟩
theorem zt_fault_0 {b : Nat → Int} {n : Int} (h : (zt_list b n 59 59 (zt_clause b n) (zt_clause b n) 0).1 = 0) : zt_fault b n = (zt_list b n 59 59 (zt_clause b n) (zt_clause b n) 0).2 := if_pos h
theorem zt_fault_1 {b : Nat → Int} {n : Int} (h : (zt_list b n 59 59 (zt_clause b n) (zt_clause b n) 0).1 ≠ 0) (h2 : zpk b n (zt_list b n 59 59 (zt_clause b n) (zt_clause b n) 0).2 = -1) : zt_fault b n = -1 := (if_neg h).trans (if_pos h2)
theorem zt_fault_2 {b : Nat → Int} {n : Int} (h : (zt_list b n 59 59 (zt_clause b n) (zt_clause b n) 0).1 ≠ 0) (h2 : zpk b n (zt_list b n 59 59 (zt_clause b n) (zt_clause b n) 0).2 ≠ -1) : zt_fault b n = (zt_list b n 59 59 (zt_clause b n) (zt_clause b n) 0).2 := (if_neg h).trans (if_neg h2)
/-- a CLAUSE's ways -/
theorem zt_c_y (b : Nat → Int) (n a : Int) (h : (ztk b n 121 a).1 = 0) : (zt_clause b n a).1 = 0 ∧ (zt_clause b n a).2 = (ztk b n 121 a).2 := by
  have e : zt_clause b n a = ztk b n 121 a := if_pos h
  rw [e]; exact ⟨h, rfl⟩
theorem zt_c_c (b : Nat → Int) (n a : Int) (h : (ztk b n 121 a).1 ≠ 0) (h2 : (ztk b n 58 (ztk b n 121 a).2).1 = 0) : (zt_clause b n a).1 = 0 ∧ (zt_clause b n a).2 = (ztk b n 58 (ztk b n 121 a).2).2 := by
  have e : zt_clause b n a = ztk b n 58 (ztk b n 121 a).2 := (if_neg h).trans (if_pos h2)
  rw [e]; exact ⟨h2, rfl⟩
/-- behind its head, at c -/
def zt_body (b : Nat → Int) (n c : Int) : Int × Int :=
  if zpk b n (znx b n c) = 33 ∨ zpk b n (znx b n c) = 40 then zt_rest b n (zt_co b n 6 0 c)
  else if (zt_sum b n 6 c).1 = 0 then zt_sum b n 6 c
  else if zpk b n (znx b n (zt_sum b n 6 c).2) ≠ 61 ∧ zpk b n (znx b n (zt_sum b n 6 c).2) ≠ 60 ∧ zpk b n (znx b n (zt_sum b n 6 c).2) ≠ 62 then (1, znx b n (zt_sum b n 6 c).2)
  else zt_rest b n (zt_co b n 6 1 (zt_sum b n 6 c).2)
theorem zt_c_b (b : Nat → Int) (n a : Int) (h : (ztk b n 121 a).1 ≠ 0) (h2 : (ztk b n 58 (ztk b n 121 a).2).1 ≠ 0) : (zt_clause b n a).1 = (zt_body b n (ztk b n 58 (ztk b n 121 a).2).2).1 ∧ (zt_clause b n a).2 = (zt_body b n (ztk b n 58 (ztk b n 121 a).2).2).2 := by
  have e : zt_clause b n a = zt_body b n (ztk b n 58 (ztk b n 121 a).2).2 := by
    refine (if_neg h).trans ((if_neg h2).trans ?_)
    unfold zt_body
    rw [zt_co_0, zt_co_1]
  rw [e]; exact ⟨rfl, rfl⟩
theorem zt_b_s0 (b : Nat → Int) (n c : Int) (h0 : 0 ≤ c) (hn : n ≤ 240) (h : zpk b n (znx b n c) ≠ 33 ∧ zpk b n (znx b n c) ≠ 40) (h1 : (zt_sum b n 6 (znx b n c)).1 = 0) : (zt_body b n c).1 = 0 ∧ (zt_body b n c).2 = (zt_sum b n 6 (znx b n c)).2 := by
  rw [zt_sum_nx 6 h0 hn] at h1 ⊢
  have e : zt_body b n c = zt_sum b n 6 c := (if_neg (by omega)).trans (if_pos h1)
  rw [e]; exact ⟨h1, rfl⟩
theorem zt_b_s1 (b : Nat → Int) (n c : Int) (h0 : 0 ≤ c) (hn : n ≤ 240) (h : zpk b n (znx b n c) ≠ 33 ∧ zpk b n (znx b n c) ≠ 40) (h1 : (zt_sum b n 6 (znx b n c)).1 ≠ 0) (h2 : zpk b n (znx b n (zt_sum b n 6 (znx b n c)).2) ≠ 61 ∧ zpk b n (znx b n (zt_sum b n 6 (znx b n c)).2) ≠ 60 ∧ zpk b n (znx b n (zt_sum b n 6 (znx b n c)).2) ≠ 62) : (zt_body b n c).1 = 1 ∧ (zt_body b n c).2 = znx b n (zt_sum b n 6 (znx b n c)).2 := by
  rw [zt_sum_nx 6 h0 hn] at h1 h2 ⊢
  exact zpr ((if_neg (by omega)).trans ((if_neg h1).trans (if_pos h2)))
/-- with a CONDITION: what the CONDITION gave, and behind it -/
theorem zt_b_r0 (b : Nat → Int) (n c : Int) (h0 : 0 ≤ c) (hn : n ≤ 240) (h : zpk b n (znx b n c) = 33 ∨ zpk b n (znx b n c) = 40) : (zt_body b n c).1 = (zt_rest b n (zt_co b n 6 0 (znx b n (znx b n c)))).1 ∧ (zt_body b n c).2 = (zt_rest b n (zt_co b n 6 0 (znx b n (znx b n c)))).2 := by
  rw [znx_i h0 hn, zt_co_nx 6 0 h0 hn]
  exact zpe (if_pos h)
theorem zt_b_r1 (b : Nat → Int) (n c : Int) (h0 : 0 ≤ c) (hc : c ≤ n) (hn : n ≤ 240) (h : zpk b n (znx b n c) ≠ 33 ∧ zpk b n (znx b n c) ≠ 40) (h1 : (zt_sum b n 6 (znx b n c)).1 ≠ 0) (h2 : zpk b n (znx b n (zt_sum b n 6 (znx b n c)).2) = 61 ∨ zpk b n (znx b n (zt_sum b n 6 (znx b n c)).2) = 60 ∨ zpk b n (znx b n (zt_sum b n 6 (znx b n c)).2) = 62) : (zt_body b n c).1 = (zt_rest b n (zt_co b n 6 1 (znx b n (zt_sum b n 6 (znx b n c)).2))).1 ∧ (zt_body b n c).2 = (zt_rest b n (zt_co b n 6 1 (znx b n (zt_sum b n 6 (znx b n c)).2))).2 := by
  have g := zt_sum_g (b := b) (n := n) 6 c h0 hc
  rw [zt_sum_nx 6 h0 hn] at h1 h2 ⊢
  rw [zt_co_nx 6 1 (by omega) hn]
  exact zpe ((if_neg (by omega)).trans ((if_neg h1).trans (if_neg (by omega))))
theorem zt_r_0 (b : Nat → Int) (n : Int) (r : Int × Int) (h : r.1 = 0) : (zt_rest b n r).1 = 0 ∧ (zt_rest b n r).2 = r.2 := by
  have e : zt_rest b n r = r := if_pos h
  rw [e]; exact ⟨h, rfl⟩
theorem zt_r_q (b : Nat → Int) (n : Int) (r : Int × Int) (h : r.1 ≠ 0) (h2 : (ztk b n 63 r.2).1 = 0) : (zt_rest b n r).1 = 0 ∧ (zt_rest b n r).2 = (ztk b n 63 r.2).2 := by
  have e : zt_rest b n r = ztk b n 63 r.2 := (if_neg h).trans (if_pos h2)
  rw [e]; exact ⟨h2, rfl⟩
theorem zt_r_s (b : Nat → Int) (n : Int) (r : Int × Int) (h : r.1 ≠ 0) (h2 : (ztk b n 63 r.2).1 ≠ 0) : (zt_rest b n r).1 = (zt_sum b n 6 (ztk b n 63 r.2).2).1 ∧ (zt_rest b n r).2 = (zt_sum b n 6 (ztk b n 63 r.2).2).2 := zpe ((if_neg h).trans (if_neg h2))
/-! AS THE MODEL READS THEM: its tape -/
def zbT (g : zM) : Nat → Int := fun j => zub (g 80 j)
theorem zub_f (v : Int) : (0 ≤ v → zub v = v) ∧ (v < 0 → zub v = v + 256) := by
  unfold zub
  exact ⟨fun h => if_pos h, fun h => if_neg (by omega)⟩
theorem zb_255 {v w : Int} (h : w = v) (hv : -128 ≤ v ∧ v ≤ 127) : zb_and v 255 = zub w := by
  subst h
  have : ∀ i : Fin 256, zb_and ((i.val : Int) - 128) 255 = zub ((i.val : Int) - 128) := by decide +kernel
  have e := this ⟨(w + 128).toNat, by omega⟩
  have e2 : (((⟨(w + 128).toNat, by omega⟩ : Fin 256).val : Int) - 128) = w := by
    show (((w + 128).toNat : Nat) : Int) - 128 = w
    omega
  rw [e2] at e
  exact e
theorem zb_255p {v : Int} (hv : 0 ≤ v ∧ v ≤ 127) : zb_and v 255 = v := by
  rw [zb_255 rfl (by omega)]
  exact (zub_f v).1 hv.1
theorem zn_m {mC m : zM} {t : Int} {e : Nat} (hJ : zJ mC t e m) : m 79 6 = mC 79 6 ∧ 0 ≤ mC 79 6 ∧ mC 79 6 ≤ 240 := by
  have e : m 79 6 = mC 79 6 := hJ.2.1 79 6 (by omega)
  have h : 0 ≤ m 79 6 ∧ m 79 6 ≤ 240 := hJ.1 79 6
  omega
theorem zch_m {mC m : zM} {t : Int} {e : Nat} (hJ : zJ mC t e m) (h5 : m 79 5 = 80 ∧ m 79 8 = 0 ∧ m 79 9 = mC 79 6) (h0 : 0 ≤ m 79 10) : zub (zch m) = zbT mC (m 79 10).toNat := by
  unfold zch zbT
  rw [h5.1, h5.2.1]
  have e1 : (80 : Int).toNat = 80 := rfl
  rw [e1, show (0 + m 79 10).toNat = (m 79 10).toNat by omega, hJ.2.1 80 _ (by omega)]
theorem zpk_m {mC m : zM} {t a : Int} {e : Nat} (hJ : zJ mC t e m) (h5 : m 79 5 = 80 ∧ m 79 8 = 0 ∧ m 79 9 = mC 79 6) (ha : m 79 10 = a) : (m 79 10 < m 79 9 → zub (zch m) = zpk (zbT mC) (mC 79 6) a) ∧ (m 79 9 ≤ m 79 10 → zpk (zbT mC) (mC 79 6) a = -1) := by
  have h0 : 0 ≤ m 79 10 ∧ m 79 10 ≤ 241 := hJ.1 79 10
  have k := zch_m hJ h5 h0.1
  subst ha
  exact ⟨fun h => by rw [zpk_in (by omega), k], fun h => zpk_out (by omega)⟩
theorem znx_m {mC m : zM} {t : Int} {e : Nat} (hJ : zJ mC t e m) (h5 : m 79 5 = 80 ∧ m 79 8 = 0 ∧ m 79 9 = mC 79 6) : (m 79 10 < m 79 9 → zub (zch m) = 32 → znx (zbT mC) (mC 79 6) (m 79 10 + 1) = znx (zbT mC) (mC 79 6) (m 79 10)) ∧ ((m 79 9 ≤ m 79 10 ∨ zub (zch m) ≠ 32) → znx (zbT mC) (mC 79 6) (m 79 10) = m 79 10) := by
  have e := zn_m hJ
  have h0 : 0 ≤ m 79 10 ∧ m 79 10 ≤ 241 := hJ.1 79 10
  have k := zch_m hJ h5 h0.1
  rw [k]
  exact ⟨fun h1 h2 => znx_s h0.1 e.2.2 (by omega) h2, fun h1 => znx_0 (h1.imp (fun q => by omega) id)⟩
theorem zn4_st (b : Nat → Int) (n x a : Int) (hx : 0 ≤ x ∧ x ≤ 3) (h : 48 ≤ zpk b n a ∧ zpk b n a ≤ 57) : (zn4 b n (4 - x).toNat a).1 = (zn4 b n (4 - (x + 1)).toNat (a + 1)).1 ∧ (zn4 b n (4 - x).toNat a).2 = (zn4 b n (4 - (x + 1)).toNat (a + 1)).2 := by
  rw [show (4 - x).toNat = (4 - (x + 1)).toNat + 1 by omega]
  exact zpe (if_neg (by omega))
theorem zn4_en (b : Nat → Int) (n x a : Int) (h : zpk b n a < 48 ∨ 57 < zpk b n a) : (zn4 b n (4 - x).toNat a).1 = 1 ∧ (zn4 b n (4 - x).toNat a).2 = a := by
  generalize (4 - x).toNat = k
  cases k with
  | zero => exact zpr (if_pos h)
  | succ k => exact zpr (if_pos h)
theorem zn4_ov (b : Nat → Int) (n x a : Int) (hx : x = 4) (h : 48 ≤ zpk b n a ∧ zpk b n a ≤ 57) : (zn4 b n (4 - x).toNat a).1 = 0 ∧ (zn4 b n (4 - x).toNat a).2 = a := by
  rw [show (4 - x).toNat = 0 by omega]
  exact zpr (if_neg (by omega))
/-- two SUMS, the first perhaps read -/
def zt_cpr (b : Nat → Int) (n : Int) (d : Nat) (bg a : Int) : Int × Int := if bg = 0 then (if (zt_sum b n d a).1 = 0 then zt_sum b n d a else zt_cmp b n d (zt_sum b n d a).2) else zt_cmp b n d a
theorem zt_cpr_g {b : Nat → Int} {n : Int} (d : Nat) (bg : Int) : zgd n (zt_cpr b n d bg) := by
  intro a h0 h1
  by_cases q : bg = 0
  · have e : zt_cpr b n d bg a = if (zt_sum b n d a).1 = 0 then zt_sum b n d a else zt_cmp b n d (zt_sum b n d a).2 := if_pos q
    rw [e]
    exact zt_su_g d a h0 h1
  · have e : zt_cpr b n d bg a = zt_cmp b n d a := if_neg q
    rw [e]
    exact zt_cmp_g d a h0 h1
theorem zt_cpr_1 (b : Nat → Int) (n a : Int) (d : Nat) (bg : Int) (h : bg ≠ 0) : (zt_cpr b n d bg a).1 = (zt_cmp b n d a).1 ∧ (zt_cpr b n d bg a).2 = (zt_cmp b n d a).2 := zpe (if_neg h)
theorem zt_cpr_0 (b : Nat → Int) (n a : Int) (d : Nat) (bg : Int) (h : bg = 0) : ((zt_sum b n d a).1 = 0 → (zt_cpr b n d bg a).1 = 0 ∧ (zt_cpr b n d bg a).2 = (zt_sum b n d a).2) ∧ ((zt_sum b n d a).1 ≠ 0 → (zt_cpr b n d bg a).1 = (zt_cmp b n d (zt_sum b n d a).2).1 ∧ (zt_cpr b n d bg a).2 = (zt_cmp b n d (zt_sum b n d a).2).2) := by
  have e : zt_cpr b n d bg a = if (zt_sum b n d a).1 = 0 then zt_sum b n d a else zt_cmp b n d (zt_sum b n d a).2 := if_pos h
  rw [e]
  exact ⟨fun q => by rw [if_pos q]; exact ⟨q, rfl⟩, fun q => by rw [if_neg q]; exact ⟨rfl, rfl⟩⟩
theorem zt_un_c (b : Nat → Int) (n a : Int) (d : Nat) (h0 : 0 ≤ a) (hn : n ≤ 240) (h : zpk b n (znx b n a) ≠ 33 ∧ zpk b n (znx b n a) ≠ 40) : (zt_un b n d 0 a).1 = (zt_cpr b n d 0 (znx b n a)).1 ∧ (zt_un b n d 0 a).2 = (zt_cpr b n d 0 (znx b n a)).2 := by
  have e1 : zt_cpr b n d 0 (znx b n a) = if (zt_sum b n d a).1 = 0 then zt_sum b n d a else zt_cmp b n d (zt_sum b n d a).2 := by
    rw [← zt_sum_nx d h0 hn]
    exact if_pos rfl
  rw [zt_un_0, e1]
  have e : zt_unit b n d a = if (zt_sum b n d a).1 = 0 then zt_sum b n d a else zt_cmp b n d (zt_sum b n d a).2 := by
    cases d <;> exact if_neg (by omega)
  rw [e]
  exact ⟨rfl, rfl⟩
