/-! WORTH of texts, and code for a stack (by hand) -/
def zclp (v : Int) : Int := max (-1000000) (min 1000000 v)
/-- what a sign does to the two numbers that wait -/
def zop (s a b : Int) : Int :=
  if s = 5 then zclp (a + b) else if s = 6 then zclp (a - b) else if s = 7 then zclp (a * b) else if s = 8 then zclp (if b = 0 then 0 else Int.tdiv a b)
  else if s = 9 then (if a = b then 1 else 0) else if s = 10 then (if a < b then 1 else 0) else if s = 11 then (if b < a then 1 else 0)
  else if s = 12 then zclp (zb_andL a b) else zclp (zb_orL a b)
/-- a word of code: sign and operand -/
def zwd (s o : Int) : Int := s * 16384 + o
/-- a word on a stack of numbers -/
def zex (L : Nat → Int) (w : Int) (st : List Int) : List Int :=
  if w / 16384 = 0 then (w % 16384) :: st
  else if w / 16384 = 1 then L (w % 16384).toNat :: st
  else if w / 16384 = 4 then (match st with
    | [] => []
    | x :: t => (1 - x) :: t)
  else (match st with
    | b :: a :: t => zop (w / 16384) a b :: t
    | t => t)
def zrn (L : Nat → Int) : List Int → List Int → List Int
  | [], st => st
  | w :: C, st => zrn L C (zex L w st)
theorem zrn_app (L : Nat → Int) : ∀ (C D : List Int) (st : List Int), zrn L (C ++ D) st = zrn L D (zrn L C st) := by
  intro C
  induction C with
  | nil => exact fun D st => rfl
  | cons w C ih => exact fun D st => ih D (zex L w st)
theorem zwd_s {s o : Int} (h : 0 ≤ o ∧ o < 16384) : zwd s o / 16384 = s ∧ zwd s o % 16384 = o := by
  unfold zwd
  omega
/-- the code C, with the numbers B waiting, leaves v on them -/
def zpu (L : Nat → Int) (B C : List Int) (v : Int) : Prop := ∀ st : List Int, zrn L C (B ++ st) = v :: st
theorem zpu_n {L : Nat → Int} {o : Int} (h : 0 ≤ o ∧ o < 16384) : zpu L [] [zwd 0 o] o := by
  intro st
  show zex L (zwd 0 o) st = o :: st
  unfold zex
  rw [(zwd_s h).1, (zwd_s h).2, if_pos rfl]
theorem zpu_l {L : Nat → Int} {o : Int} (h : 0 ≤ o ∧ o < 16384) : zpu L [] [zwd 1 o] (L o.toNat) := by
  intro st
  show zex L (zwd 1 o) st = L o.toNat :: st
  unfold zex
  rw [(zwd_s h).1, (zwd_s h).2, if_neg (by decide), if_pos rfl]
theorem zpu_2 {L : Nat → Int} {B C D : List Int} {a b s : Int} (h : zpu L B C a) (k : zpu L [] D b) (hs : 5 ≤ s ∧ s ≤ 13) : zpu L B (C ++ (D ++ [zwd s 0])) (zop s a b) := by
  intro st
  rw [zrn_app, h st, zrn_app, show zrn L D (a :: st) = b :: a :: st from k (a :: st)]
  show zex L (zwd s 0) (b :: a :: st) = zop s a b :: st
  unfold zex
  rw [(zwd_s (s := s) (o := 0) (by decide)).1, if_neg (by omega), if_neg (by omega), if_neg (by omega)]
theorem zpu_1 {L : Nat → Int} {C : List Int} {a : Int} (h : zpu L [] C a) : zpu L [] (C ++ [zwd 4 0]) (1 - a) := by
  intro st
  rw [zrn_app, show zrn L C ([] ++ st) = a :: st from h st]
  show zex L (zwd 4 0) (a :: st) = (1 - a) :: st
  unfold zex
  rw [(zwd_s (s := 4) (o := 0) (by decide)).1, if_neg (by decide), if_neg (by decide), if_pos rfl]
/-- how many numbers wait at most: from n on, never more than k, each sign has what it works on -/
def zln (w : Int) (n : Nat) : Nat := if w / 16384 = 0 ∨ w / 16384 = 1 then n + 1 else if w / 16384 = 4 then n else n - 1
def zft (k : Nat) : List Int → Nat → Prop
  | [], _ => True
  | w :: C, n => ((w / 16384 = 0 ∨ w / 16384 = 1) ∧ n < k ∧ (w / 16384 = 1 → w % 16384 < 6) ∨ (w / 16384 = 4 ∧ 1 ≤ n) ∨ (5 ≤ w / 16384 ∧ w / 16384 ≤ 13 ∧ 2 ≤ n)) ∧ zft k C (zln w n)
def zxl : List Int → Nat → Nat
  | [], n => n
  | w :: C, n => zxl C (zln w n)
theorem zxl_app : ∀ (C D : List Int) (n : Nat), zxl (C ++ D) n = zxl D (zxl C n) := by
  intro C
  induction C with
  | nil => exact fun D n => rfl
  | cons w C ih => exact fun D n => ih D (zln w n)
theorem zft_app {k : Nat} : ∀ (C D : List Int) (n : Nat), zft k C n → zft k D (zxl C n) → zft k (C ++ D) n := by
  intro C
  induction C with
  | nil => exact fun D n _ h => h
  | cons w C ih => exact fun D n h1 h2 => ⟨h1.1, ih D (zln w n) h1.2 h2⟩
/-- C leaves one number more than the b that waited less (b of them are its own), and wants d above them -/
def zfi (b d : Nat) (C : List Int) : Prop := ∀ n k : Nat, n + d ≤ k → zft k C (n + b) ∧ zxl C (n + b) = n + 1
theorem zfi_up {b d e : Nat} {C : List Int} (h : zfi b d C) (l : d ≤ e) : zfi b e C := fun n k q => h n k (by omega)
theorem zfi_n {o : Int} (h : 0 ≤ o ∧ o < 16384) : zfi 0 1 [zwd 0 o] := by
  intro n k q
  have e := (zwd_s (s := 0) h)
  refine ⟨⟨Or.inl ⟨Or.inl e.1, by omega, fun z => absurd (e.1.symm.trans z) (by decide)⟩, trivial⟩, ?_⟩
  show zln (zwd 0 o) (n + 0) = n + 1
  unfold zln
  rw [if_pos (Or.inl e.1)]
theorem zfi_l {o : Int} (h : 0 ≤ o ∧ o < 6) : zfi 0 1 [zwd 1 o] := by
  intro n k q
  have e := (zwd_s (s := 1) (o := o) (by omega))
  refine ⟨⟨Or.inl ⟨Or.inr e.1, by omega, fun _ => by rw [e.2]; exact h.2⟩, trivial⟩, ?_⟩
  show zln (zwd 1 o) (n + 0) = n + 1
  unfold zln
  rw [if_pos (Or.inr e.1)]
theorem zfi_2 {b d e : Nat} {C D : List Int} {s : Int} (h : zfi b d C) (k : zfi 0 e D) (hs : 5 ≤ s ∧ s ≤ 13) (l : e + 1 ≤ d) (l1 : 1 ≤ d) : zfi b d (C ++ (D ++ [zwd s 0])) := by
  intro n m q
  have h1 := h n m q
  have k1 := k (n + 1) m (by omega)
  have z := (zwd_s (s := s) (o := 0) (by decide))
  refine ⟨zft_app C _ _ h1.1 ?_, ?_⟩
  · rw [h1.2]
    refine zft_app D _ _ k1.1 ?_
    have k2 : zxl D (n + 1) = n + 1 + 1 := k1.2
    rw [k2]
    exact ⟨Or.inr (Or.inr ⟨by omega, by omega, by omega⟩), trivial⟩
  · have k2 : zxl D (n + 1) = n + 1 + 1 := k1.2
    rw [zxl_app, h1.2, zxl_app, k2]
    show zln (zwd s 0) (n + 1 + 1) = n + 1
    unfold zln
    rw [if_neg (by omega), if_neg (by omega)]
    rfl
theorem zfi_1 {d : Nat} {C : List Int} (h : zfi 0 d C) : zfi 0 d (C ++ [zwd 4 0]) := by
  intro n m q
  have h1 := h n m q
  have z := (zwd_s (s := 4) (o := 0) (by decide))
  refine ⟨zft_app C _ _ h1.1 ?_, ?_⟩
  · rw [h1.2]
    exact ⟨Or.inr (Or.inl ⟨z.1, by omega⟩), trivial⟩
  · rw [zxl_app, h1.2]
    show zln (zwd 4 0) (n + 1) = n + 1
    unfold zln
    rw [if_neg (by omega), if_pos z.1]
/-! what texts are worth -/
def zv_n4 (b : Nat → Int) (n : Int) : Nat → Int → Int → Int
  | 0, _, v => v
  | k + 1, a, v => if zpk b n a < 48 ∨ 57 < zpk b n a then v else zv_n4 b n k (a + 1) (10 * v + (zpk b n a - 48))
def zv_atom (b : Nat → Int) (n : Int) (L : Nat → Int) (iv : Int → Int) (a : Int) : Int :=
  if zpk b n (znx b n a) = 91 then iv (znx b n a + 1)
  else if 48 ≤ zpk b n (znx b n a) ∧ zpk b n (znx b n a) ≤ 57 then zv_n4 b n 4 (znx b n a) 0
  else L (zix zLs3 0 (zpk b n (znx b n a))).toNat
def zv_loop (b : Nat → Int) (n s1 s2 : Int) (op : Int → Int → Int → Int) (f : Int → Int × Int) (fv : Int → Int) : Nat → Int → Int → Int
  | 0, _, v => v
  | k + 1, a, v =>
    if zpk b n (znx b n a) ≠ s1 ∧ zpk b n (znx b n a) ≠ s2 then v
    else zv_loop b n s1 s2 op f fv k (f (znx b n a + 1)).2 (op (zpk b n (znx b n a)) v (fv (znx b n a + 1)))
def zv_list (b : Nat → Int) (n s1 s2 : Int) (op : Int → Int → Int → Int) (f0 f : Int → Int × Int) (f0v fv : Int → Int) (a : Int) : Int := zv_loop b n s1 s2 op f fv 241 (f0 a).2 (f0v a)
def zo_t (s v w : Int) : Int := zop (if s = 42 then 7 else 8) v w
def zo_s (s v w : Int) : Int := zop (if s = 43 then 5 else 6) v w
def zo_c (s v w : Int) : Int := zop (if s = 61 then 9 else if s = 60 then 10 else 11) v w
def zo_a (_ v w : Int) : Int := zop 12 v w
def zo_o (_ v w : Int) : Int := zop 13 v w
def zv_term (b : Nat → Int) (n : Int) (L : Nat → Int) (inner : Option (Int → Int × Int)) (iv : Int → Int) : Int → Int := zv_list b n 42 47 zo_t (zt_atom b n inner) (zt_atom b n inner) (zv_atom b n L iv) (zv_atom b n L iv)
def zv_sum (b : Nat → Int) (n : Int) (L : Nat → Int) : Nat → Int → Int
  | 0 => zv_list b n 43 45 zo_s (zt_term b n none) (zt_term b n none) (zv_term b n L none (fun _ => 0)) (zv_term b n L none (fun _ => 0))
  | d + 1 => zv_list b n 43 45 zo_s (zt_term b n (some (zt_sum b n d))) (zt_term b n (some (zt_sum b n d))) (zv_term b n L (some (zt_sum b n d)) (zv_sum b n L d)) (zv_term b n L (some (zt_sum b n d)) (zv_sum b n L d))
def zv_in (b : Nat → Int) (n : Int) (L : Nat → Int) : Nat → Int → Int
  | 0 => fun _ => 0
  | d + 1 => zv_sum b n L d
theorem zv_sum_eq (b : Nat → Int) (n : Int) (L : Nat → Int) (d : Nat) : zv_sum b n L d = zv_list b n 43 45 zo_s (zt_term b n (zt_in b n d)) (zt_term b n (zt_in b n d)) (zv_term b n L (zt_in b n d) (zv_in b n L d)) (zv_term b n L (zt_in b n d) (zv_in b n L d)) := by cases d <;> rfl
/-- behind the first SUM (v) of a TRUTH -/
def zv_cmp (b : Nat → Int) (n : Int) (L : Nat → Int) (d : Nat) (v a : Int) : Int := zo_c (zpk b n (znx b n a)) v (zv_sum b n L d (znx b n a + 1))
def zv_conds (b : Nat → Int) (n : Int) (u0 u : Int → Int × Int) (u0v uv : Int → Int) : Int → Int := zv_list b n 124 124 zo_o (zt_list b n 38 38 u0 u) (zt_list b n 38 38 u u) (zv_list b n 38 38 zo_a u0 u u0v uv) (zv_list b n 38 38 zo_a u u uv uv)
def zv_unit (b : Nat → Int) (n : Int) (L : Nat → Int) : Nat → Int → Int
  | 0, a => zv_cmp b n L 0 (zv_sum b n L 0 a) (zt_sum b n 0 a).2
  | d + 1, a =>
    if zpk b n (znx b n a) = 33 then 1 - zv_unit b n L d (znx b n a + 1)
    else if zpk b n (znx b n a) = 40 then zv_conds b n (zt_unit b n d) (zt_unit b n d) (zv_unit b n L d) (zv_unit b n L d) (znx b n a + 1)
    else zv_cmp b n L (d + 1) (zv_sum b n L (d + 1) a) (zt_sum b n (d + 1) a).2
/-- a CLAUSE behind its head: whether it holds, its worth -/
def zv_body (b : Nat → Int) (n : Int) (L : Nat → Int) (c : Int) : Int × Int :=
  if zpk b n (znx b n c) = 33 ∨ zpk b n (znx b n c) = 40 then
    (zv_conds b n (zt_unit b n 6) (zt_unit b n 6) (zv_unit b n L 6) (zv_unit b n L 6) c, zv_sum b n L 6 (ztk b n 63 (zt_conds b n (zt_unit b n 6) (zt_unit b n 6) c).2).2)
  else if zpk b n (znx b n (zt_sum b n 6 c).2) ≠ 61 ∧ zpk b n (znx b n (zt_sum b n 6 c).2) ≠ 60 ∧ zpk b n (znx b n (zt_sum b n 6 c).2) ≠ 62 then (1, zv_sum b n L 6 c)
  else (zv_conds b n (zt_cmp b n 6) (zt_unit b n 6) (fun a => zv_cmp b n L 6 (zv_sum b n L 6 c) a) (zv_unit b n L 6) (zt_sum b n 6 c).2, zv_sum b n L 6 (ztk b n 63 (zt_conds b n (zt_cmp b n 6) (zt_unit b n 6) (zt_sum b n 6 c).2).2).2)
/-- a CLAUSE -/
def zv_clause (b : Nat → Int) (n : Int) (L : Nat → Int) (a : Int) : Int × Int := zv_body b n L (ztk b n 58 (ztk b n 121 a).2).2
/-- the WORTH of a TASTE, from a CLAUSE on -/
def zv_from (b : Nat → Int) (n : Int) (L : Nat → Int) : Nat → Int → Int
  | 0, _ => 0
  | k + 1, a =>
    if (zv_clause b n L a).1 ≠ 0 then (zv_clause b n L a).2
    else if zpk b n (znx b n (zt_clause b n a).2) ≠ 59 then 0
    else zv_from b n L k (znx b n (zt_clause b n a).2 + 1)
def zv_taste (b : Nat → Int) (n : Int) (L : Nat → Int) : Int := zv_from b n L 241 0
