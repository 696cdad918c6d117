/-! ONE STEP over places: the next state, and what it owes -/
abbrev z_O : Type := Bool × Nat × Option Value × z_H × Option z_E
abbrev z_C : Type := Nat → List Value → z_H → Option Value → z_H → Prop
abbrev z_X : Type := Option (Nat × (Nat → Int32)) × Bool
abbrev z_N : Type := Option (z_S × Prop)
def z_b (b : Bool) (c : Prop) : Prop := match b with
  | true => c
  | false => ¬ c
def z_tgt (pc : Nat) (off : Int) : Nat := match off with
  | .ofNat n => pc + n
  | .negSucc n => pc - (n + 1)
def z_push (st : z_S) (len : Nat) (v : Value) : z_N := match st with
  | (pc, lv, sk, h) => (some ((pc + len, lv, v :: sk, h), True))
def z_ild (st : z_S) (len i : Nat) : z_N := match st with
  | (pc, lv, sk, h) => (match lv[i]? with
  | some (some (.int x)) => z_push (pc, lv, sk, h) len (.int x)
  | _ => none)
def z_lld (st : z_S) (len i : Nat) : z_N := match st with
  | (pc, lv, sk, h) => (match lv[i]? with
  | some (some (.long x)) => z_push (pc, lv, sk, h) len (.long x)
  | _ => none)
def z_ald (st : z_S) (len i : Nat) : z_N := match st with
  | (pc, lv, sk, h) => (match lv[i]? with
  | some (some (.ref x)) => z_push (pc, lv, sk, h) len (.ref x)
  | _ => none)
def z_ist (st : z_S) (len i : Nat) : z_N := match st with
  | (pc, lv, sk, h) => (match sk with
  | .int x :: r => some ((pc + len, z_set lv i (.int x), r, h), True)
  | _ => none)
def z_lst (st : z_S) (len i : Nat) : z_N := match st with
  | (pc, lv, sk, h) => (match sk with
  | .long x :: r => some ((pc + len, z_set lv i (.long x), r, h), True)
  | _ => none)
def z_ast (st : z_S) (len i : Nat) : z_N := match st with
  | (pc, lv, sk, h) => (match sk with
  | .ref x :: r => some ((pc + len, z_set lv i (.ref x), r, h), True)
  | _ => none)
def z_iinc (st : z_S) (i : Nat) (n : Int) : z_N := match st with
  | (pc, lv, sk, h) => (match lv[i]? with
  | some (some (.int x)) => some ((pc + 3, z_set lv i (.int (x + Int32.ofInt n)), sk, h), True)
  | _ => none)
def z_ii (st : z_S) (f : Int32 → Int32 → Int32) (P : Int32 → Prop) : z_N := match st with
  | (pc, lv, sk, h) => (match sk with
  | .int y :: .int x :: r => some ((pc + 1, lv, .int (f x y) :: r, h), P y)
  | _ => none)
def z_jj (st : z_S) (f : Int64 → Int64 → Int64) (P : Int64 → Prop) : z_N := match st with
  | (pc, lv, sk, h) => (match sk with
  | .long y :: .long x :: r => some ((pc + 1, lv, .long (f x y) :: r, h), P y)
  | _ => none)
def z_ji (st : z_S) (f : Int64 → Int32 → Int64) : z_N := match st with
  | (pc, lv, sk, h) => (match sk with
  | .int y :: .long x :: r => some ((pc + 1, lv, .long (f x y) :: r, h), True)
  | _ => none)
def z_i1 (st : z_S) (f : Int32 → Value) : z_N := match st with
  | (pc, lv, sk, h) => (match sk with
  | .int x :: r => some ((pc + 1, lv, f x :: r, h), True)
  | _ => none)
def z_j1 (st : z_S) (f : Int64 → Value) : z_N := match st with
  | (pc, lv, sk, h) => (match sk with
  | .long x :: r => some ((pc + 1, lv, f x :: r, h), True)
  | _ => none)
def z_lc (st : z_S) : z_N := match st with
  | (pc, lv, sk, h) => (match sk with
  | .long y :: .long x :: r => some ((pc + 1, lv, .int (lg_cmp x y) :: r, h), True)
  | _ => none)
def z_if0 (st : z_S) (b : Bool) (off : Int) (c : Int32 → Prop) : z_N := match st with
  | (pc, lv, sk, h) => (match sk with
  | .int x :: r => some ((bif b then z_tgt pc off else pc + 3, lv, r, h), z_b b (c x))
  | _ => none)
def z_if2 (st : z_S) (b : Bool) (off : Int) (c : Int32 → Int32 → Prop) : z_N := match st with
  | (pc, lv, sk, h) => (match sk with
  | .int y :: .int x :: r => some ((bif b then z_tgt pc off else pc + 3, lv, r, h), z_b b (c x y))
  | _ => none)
def z_nn (st : z_S) (off : Int) : z_N := match st with
  | (pc, lv, sk, h) => (match sk with
  | .ref _ :: r => some ((z_tgt pc off, lv, r, h), True)
  | .null :: r => some ((pc + 3, lv, r, h), True)
  | _ => none)
def z_dup (st : z_S) : z_N := match st with
  | (pc, lv, sk, h) => (match sk with
  | v :: r => bif z_c2 v then none else some ((pc + 1, lv, v :: v :: r, h), True)
  | _ => none)
def z_pop (st : z_S) : z_N := match st with
  | (pc, lv, sk, h) => (match sk with
  | v :: r => bif z_c2 v then none else some ((pc + 1, lv, r, h), True)
  | _ => none)
def z_dup2 (st : z_S) : z_N := match st with
  | (pc, lv, sk, h) => (match sk with
  | v :: w :: r => bif z_c2 v || z_c2 w then none else some ((pc + 1, lv, v :: w :: v :: w :: r, h), True)
  | _ => none)
def z_x1 (st : z_S) : z_N := match st with
  | (pc, lv, sk, h) => (match sk with
  | v :: w :: r => bif z_c2 v || z_c2 w then none else some ((pc + 1, lv, v :: w :: v :: r, h), True)
  | _ => none)
def z_byt : List (List Int32) := [[115], [114, 104, 102, 109, 116, 107, 122], [101, 98], [102, 104, 115, 107, 100, 112], [110, 111, 32, 115, 117, 99, 104, 32, 67, 76, 79, 67, 75, 44, 32, 111, 114, 32, 110, 111, 116, 104, 105, 110, 103, 32, 115, 117, 99, 104, 32, 111, 102, 32, 105, 116], [121]]
def z_sta : List (List Int32) := [[0], [5], [0, 1, 10, 40, 8, 0, 6], [0, 0, 1, 1, 1, 0, 0], [4, 9, 99, 99, 99, 3, 6], [0, 10, 20, 30, 40, 50, 60], [0, 0], [9, 1]]
def z_cell (o : z_O) (h : z_H) (i : Nat) : z_E × Prop := match o.2.2.2.2 with
  | some e => (e, h.2.2 i = e ∧ i < h.1)
  | none => (h.2.2 i, i < h.1)
/-- does the place lie among what is only read? A cell that is told says no -/
def z_rc (o : z_O) (a : Nat) : Bool := match o.2.2.2.2 with
  | some _ => false
  | none => Nat.ble z_RO a
theorem z_rct {o : z_O} {a : Nat} (h : z_rc o a = true) : Nat.ble z_RO a = true := by
  unfold z_rc at h
  split at h
  · cases h
  · exact h
/-- arrays of ints that nobody writes -/
def z_roI (X : z_X) (a : Nat) : Option (Nat × (Nat → Int32)) :=
  bif Nat.beq a (z_RO + 300) then X.1 else bif Nat.ble (z_RO + 200) a && Nat.ble a (z_RO + 207) then some ((z_sta.getD (a - (z_RO + 200)) []).length, fun j => (z_sta.getD (a - (z_RO + 200)) []).getD j 0) else none
def z_roB (a : Nat) : Option (Nat × (Nat → Int32)) :=
  bif Nat.ble (z_RO + 100) a && Nat.ble a (z_RO + 105) then some ((z_byt.getD (a - (z_RO + 100)) []).length, fun j => (z_byt.getD (a - (z_RO + 100)) []).getD j 0) else none
def z_ial (X : z_X) (o : z_O) (st : z_S) : z_N := match st with
  | (pc, lv, sk, h) => (match sk with
  | .int j :: .ref a :: r =>
    bif z_rc o a then (match z_roI X a with
      | some x => some ((pc + 1, lv, .int (x.2 j.toNatClampNeg) :: r, h), vp_in j x.1)
      | none => none)
    else (match z_cell o h a with
      | (.inl (0, n, .inl f), P) => some ((pc + 1, lv, .int (f j.toNatClampNeg) :: r, h), P ∧ vp_in j n)
      | _ => none)
  | _ => none)
def z_bal (o : z_O) (st : z_S) : z_N := match st with
  | (pc, lv, sk, h) => (match sk with
  | .int j :: .ref a :: r =>
    bif z_rc o a then (match z_roB a with
      | some x => some ((pc + 1, lv, .int (x.2 j.toNatClampNeg) :: r, h), vp_in j x.1)
      | none => none)
    else (match z_cell o h a with
      | (.inl (2, n, .inl f), P) => some ((pc + 1, lv, .int (f j.toNatClampNeg) :: r, h), P ∧ vp_in j n)
      | (.inl (3, n, .inl f), P) => some ((pc + 1, lv, .int (f j.toNatClampNeg) :: r, h), P ∧ vp_in j n)
      | _ => none)
  | _ => none)
def z_lal (o : z_O) (st : z_S) : z_N := match st with
  | (pc, lv, sk, h) => (match sk with
  | .int j :: .ref a :: r => (match z_cell o h a with
      | (.inl (1, n, .inr (.inl f)), P) => some ((pc + 1, lv, .long (f j.toNatClampNeg) :: r, h), P ∧ vp_in j n)
      | _ => none)
  | _ => none)
def z_hup (h : z_H) (a : Nat) (e : z_E) : z_H := match h with
  | (n, sl, g) => (n, sl, va_up g a e)
def z_ias (o : z_O) (st : z_S) : z_N := match st with
  | (pc, lv, sk, h) => (match sk with
  | .int x :: .int j :: .ref a :: r => (match z_cell o h a with
      | (.inl (0, n, .inl f), P) => some ((pc + 1, lv, r, z_hup h a (.inl (0, n, .inl (upd f j.toNatClampNeg x)))), P ∧ vp_in j n)
      | _ => none)
  | _ => none)
def z_bas (o : z_O) (st : z_S) : z_N := match st with
  | (pc, lv, sk, h) => (match sk with
  | .int x :: .int j :: .ref a :: r => (match z_cell o h a with
      | (.inl (2, n, .inl f), P) => some ((pc + 1, lv, r, z_hup h a (.inl (2, n, .inl (upd f j.toNatClampNeg (vp_nar .byte x))))), P ∧ vp_in j n)
      | (.inl (3, n, .inl f), P) => some ((pc + 1, lv, r, z_hup h a (.inl (3, n, .inl (upd f j.toNatClampNeg (vp_nar .boolean x))))), P ∧ vp_in j n)
      | _ => none)
  | _ => none)
def z_las (o : z_O) (st : z_S) : z_N := match st with
  | (pc, lv, sk, h) => (match sk with
  | .long x :: .int j :: .ref a :: r => (match z_cell o h a with
      | (.inl (1, n, .inr (.inl f)), P) => some ((pc + 1, lv, r, z_hup h a (.inl (1, n, .inr (.inl (vp_updL f j.toNatClampNeg x))))), P ∧ vp_in j n)
      | _ => none)
  | _ => none)
/-- a row out of an array of references: which, is told -/
def z_aal (o : z_O) (st : z_S) : z_N := match st with
  | (pc, lv, sk, h) => (match sk with
  | .int j :: .ref a :: r => (match z_cell o h a, o.2.2.1 with
      | (.inl (5, n, .inr (.inr (.inr (.inr f)))), P), some (.ref i) => some ((pc + 1, lv, .ref i :: r, h), P ∧ vp_in j n ∧ f j.toNatClampNeg = some i)
      | (.inl (4, n, .inr (.inr (.inr (.inr f)))), P), some (.ref i) => some ((pc + 1, lv, .ref i :: r, h), P ∧ vp_in j n ∧ f j.toNatClampNeg = some i)
      | _, _ => none)
  | _ => none)
def z_aas (o : z_O) (st : z_S) : z_N := match st with
  | (pc, lv, sk, h) => (match sk with
  | .ref v :: .int j :: .ref a :: r => (match z_cell o h a with
      | (.inl (4, n, .inr (.inr (.inr (.inr f)))), P) => some ((pc + 1, lv, r, z_hup h a (.inl (4, n, .inr (.inr (.inr (.inr (va_up f j.toNatClampNeg (some v)))))))), P ∧ vp_in j n ∧ v < h.1 ∧ ∃ vs, h.2.2 v = .inr (9, vs))
      | _ => none)
  | _ => none)
def z_len (X : z_X) (o : z_O) (st : z_S) : z_N := match st with
  | (pc, lv, sk, h) => (match sk with
  | .ref a :: r =>
    bif z_rc o a then (match z_roI X a, z_roB a with
      | some x, _ => some ((pc + 1, lv, .int (Int32.ofNat x.1) :: r, h), True)
      | none, some x => some ((pc + 1, lv, .int (Int32.ofNat x.1) :: r, h), True)
      | none, none => none)
    else (match z_cell o h a with
      | (.inl (_, n, _), P) => some ((pc + 1, lv, .int (Int32.ofNat n) :: r, h), P)
      | _ => none)
  | _ => none)
def z_gf (o : z_O) (f : z_I) (st : z_S) : z_N := match st with
  | (pc, lv, sk, h) => (match sk with
  | .ref a :: r =>
    bif z_rc o a then
      (bif Nat.ble a (z_RO + 5) && Nat.beq f.1 50 then
        (bif Nat.beq f.2.1 0 then some ((pc + 3, lv, .ref (a + 100) :: r, h), True) else bif Nat.beq f.2.1 1 then some ((pc + 3, lv, .int 0 :: r, h), True) else none)
      else none)
    else (match z_cell o h a with
      | (.inr (ci, fs), P) => bif Nat.beq ci f.1 && Nat.ble f.1 12 then (match fs[f.2.1]? with
          | some v => some ((pc + 3, lv, v :: r, h), P)
          | none => none) else none
      | _ => none)
  | _ => none)
def z_pf (o : z_O) (f : z_I) (st : z_S) : z_N := match st with
  | (pc, lv, sk, h) => (match sk with
  | v :: .ref a :: r => (match z_cell o h a with
      | (.inr (ci, fs), P) => bif Nat.beq ci f.1 && Nat.ble f.1 12 && Nat.ble (f.2.1 + 1) fs.length then
          some ((pc + 3, lv, r, z_hup h a (.inr (ci, fs.set f.2.1 v))), P ∧ narrow (z_cty ci f.2.1) v = v ∧ fits (z_cty ci f.2.1) v = true) else none
      | _ => none)
  | _ => none)
def z_nw (B : Nat × Nat) (f : z_I) (st : z_S) : z_N := match st with
  | (pc, lv, sk, (n, sl, g)) => (bif Nat.ble f.1 12 then
    some ((pc + 3, lv, .ref n :: sk, (n + 1, sl + (z_cls f.1).2.2, va_up g n (.inr (f.1, (List.range (z_cls f.1).2.2).map (fun j => defaultValue (z_cty f.1 j)))))), n + 1 ≤ B.1 ∧ sl + (z_cls f.1).2.2 ≤ B.2)
  else none)
def z_da (t n : Nat) : vp_A := match t with
  | 1 => (n, .inr (.inl (fun _ => 0)))
  | _ => (n, .inl (fun _ => 0))
def z_na (B : Nat × Nat) (f : z_I) (st : z_S) : z_N := match st with
  | (pc, lv, sk, (n, sl, g)) => (match sk with
  | .int c :: r => bif Nat.ble f.1 3 then
      some ((pc + 2, lv, .ref n :: r, (n + 1, sl + c.toNatClampNeg, va_up g n (.inl (f.1, z_da f.1 c.toNatClampNeg)))), (¬ c < 0 ∧ c.toNatClampNeg * 8 ≤ 536870912) ∧ n + 1 ≤ B.1 ∧ sl + c.toNatClampNeg ≤ B.2)
    else none
  | _ => none)
def z_anq (B : Nat × Nat) (st : z_S) : z_N := match st with
  | (pc, lv, sk, (n, sl, g)) => (match sk with
  | .int c :: r => some ((pc + 3, lv, .ref n :: r, (n + 1, sl + c.toNatClampNeg, va_up g n (.inl (4, c.toNatClampNeg, .inr (.inr (.inr (.inr (fun _ => none)))))))), (¬ c < 0 ∧ c.toNatClampNeg * 4 ≤ 536870912) ∧ n + 1 ≤ B.1 ∧ sl + c.toNatClampNeg ≤ B.2)
  | _ => none)
def z_rows (f : Nat → z_E) (n N K : Nat) : Nat → z_E := fun k =>
  bif Nat.ble n k then (bif Nat.beq k n then .inl (5, N, .inr (.inr (.inr (.inr (fun i => bif Nat.ble N i then none else some (n + 1 + i)))))) else bif Nat.ble k (n + N) then .inl (0, K, .inl (fun _ => 0)) else f k) else f k
def z_mna (B : Nat × Nat) (st : z_S) : z_N := match st with
  | (pc, lv, sk, (n, sl, g)) => (match sk with
  | .int k :: .int c :: r => some ((pc + 4, lv, .ref n :: r, (n + 1 + c.toNatClampNeg, sl + (c.toNatClampNeg + c.toNatClampNeg * k.toNatClampNeg), z_rows g n c.toNatClampNeg k.toNatClampNeg)), ((¬ c < 0 ∧ ¬ k < 0) ∧ c.toNatClampNeg * 4 ≤ 536870912 ∧ k.toNatClampNeg * 4 ≤ 536870912) ∧ n + 1 + c.toNatClampNeg ≤ B.1 ∧ sl + (c.toNatClampNeg + c.toNatClampNeg * k.toNatClampNeg) ≤ B.2)
  | _ => none)
def z_cs (r : List Value) : Nat := (r.map fun v => v.category).sum
/-- what a call owes, and what stands behind it -/
def z_call (C : z_C) (B : Nat × Nat) (o : z_O) (y' : Nat) (args rest : List Value) (st : z_S) (P : Prop) : z_N :=
  match st with
  | (pc, lv, _, h) => some ((pc + 3, lv, o.2.2.1.toList ++ rest, o.2.2.2.1), P ∧ C y' args h o.2.2.1 o.2.2.2.1 ∧ z_cs rest ≤ 8 ∧ h.1 ≤ o.2.2.2.1.1 ∧ h.2.1 ≤ o.2.2.2.1.2.1 ∧ o.2.2.2.1.1 ≤ B.1 ∧ o.2.2.2.1.2.1 ≤ B.2)
def z_mi (B : Nat × Nat) (st : z_S) (f : Int32 → Int32 → Int32) : z_N := match st with
  | (pc, lv, sk, h) => (match sk with
  | .int y :: .int x :: r => some ((pc + 3, lv, .int (f x y) :: r, h), z_cs r ≤ 8 ∧ h.1 ≤ B.1 ∧ h.2.1 ≤ B.2)
  | _ => none)
def z_mj (B : Nat × Nat) (st : z_S) (f : Int64 → Int64 → Int64) : z_N := match st with
  | (pc, lv, sk, h) => (match sk with
  | .long y :: .long x :: r => some ((pc + 3, lv, .long (f x y) :: r, h), z_cs r ≤ 8 ∧ h.1 ≤ B.1 ∧ h.2.1 ≤ B.2)
  | _ => none)
/-- System.arraycopy of ints: the cell that is read is told as the first of the oracle's heap -/
def z_acp (o : z_O) (st : z_S) : z_N := match st with
  | (pc, lv, sk, h) => (match sk with
  | .int n :: .int dp :: .ref a :: .int sp :: .ref b :: r => bif o.1 then
      (match z_cell o h a with
      | (.inl (0, n1, .inl g), P) => some ((pc + 3, lv, r, z_hup h a (.inl (0, n1, .inl (va_cpy (fun j => (z_sta.getD (b - (z_RO + 200)) []).getD j 0) g sp.toNatClampNeg dp.toNatClampNeg n.toNatClampNeg)))), P ∧ (z_RO + 200 ≤ b ∧ b ≤ z_RO + 207) ∧ ¬ sp < 0 ∧ ¬ dp < 0 ∧ ¬ n < 0 ∧ sp.toNatClampNeg + n.toNatClampNeg ≤ (z_sta.getD (b - (z_RO + 200)) []).length ∧ dp.toNatClampNeg + n.toNatClampNeg ≤ n1 ∧ z_cs r ≤ 8)
      | _ => none)
    else (match z_cell o h a, o.2.2.2.1.2.2 0 with
      | (.inl (0, n1, .inl g), P), .inl (0, n0, .inl f) => some ((pc + 3, lv, r, z_hup h a (.inl (0, n1, .inl (va_cpy f g sp.toNatClampNeg dp.toNatClampNeg n.toNatClampNeg)))), P ∧ (h.2.2 b = .inl (0, n0, .inl f) ∧ b < h.1) ∧ ¬ sp < 0 ∧ ¬ dp < 0 ∧ ¬ n < 0 ∧ sp.toNatClampNeg + n.toNatClampNeg ≤ n0 ∧ dp.toNatClampNeg + n.toNatClampNeg ≤ n1 ∧ z_cs r ≤ 8)
      | _, _ => none)
  | _ => none)
def z_is (C : z_C) (B : Nat × Nat) (o : z_O) (f : z_I) (st : z_S) : z_N :=
  bif Nat.beq f.1 0 then z_call C B o f.2.1 (st.2.2.1.take (z_np f.2.1)).reverse (st.2.2.1.drop (z_np f.2.1)) st (z_np f.2.1 ≤ st.2.2.1.length)
  else bif Nat.beq f.1 1 then z_call C B o f.2.1 (st.2.2.1.take (z_np f.2.1)).reverse (st.2.2.1.drop (z_np f.2.1)) st (z_np f.2.1 ≤ st.2.2.1.length)
  else bif Nat.beq f.1 20 then z_mi B st (fun x y => if x < y then y else x) else bif Nat.beq f.1 21 then z_mi B st (fun x y => if y < x then y else x)
  else bif Nat.beq f.1 22 then z_mj B st (fun x y => if y < x then x else y) else bif Nat.beq f.1 23 then z_mj B st (fun x y => if y < x then y else x) else bif Nat.beq f.1 8 then z_acp o st else none
def z_iv (C : z_C) (B : Nat × Nat) (o : z_O) (f : z_I) (st : z_S) : z_N :=
  bif Nat.beq f.1 0 then (match st.2.2.1.drop (z_np f.2.1) with
    | .ref a :: rest => bif z_rc o a then
        (bif Nat.ble a (z_RO + 5) && Nat.beq (z_mk f.2.1) 13 then z_call C B o f.2.1 (.ref a :: (st.2.2.1.take (z_np f.2.1)).reverse) rest st (z_np f.2.1 ≤ st.2.2.1.length) else none)
      else (match z_cell o st.2.2.2 a with
        | (.inr (ci, _), P) => bif Nat.beq ci (z_mk f.2.1) && Nat.ble ci 12 then z_call C B o f.2.1 (.ref a :: (st.2.2.1.take (z_np f.2.1)).reverse) rest st (P ∧ z_np f.2.1 ≤ st.2.2.1.length) else none
        | _ => none)
    | _ => none)
  else none
def z_ip0 (C : z_C) (B : Nat × Nat) (o : z_O) (f : z_I) (st : z_S) : z_N :=
  bif Nat.beq f.1 7 then (match st.2.2.1 with
    | .ref _ :: rest => (match st with
      | (pc, lv, _, h) => some ((pc + 3, lv, rest, h), z_cs rest ≤ 8))
    | _ => none)
  else bif Nat.ble f.1 1 then (match st.2.2.1.drop (z_np f.2.1) with
    | .ref a :: rest => z_call C B o f.2.1 (.ref a :: (st.2.2.1.take (z_np f.2.1)).reverse) rest st (z_np f.2.1 ≤ st.2.2.1.length ∧ o.2.2.1 = none)
    | _ => none)
  else none
def z_ldc (f : z_I) (len : Nat) (st : z_S) : z_N :=
  bif Nat.beq f.1 0 then (match z_gw f.2.2.1 f.2.2.2 with
    | some (.constant _ _ v) => z_push st len (.int v)
    | _ => none)
  else bif Nat.beq f.1 1 && Nat.ble f.2.1 5 then z_push st len (.ref (z_RO + f.2.1)) else none
def z_ldc2 (f : z_I) (st : z_S) : z_N := match st with
  | (pc, lv, sk, h) => (bif Nat.beq f.1 0 then (match z_gw f.2.2.1 f.2.2.2 with
    | some (.constantLong _ _ v) => z_push (pc, lv, sk, h) 3 (.long v)
    | _ => none) else none)
def z_gs (X : z_X) (f : z_I) (st : z_S) : z_N :=
  bif Nat.beq f.1 50 then z_push st 3 (.int 1) else bif Nat.beq f.1 51 then z_push st 3 (bif X.2 then .null else .ref (z_RO + 400))
  else bif Nat.ble f.1 7 && Nat.beq f.2.1 1 then z_push st 3 (.ref (z_RO + 200 + f.1)) else none
def z_tsw (o : z_O) (dflt lo hi : Int) (offs : Array Int) (st : z_S) : z_N := match st with
  | (pc, lv, sk, h) => (match sk with
  | .int x :: r => (match o.1 with
    | true => (match offs[o.2.1]? with
      | some off => some ((z_tgt pc off, lv, r, h), x.toInt = lo + (o.2.1 : Int) ∧ ¬ hi < x.toInt)
      | none => none)
    | false => some ((z_tgt pc dflt, lv, r, h), x.toInt < lo ∨ hi < x.toInt))
  | _ => none)
def z_lsw (o : z_O) (dflt : Int) (ps : Array (Int × Int)) (st : z_S) : z_N := match st with
  | (pc, lv, sk, h) => (match sk with
  | .int x :: r => (match (match o.1 with | true => (ps[o.2.1]?).map Prod.snd | false => some dflt) with
    | some off => some ((z_tgt pc off, lv, r, h), Op.lookupswitch.offset ps.toList dflt x.toInt = off)
    | none => none)
  | _ => none)
def z_ins (C : z_C) (X : z_X) (B : Nat × Nat) (o : z_O) (x : z_F) (st : z_S) : z_N := match x.1 with
  | .iconst n => z_push st 1 (.int (Int32.ofInt n))
  | .bipush n => z_push st 2 (.int (Int8.ofInt n).toInt32)
  | .sipush n => z_push st 3 (.int (Int16.ofInt n).toInt32)
  | .lconst n => z_push st 1 (.long (Int64.ofNat (n : Nat)))
  | .aconst_null => z_push st 1 .null
  | .iload_n k => z_ild st 1 k
  | .iload i => z_ild st 2 i
  | .lload_n k => z_lld st 1 k
  | .lload i => z_lld st 2 i
  | .aload_n k => z_ald st 1 k
  | .aload i => z_ald st 2 i
  | .istore_n k => z_ist st 1 k
  | .istore i => z_ist st 2 i
  | .lstore_n k => z_lst st 1 k
  | .lstore i => z_lst st 2 i
  | .astore_n k => z_ast st 1 k
  | .astore i => z_ast st 2 i
  | .iinc i n => z_iinc st i n
  | .iadd => z_ii st (fun x y => x + y) (fun _ => True)
  | .isub => z_ii st (fun x y => x - y) (fun _ => True)
  | .imul => z_ii st (fun x y => x * y) (fun _ => True)
  | .iand => z_ii st (fun x y => x &&& y) (fun _ => True)
  | .ior => z_ii st (fun x y => x ||| y) (fun _ => True)
  | .ixor => z_ii st (fun x y => x ^^^ y) (fun _ => True)
  | .idiv => z_ii st (fun x y => x / y) (fun y => ¬ y = 0)
  | .irem => z_ii st (fun x y => x - x / y * y) (fun y => ¬ y = 0)
  | .ishl => z_ii st (fun x y => x <<< (y &&& 31)) (fun _ => True)
  | .ishr => z_ii st (fun x y => x >>> (y &&& 31)) (fun _ => True)
  | .iushr => z_ii st (fun x y => (x.toUInt32 >>> (y.toUInt32 &&& Int32.toUInt32 31)).toInt32) (fun _ => True)
  | .ladd => z_jj st (fun x y => x + y) (fun _ => True)
  | .lsub => z_jj st (fun x y => x - y) (fun _ => True)
  | .lmul => z_jj st (fun x y => x * y) (fun _ => True)
  | .land => z_jj st (fun x y => x &&& y) (fun _ => True)
  | .lor => z_jj st (fun x y => x ||| y) (fun _ => True)
  | .ldiv => z_jj st (fun x y => x / y) (fun y => ¬ y = 0)
  | .lrem => z_jj st (fun x y => x - x / y * y) (fun y => ¬ y = 0)
  | .lushr => z_ji st (fun x y => (x.toUInt64 >>> (y.toInt64.toUInt64 &&& Int64.toUInt64 63)).toInt64)
  | .lshl => z_ji st (fun x y => x <<< (y.toInt64 &&& 63))
  | .ineg => z_i1 st (fun x => .int (-x))
  | .i2l => z_i1 st (fun x => .long x.toInt64)
  | .i2b => z_i1 st (fun x => .int x.toInt8.toInt32)
  | .i2c => z_i1 st (fun x => .int (x.toUInt32 % 65536).toInt32)
  | .l2i => z_j1 st (fun x => .int x.toInt32)
  | .lcmp => z_lc st
  | .ifCond .eq off => z_if0 st o.1 off (fun x => x = 0)
  | .ifCond .ne off => z_if0 st o.1 off (fun x => x ≠ 0)
  | .ifCond .lt off => z_if0 st o.1 off (fun x => x < 0)
  | .ifCond .ge off => z_if0 st o.1 off (fun x => 0 ≤ x)
  | .ifCond .gt off => z_if0 st o.1 off (fun x => 0 < x)
  | .ifCond .le off => z_if0 st o.1 off (fun x => x ≤ 0)
  | .if_icmp .eq off => z_if2 st o.1 off (fun x y => x = y)
  | .if_icmp .ne off => z_if2 st o.1 off (fun x y => x ≠ y)
  | .if_icmp .lt off => z_if2 st o.1 off (fun x y => x < y)
  | .if_icmp .ge off => z_if2 st o.1 off (fun x y => y ≤ x)
  | .if_icmp .gt off => z_if2 st o.1 off (fun x y => y < x)
  | .if_icmp .le off => z_if2 st o.1 off (fun x y => x ≤ y)
  | .goto off => (match st with
    | (pc, lv, sk, h) => some ((z_tgt pc off, lv, sk, h), True))
  | .ifnonnull off => z_nn st off
  | .dup => z_dup st
  | .pop => z_pop st
  | .dup2 => z_dup2 st
  | .dup_x1 => z_x1 st
  | .iaload => z_ial X o st
  | .baload => z_bal o st
  | .laload => z_lal o st
  | .aaload => z_aal o st
  | .iastore => z_ias o st
  | .aastore => z_aas o st
  | .bastore => z_bas o st
  | .lastore => z_las o st
  | .arraylength => z_len X o st
  | .getfield _ => z_gf o x.2.2 st
  | .putfield _ => z_pf o x.2.2 st
  | .new _ => z_nw B x.2.2 st
  | .newarray _ => z_na B x.2.2 st
  | .anewarray _ => z_anq B st
  | .multianewarray _ _ => z_mna B st
  | .invokestatic _ => z_is C B o x.2.2 st
  | .invokevirtual _ => z_iv C B o x.2.2 st
  | .invokespecial _ => z_ip0 C B o x.2.2 st
  | .ldc _ => z_ldc x.2.2 2 st
  | .ldc_w _ => z_ldc x.2.2 3 st
  | .ldc2_w _ => z_ldc2 x.2.2 st
  | .getstatic _ => z_gs X x.2.2 st
  | .tableswitch d lo hi offs => z_tsw o d lo hi offs st
  | .lookupswitch d ps => z_lsw o d ps st
  | _ => none
def z_step (C : z_C) (X : z_X) (B : Nat × Nat) (y : Nat) (o : z_O) (st : z_S) : z_N := match st with
  | (pc, lv, sk, h) => (match z_fetch y pc with
    | some x => z_ins C X B o x (pc, lv, sk, h)
    | none => none)
def z_path (C : z_C) (X : z_X) (B : Nat × Nat) (y : Nat) : List z_O → z_S → z_N
  | [], st => some (st, True)
  | o :: os, st => match z_step C X B y o st with
    | some (st1, P) => (match z_path C X B y os st1 with
      | some (st2, P2) => some (st2, P ∧ P2)
      | none => none)
    | none => none
/-- at a return: what comes back -/
def z_fin (y : Nat) (st : z_S) (v : Option Value) (h : z_H) : Prop := st.2.2.2 = h ∧ match z_fetch y st.1, v with
  | some (.ireturn, _), some (.int r) => st.2.2.1 = [.int r] ∧ ∃ ty, z_mr y = some ty ∧ narrow ty (.int r) = .int r
  | some (.lreturn, _), some (.long r) => st.2.2.1 = [.long r] ∧ z_mr y = some .long
  | some (.areturn, _), some (.ref i) => st.2.2.1 = [.ref i] ∧ i < h.1 ∧ z_mr y = some (.array .int)
  | some (.return_, _), none => st.2.2.1 = [] ∧ z_mr y = none
  | _, _ => False
