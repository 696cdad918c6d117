/-! what methods do over memory, by program (wip/tools/gw): X10_deeperUnit_L5, X10_unit_L4, X10_truths_L4, X10_condition_L4, X10_deeperUnit_L4, X10_unit_L3, X10_truths_L3, X10_condition_L3, X10_deeperUnit_L3, X10_unit_L2, X10_truths_L2, X10_condition_L2, X10_deeperUnit_L2, X10_unit_L1, X10_truths_L1, X10_condition_L1, X10_deeperUnit_L1, X10_unit_L0, X10_truths_L0, X10_condition_L0 -/
theorem S_X10_deeperUnit_L5 (zn : Bool) (d : Nat) {c : Nat × Nat} {mM : zM} (hN : 107 ≤ c.1) (hC : c.1 < z_RO) : ∀ (sign : Int) (m : zM) (hIm : zI c mM m) (r_sign : -2147483648 ≤ sign ∧ sign ≤ 2147483647) (ha : m 1 2 ≤ 239), zCi zn (d + 15) 118 [.ref 10, .int (Int32.ofInt sign), .int (Int32.ofInt 5)] c m (fun (r : Int) (m1 : zM) => zI c mM m1 ∧ (0 ≤ r ∧ r ≤ 1) ∧ (m1 10 2 - m1 1 2 ≤ m 10 2 - m 1 2) ∧ zN m m1) :=
  fun sign m hIm r_sign ha => S_X10_deeperUnit_G zn (d + 4) hN hC sign 5 (S_X10_unit_L5 zn (d + 2) hN hC) (S_X10_condition_L5 zn (d + 0) hN hC) m hIm r_sign (by omega) ha

theorem S_X10_unit_L4 (zn : Bool) (d : Nat) {c : Nat × Nat} {mM : zM} (hN : 107 ≤ c.1) (hC : c.1 < z_RO) : ∀ (begun : Int) (m : zM) (hIm : zI c mM m) (r_begun : -2147483648 ≤ begun ∧ begun ≤ 2147483647) (hb : 0 ≤ begun ∧ begun ≤ 1), zCi zn (d + 16) 125 [.ref 10, .int (Int32.ofInt 4), .int (Int32.ofInt begun)] c m (fun (r : Int) (m1 : zM) => zI c mM m1 ∧ (0 ≤ r ∧ r ≤ 1) ∧ (m1 10 2 - m1 1 2 ≤ m 10 2 - m 1 2) ∧ zN m m1) :=
  fun begun m hIm r_begun hb => S_X10_unit_G zn (d + 8) hN hC begun 4 (S_X10_sum_L4 zn (d + 2) hN hC) (fun _ => S_X10_deeperUnit_L5 zn (d + 0) hN hC) m hIm r_begun (by omega) hb

theorem S_X10_truths_L4 (zn : Bool) (d : Nat) {c : Nat × Nat} {mM : zM} (hN : 107 ≤ c.1) (hC : c.1 < z_RO) : ∀ (begun : Int) (m : zM) (hIm : zI c mM m) (r_begun : -2147483648 ≤ begun ∧ begun ≤ 2147483647) (hb : 0 ≤ begun ∧ begun ≤ 1), zCi zn (d + 17) 124 [.ref 10, .int (Int32.ofInt 4), .int (Int32.ofInt begun)] c m (fun (r : Int) (m1 : zM) => zI c mM m1 ∧ (0 ≤ r ∧ r ≤ 1) ∧ (m1 10 2 - m1 1 2 ≤ m 10 2 - m 1 2) ∧ zN m m1) :=
  fun begun m hIm r_begun hb => S_X10_truths_G zn (d + 8) hN hC begun 4 (S_X10_unit_L4 zn (d + 0) hN hC) m hIm r_begun (by omega) hb

theorem S_X10_condition_L4 (zn : Bool) (d : Nat) {c : Nat × Nat} {mM : zM} (hN : 107 ≤ c.1) (hC : c.1 < z_RO) : ∀ (begun : Int) (m : zM) (hIm : zI c mM m) (r_begun : -2147483648 ≤ begun ∧ begun ≤ 2147483647) (hb : 0 ≤ begun ∧ begun ≤ 1), zCi zn (d + 18) 117 [.ref 10, .int (Int32.ofInt 4), .int (Int32.ofInt begun)] c m (fun (r : Int) (m1 : zM) => zI c mM m1 ∧ (0 ≤ r ∧ r ≤ 1) ∧ (m1 10 2 - m1 1 2 ≤ m 10 2 - m 1 2) ∧ zN m m1) :=
  fun begun m hIm r_begun hb => S_X10_condition_G zn (d + 8) hN hC begun 4 (S_X10_truths_L4 zn (d + 0) hN hC) m hIm r_begun (by omega) hb

theorem S_X10_deeperUnit_L4 (zn : Bool) (d : Nat) {c : Nat × Nat} {mM : zM} (hN : 107 ≤ c.1) (hC : c.1 < z_RO) : ∀ (sign : Int) (m : zM) (hIm : zI c mM m) (r_sign : -2147483648 ≤ sign ∧ sign ≤ 2147483647) (ha : m 1 2 ≤ 239), zCi zn (d + 19) 118 [.ref 10, .int (Int32.ofInt sign), .int (Int32.ofInt 4)] c m (fun (r : Int) (m1 : zM) => zI c mM m1 ∧ (0 ≤ r ∧ r ≤ 1) ∧ (m1 10 2 - m1 1 2 ≤ m 10 2 - m 1 2) ∧ zN m m1) :=
  fun sign m hIm r_sign ha => S_X10_deeperUnit_G zn (d + 8) hN hC sign 4 (S_X10_unit_L4 zn (d + 2) hN hC) (S_X10_condition_L4 zn (d + 0) hN hC) m hIm r_sign (by omega) ha

theorem S_X10_unit_L3 (zn : Bool) (d : Nat) {c : Nat × Nat} {mM : zM} (hN : 107 ≤ c.1) (hC : c.1 < z_RO) : ∀ (begun : Int) (m : zM) (hIm : zI c mM m) (r_begun : -2147483648 ≤ begun ∧ begun ≤ 2147483647) (hb : 0 ≤ begun ∧ begun ≤ 1), zCi zn (d + 20) 125 [.ref 10, .int (Int32.ofInt 3), .int (Int32.ofInt begun)] c m (fun (r : Int) (m1 : zM) => zI c mM m1 ∧ (0 ≤ r ∧ r ≤ 1) ∧ (m1 10 2 - m1 1 2 ≤ m 10 2 - m 1 2) ∧ zN m m1) :=
  fun begun m hIm r_begun hb => S_X10_unit_G zn (d + 12) hN hC begun 3 (S_X10_sum_L3 zn (d + 3) hN hC) (fun _ => S_X10_deeperUnit_L4 zn (d + 0) hN hC) m hIm r_begun (by omega) hb

theorem S_X10_truths_L3 (zn : Bool) (d : Nat) {c : Nat × Nat} {mM : zM} (hN : 107 ≤ c.1) (hC : c.1 < z_RO) : ∀ (begun : Int) (m : zM) (hIm : zI c mM m) (r_begun : -2147483648 ≤ begun ∧ begun ≤ 2147483647) (hb : 0 ≤ begun ∧ begun ≤ 1), zCi zn (d + 21) 124 [.ref 10, .int (Int32.ofInt 3), .int (Int32.ofInt begun)] c m (fun (r : Int) (m1 : zM) => zI c mM m1 ∧ (0 ≤ r ∧ r ≤ 1) ∧ (m1 10 2 - m1 1 2 ≤ m 10 2 - m 1 2) ∧ zN m m1) :=
  fun begun m hIm r_begun hb => S_X10_truths_G zn (d + 12) hN hC begun 3 (S_X10_unit_L3 zn (d + 0) hN hC) m hIm r_begun (by omega) hb

theorem S_X10_condition_L3 (zn : Bool) (d : Nat) {c : Nat × Nat} {mM : zM} (hN : 107 ≤ c.1) (hC : c.1 < z_RO) : ∀ (begun : Int) (m : zM) (hIm : zI c mM m) (r_begun : -2147483648 ≤ begun ∧ begun ≤ 2147483647) (hb : 0 ≤ begun ∧ begun ≤ 1), zCi zn (d + 22) 117 [.ref 10, .int (Int32.ofInt 3), .int (Int32.ofInt begun)] c m (fun (r : Int) (m1 : zM) => zI c mM m1 ∧ (0 ≤ r ∧ r ≤ 1) ∧ (m1 10 2 - m1 1 2 ≤ m 10 2 - m 1 2) ∧ zN m m1) :=
  fun begun m hIm r_begun hb => S_X10_condition_G zn (d + 12) hN hC begun 3 (S_X10_truths_L3 zn (d + 0) hN hC) m hIm r_begun (by omega) hb

theorem S_X10_deeperUnit_L3 (zn : Bool) (d : Nat) {c : Nat × Nat} {mM : zM} (hN : 107 ≤ c.1) (hC : c.1 < z_RO) : ∀ (sign : Int) (m : zM) (hIm : zI c mM m) (r_sign : -2147483648 ≤ sign ∧ sign ≤ 2147483647) (ha : m 1 2 ≤ 239), zCi zn (d + 23) 118 [.ref 10, .int (Int32.ofInt sign), .int (Int32.ofInt 3)] c m (fun (r : Int) (m1 : zM) => zI c mM m1 ∧ (0 ≤ r ∧ r ≤ 1) ∧ (m1 10 2 - m1 1 2 ≤ m 10 2 - m 1 2) ∧ zN m m1) :=
  fun sign m hIm r_sign ha => S_X10_deeperUnit_G zn (d + 12) hN hC sign 3 (S_X10_unit_L3 zn (d + 2) hN hC) (S_X10_condition_L3 zn (d + 0) hN hC) m hIm r_sign (by omega) ha

theorem S_X10_unit_L2 (zn : Bool) (d : Nat) {c : Nat × Nat} {mM : zM} (hN : 107 ≤ c.1) (hC : c.1 < z_RO) : ∀ (begun : Int) (m : zM) (hIm : zI c mM m) (r_begun : -2147483648 ≤ begun ∧ begun ≤ 2147483647) (hb : 0 ≤ begun ∧ begun ≤ 1), zCi zn (d + 24) 125 [.ref 10, .int (Int32.ofInt 2), .int (Int32.ofInt begun)] c m (fun (r : Int) (m1 : zM) => zI c mM m1 ∧ (0 ≤ r ∧ r ≤ 1) ∧ (m1 10 2 - m1 1 2 ≤ m 10 2 - m 1 2) ∧ zN m m1) :=
  fun begun m hIm r_begun hb => S_X10_unit_G zn (d + 16) hN hC begun 2 (S_X10_sum_L2 zn (d + 4) hN hC) (fun _ => S_X10_deeperUnit_L3 zn (d + 0) hN hC) m hIm r_begun (by omega) hb

theorem S_X10_truths_L2 (zn : Bool) (d : Nat) {c : Nat × Nat} {mM : zM} (hN : 107 ≤ c.1) (hC : c.1 < z_RO) : ∀ (begun : Int) (m : zM) (hIm : zI c mM m) (r_begun : -2147483648 ≤ begun ∧ begun ≤ 2147483647) (hb : 0 ≤ begun ∧ begun ≤ 1), zCi zn (d + 25) 124 [.ref 10, .int (Int32.ofInt 2), .int (Int32.ofInt begun)] c m (fun (r : Int) (m1 : zM) => zI c mM m1 ∧ (0 ≤ r ∧ r ≤ 1) ∧ (m1 10 2 - m1 1 2 ≤ m 10 2 - m 1 2) ∧ zN m m1) :=
  fun begun m hIm r_begun hb => S_X10_truths_G zn (d + 16) hN hC begun 2 (S_X10_unit_L2 zn (d + 0) hN hC) m hIm r_begun (by omega) hb

theorem S_X10_condition_L2 (zn : Bool) (d : Nat) {c : Nat × Nat} {mM : zM} (hN : 107 ≤ c.1) (hC : c.1 < z_RO) : ∀ (begun : Int) (m : zM) (hIm : zI c mM m) (r_begun : -2147483648 ≤ begun ∧ begun ≤ 2147483647) (hb : 0 ≤ begun ∧ begun ≤ 1), zCi zn (d + 26) 117 [.ref 10, .int (Int32.ofInt 2), .int (Int32.ofInt begun)] c m (fun (r : Int) (m1 : zM) => zI c mM m1 ∧ (0 ≤ r ∧ r ≤ 1) ∧ (m1 10 2 - m1 1 2 ≤ m 10 2 - m 1 2) ∧ zN m m1) :=
  fun begun m hIm r_begun hb => S_X10_condition_G zn (d + 16) hN hC begun 2 (S_X10_truths_L2 zn (d + 0) hN hC) m hIm r_begun (by omega) hb

theorem S_X10_deeperUnit_L2 (zn : Bool) (d : Nat) {c : Nat × Nat} {mM : zM} (hN : 107 ≤ c.1) (hC : c.1 < z_RO) : ∀ (sign : Int) (m : zM) (hIm : zI c mM m) (r_sign : -2147483648 ≤ sign ∧ sign ≤ 2147483647) (ha : m 1 2 ≤ 239), zCi zn (d + 27) 118 [.ref 10, .int (Int32.ofInt sign), .int (Int32.ofInt 2)] c m (fun (r : Int) (m1 : zM) => zI c mM m1 ∧ (0 ≤ r ∧ r ≤ 1) ∧ (m1 10 2 - m1 1 2 ≤ m 10 2 - m 1 2) ∧ zN m m1) :=
  fun sign m hIm r_sign ha => S_X10_deeperUnit_G zn (d + 16) hN hC sign 2 (S_X10_unit_L2 zn (d + 2) hN hC) (S_X10_condition_L2 zn (d + 0) hN hC) m hIm r_sign (by omega) ha

theorem S_X10_unit_L1 (zn : Bool) (d : Nat) {c : Nat × Nat} {mM : zM} (hN : 107 ≤ c.1) (hC : c.1 < z_RO) : ∀ (begun : Int) (m : zM) (hIm : zI c mM m) (r_begun : -2147483648 ≤ begun ∧ begun ≤ 2147483647) (hb : 0 ≤ begun ∧ begun ≤ 1), zCi zn (d + 28) 125 [.ref 10, .int (Int32.ofInt 1), .int (Int32.ofInt begun)] c m (fun (r : Int) (m1 : zM) => zI c mM m1 ∧ (0 ≤ r ∧ r ≤ 1) ∧ (m1 10 2 - m1 1 2 ≤ m 10 2 - m 1 2) ∧ zN m m1) :=
  fun begun m hIm r_begun hb => S_X10_unit_G zn (d + 20) hN hC begun 1 (S_X10_sum_L1 zn (d + 5) hN hC) (fun _ => S_X10_deeperUnit_L2 zn (d + 0) hN hC) m hIm r_begun (by omega) hb

theorem S_X10_truths_L1 (zn : Bool) (d : Nat) {c : Nat × Nat} {mM : zM} (hN : 107 ≤ c.1) (hC : c.1 < z_RO) : ∀ (begun : Int) (m : zM) (hIm : zI c mM m) (r_begun : -2147483648 ≤ begun ∧ begun ≤ 2147483647) (hb : 0 ≤ begun ∧ begun ≤ 1), zCi zn (d + 29) 124 [.ref 10, .int (Int32.ofInt 1), .int (Int32.ofInt begun)] c m (fun (r : Int) (m1 : zM) => zI c mM m1 ∧ (0 ≤ r ∧ r ≤ 1) ∧ (m1 10 2 - m1 1 2 ≤ m 10 2 - m 1 2) ∧ zN m m1) :=
  fun begun m hIm r_begun hb => S_X10_truths_G zn (d + 20) hN hC begun 1 (S_X10_unit_L1 zn (d + 0) hN hC) m hIm r_begun (by omega) hb

theorem S_X10_condition_L1 (zn : Bool) (d : Nat) {c : Nat × Nat} {mM : zM} (hN : 107 ≤ c.1) (hC : c.1 < z_RO) : ∀ (begun : Int) (m : zM) (hIm : zI c mM m) (r_begun : -2147483648 ≤ begun ∧ begun ≤ 2147483647) (hb : 0 ≤ begun ∧ begun ≤ 1), zCi zn (d + 30) 117 [.ref 10, .int (Int32.ofInt 1), .int (Int32.ofInt begun)] c m (fun (r : Int) (m1 : zM) => zI c mM m1 ∧ (0 ≤ r ∧ r ≤ 1) ∧ (m1 10 2 - m1 1 2 ≤ m 10 2 - m 1 2) ∧ zN m m1) :=
  fun begun m hIm r_begun hb => S_X10_condition_G zn (d + 20) hN hC begun 1 (S_X10_truths_L1 zn (d + 0) hN hC) m hIm r_begun (by omega) hb

theorem S_X10_deeperUnit_L1 (zn : Bool) (d : Nat) {c : Nat × Nat} {mM : zM} (hN : 107 ≤ c.1) (hC : c.1 < z_RO) : ∀ (sign : Int) (m : zM) (hIm : zI c mM m) (r_sign : -2147483648 ≤ sign ∧ sign ≤ 2147483647) (ha : m 1 2 ≤ 239), zCi zn (d + 31) 118 [.ref 10, .int (Int32.ofInt sign), .int (Int32.ofInt 1)] c m (fun (r : Int) (m1 : zM) => zI c mM m1 ∧ (0 ≤ r ∧ r ≤ 1) ∧ (m1 10 2 - m1 1 2 ≤ m 10 2 - m 1 2) ∧ zN m m1) :=
  fun sign m hIm r_sign ha => S_X10_deeperUnit_G zn (d + 20) hN hC sign 1 (S_X10_unit_L1 zn (d + 2) hN hC) (S_X10_condition_L1 zn (d + 0) hN hC) m hIm r_sign (by omega) ha

theorem S_X10_unit_L0 (zn : Bool) (d : Nat) {c : Nat × Nat} {mM : zM} (hN : 107 ≤ c.1) (hC : c.1 < z_RO) : ∀ (begun : Int) (m : zM) (hIm : zI c mM m) (r_begun : -2147483648 ≤ begun ∧ begun ≤ 2147483647) (hb : 0 ≤ begun ∧ begun ≤ 1), zCi zn (d + 32) 125 [.ref 10, .int (Int32.ofInt 0), .int (Int32.ofInt begun)] c m (fun (r : Int) (m1 : zM) => zI c mM m1 ∧ (0 ≤ r ∧ r ≤ 1) ∧ (m1 10 2 - m1 1 2 ≤ m 10 2 - m 1 2) ∧ zN m m1) :=
  fun begun m hIm r_begun hb => S_X10_unit_G zn (d + 24) hN hC begun 0 (S_X10_sum_L0 zn (d + 6) hN hC) (fun _ => S_X10_deeperUnit_L1 zn (d + 0) hN hC) m hIm r_begun (by omega) hb

theorem S_X10_truths_L0 (zn : Bool) (d : Nat) {c : Nat × Nat} {mM : zM} (hN : 107 ≤ c.1) (hC : c.1 < z_RO) : ∀ (begun : Int) (m : zM) (hIm : zI c mM m) (r_begun : -2147483648 ≤ begun ∧ begun ≤ 2147483647) (hb : 0 ≤ begun ∧ begun ≤ 1), zCi zn (d + 33) 124 [.ref 10, .int (Int32.ofInt 0), .int (Int32.ofInt begun)] c m (fun (r : Int) (m1 : zM) => zI c mM m1 ∧ (0 ≤ r ∧ r ≤ 1) ∧ (m1 10 2 - m1 1 2 ≤ m 10 2 - m 1 2) ∧ zN m m1) :=
  fun begun m hIm r_begun hb => S_X10_truths_G zn (d + 24) hN hC begun 0 (S_X10_unit_L0 zn (d + 0) hN hC) m hIm r_begun (by omega) hb

theorem S_X10_condition_L0 (zn : Bool) (d : Nat) {c : Nat × Nat} {mM : zM} (hN : 107 ≤ c.1) (hC : c.1 < z_RO) : ∀ (begun : Int) (m : zM) (hIm : zI c mM m) (r_begun : -2147483648 ≤ begun ∧ begun ≤ 2147483647) (hb : 0 ≤ begun ∧ begun ≤ 1), zCi zn (d + 34) 117 [.ref 10, .int (Int32.ofInt 0), .int (Int32.ofInt begun)] c m (fun (r : Int) (m1 : zM) => zI c mM m1 ∧ (0 ≤ r ∧ r ≤ 1) ∧ (m1 10 2 - m1 1 2 ≤ m 10 2 - m 1 2) ∧ zN m m1) :=
  fun begun m hIm r_begun hb => S_X10_condition_G zn (d + 24) hN hC begun 0 (S_X10_truths_L0 zn (d + 0) hN hC) m hIm r_begun (by omega) hb

