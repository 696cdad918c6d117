/-! FEED. First: bits, out of kit/laws/BITS.to-paste -/
def bt (x : Int32) (i : Nat) : Bool := x.toBitVec.getLsbD i
theorem b_ext {x y : Int32} (h : ∀ i, i < 32 → bt x i = bt y i) : x = y := Int32.toBitVec_inj.mp (BitVec.eq_of_getLsbD_eq (fun i hi => h i hi))
theorem b_or (x y : Int32) (i : Nat) : bt (x ||| y) i = (bt x i || bt y i) := by unfold bt; rw [Int32.toBitVec_or, BitVec.getLsbD_or]
theorem b_and (x y : Int32) (i : Nat) : bt (x &&& y) i = (bt x i && bt y i) := by unfold bt; rw [Int32.toBitVec_and, BitVec.getLsbD_and]
theorem b_xor (x y : Int32) (i : Nat) : bt (x ^^^ y) i = (bt x i ^^ bt y i) := by unfold bt; rw [Int32.toBitVec_xor, BitVec.getLsbD_xor]
theorem b_big {x : Int32} {i : Nat} (h : 32 ≤ i) : bt x i = false := BitVec.getLsbD_of_ge _ _ h
theorem b_255 (i : Nat) : bt 255 i = decide (i < 8) := by
  rcases Nat.lt_or_ge i 32 with h | h
  · exact (by decide +kernel : ∀ i, i < 32 → bt 255 i = decide (i < 8)) i h
  · rw [b_big h, decide_eq_false (by omega)]
theorem b_65535 (i : Nat) : bt 65535 i = decide (i < 16) := by
  rcases Nat.lt_or_ge i 32 with h | h
  · exact (by decide +kernel : ∀ i, i < 32 → bt 65535 i = decide (i < 16)) i h
  · rw [b_big h, decide_eq_false (by omega)]
theorem b_m1 : ∀ i, i < 32 → bt (-1) i = true := by decide +kernel
theorem b_0 (i : Nat) : bt 0 i = false := BitVec.getLsbD_zero
theorem s_l : ∀ n, n < 32 → ((nI n &&& 31).toBitVec.smod 32).toNat = n := by decide +kernel
theorem s_u : ∀ n, n < 32 → (((nI n).toUInt32 &&& Int32.toUInt32 31).toBitVec % 32).toNat = n := by decide +kernel
theorem b_ushr (n : Nat) (hn : n < 32) (x : Int32) (i : Nat) : bt ((x.toUInt32 >>> ((nI n).toUInt32 &&& Int32.toUInt32 31)).toInt32) i = bt x (n + i) := by
  show (x.toUInt32 >>> ((nI n).toUInt32 &&& Int32.toUInt32 31)).toBitVec.getLsbD i = x.toUInt32.toBitVec.getLsbD (n + i)
  rw [UInt32.toBitVec_shiftRight]
  show (x.toUInt32.toBitVec >>> (((nI n).toUInt32 &&& Int32.toUInt32 31).toBitVec % 32).toNat).getLsbD i = _
  rw [s_u n hn, BitVec.getLsbD_ushiftRight]
theorem b_sshr (n : Nat) (hn : n < 32) (x : Int32) {i : Nat} (hi : i < 32) : bt (x >>> (nI n &&& 31)) i = if n + i < 32 then bt x (n + i) else bt x 31 := by
  unfold bt
  rw [Int32.toBitVec_shiftRight]
  show (x.toBitVec.sshiftRight ((nI n &&& 31).toBitVec.smod 32).toNat).getLsbD i = _
  rw [s_l n hn, BitVec.getLsbD_sshiftRight, BitVec.msb_eq_getLsbD_last]
  simp [hi]

/-- byte of x at shift n: as >>> and as >> tell it -/
def zbu (x s : Int32) : Int32 := (x.toUInt32 >>> (s.toUInt32 &&& Int32.toUInt32 31)).toInt32 &&& (Int16.ofInt 255).toInt32
def zbs (x s : Int32) : Int32 := (x >>> (s &&& 31)) &&& (Int16.ofInt 255).toInt32
theorem zb_same (x : Int32) (n : Nat) (hn : n ≤ 24) : zbu x (nI n) = zbs x (nI n) := by
  apply b_ext
  intro i hi
  unfold zbu zbs
  rw [b_and, b_and, show (Int16.ofInt 255).toInt32 = 255 by decide, b_255, b_ushr n (by omega), b_sshr n (by omega) x hi]
  by_cases h : i < 8
  · rw [if_pos (by omega)]
  · rw [decide_eq_false h, Bool.and_false, Bool.and_false]
def zc1 (x s : Int32) : Nat := if zbu x s = 0 then 0 else 1
def zs0 : Int32 := (Int8.ofInt 24).toInt32
def zs1 : Int32 := zs0 + Int32.ofInt (-8)
def zs2 : Int32 := zs1 + Int32.ofInt (-8)
def zs3 : Int32 := zs2 + Int32.ofInt (-8)
def zs4 : Int32 := zs3 + Int32.ofInt (-8)
theorem zs_same (x s : Int32) (h : s = zs0 ∨ s = zs1 ∨ s = zs2 ∨ s = zs3) : zbu x s = zbs x s := by
  rcases h with rfl | rfl | rfl | rfl
  · exact zb_same x 24 (by omega)
  · exact (show zs1 = nI 16 by decide) ▸ zb_same x 16 (by omega)
  · exact (show zs2 = nI 8 by decide) ▸ zb_same x 8 (by omega)
  · exact (show zs3 = nI 0 by decide) ▸ zb_same x 0 (by omega)
def zc4 (x : Int32) : Nat := zc1 x zs0 + zc1 x zs1 + zc1 x zs2 + zc1 x zs3
theorem zc1_le (x s : Int32) : zc1 x s ≤ 1 := by unfold zc1; split <;> omega
theorem zc4_le (x : Int32) : zc4 x ≤ 4 := by
  have := zc1_le x zs0; have := zc1_le x zs1; have := zc1_le x zs2; have := zc1_le x zs3
  unfold zc4; omega
theorem zs_pos : ¬ zs0 < 0 ∧ ¬ zs1 < 0 ∧ ¬ zs2 < 0 ∧ ¬ zs3 < 0 ∧ zs4 < 0 := by decide
section ZF
variable {C : z_C} {X : z_X} {B : Nat × Nat}
set_option maxRecDepth 100000 in
set_option maxHeartbeats 4000000 in
theorem zsi_it {x s : Int32} {k : Nat} {h : z_H} (hs : ¬ s < 0) : z_reach C X B 110 (5, [some (.int x), some (.int (nI k)), some (.int s)], [], h) (5, [some (.int x), some (.int (nI (k + zc1 x s))), some (.int (s + Int32.ofInt (-8)))], [], h) := by
  by_cases hz : zbu x s = 0
  · have e : nI (k + zc1 x s) = nI k + Int32.ofInt 0 := by unfold zc1; rw [if_pos hz]; rw [show Int32.ofInt 0 = 0 by decide, Int32.add_zero]; rfl
    rw [e]
    refine ⟨[zo, zo, zo, zo, zo, zo, zo, zo, zo, zo, zo, zo, zo, zo, zo], _, rfl, ?_⟩
    exact ⟨trivial, hs, trivial, trivial, trivial, trivial, trivial, trivial, fun q => q hz, trivial, trivial, trivial, trivial, trivial, trivial, trivial⟩
  · have e : nI (k + zc1 x s) = nI k + Int32.ofInt 1 := by unfold zc1; rw [if_neg hz, show Int32.ofInt 1 = 1 by decide]; exact (nI_1 k).symm
    rw [e]
    refine ⟨[zo, zo, zo, zo, zo, zo, zo, zo, zt, zo, zo, zo, zo, zo], _, rfl, ?_⟩
    exact ⟨trivial, hs, trivial, trivial, trivial, trivial, trivial, trivial, hz, trivial, trivial, trivial, trivial, trivial, trivial⟩
set_option maxRecDepth 100000 in
set_option maxHeartbeats 4000000 in
theorem zbi_it {x s : Int32} {k : Nat} {h : z_H} (hs : ¬ s < 0) (hb : zbu x s = zbs x s) : z_reach C X B 192 (5, [some (.int x), some (.int (nI k)), some (.int s)], [], h) (5, [some (.int x), some (.int (nI (k + zc1 x s))), some (.int (s + Int32.ofInt (-8)))], [], h) := by
  by_cases hz : zbu x s = 0
  · have e : nI (k + zc1 x s) = nI k + Int32.ofInt 0 := by unfold zc1; rw [if_pos hz]; rw [show Int32.ofInt 0 = 0 by decide, Int32.add_zero]; rfl
    rw [e]
    rw [hb] at hz
    refine ⟨[zo, zo, zo, zo, zo, zo, zo, zo, zt, zo, zo, zo, zo, zo], _, rfl, ?_⟩
    exact ⟨trivial, hs, trivial, trivial, trivial, trivial, trivial, trivial, hz, trivial, trivial, trivial, trivial, trivial, trivial⟩
  · have e : nI (k + zc1 x s) = nI k + Int32.ofInt 1 := by unfold zc1; rw [if_neg hz, show Int32.ofInt 1 = 1 by decide]; exact (nI_1 k).symm
    rw [e]
    rw [hb] at hz
    refine ⟨[zo, zo, zo, zo, zo, zo, zo, zo, zo, zo, zo, zo, zo, zo, zo], _, rfl, ?_⟩
    exact ⟨trivial, hs, trivial, trivial, trivial, trivial, trivial, trivial, hz, trivial, trivial, trivial, trivial, trivial, trivial, trivial⟩
theorem zsi_4 {x : Int32} {h : z_H} : z_reach C X B 110 (5, [some (.int x), some (.int (nI 0)), some (.int zs0)], [], h) (5, [some (.int x), some (.int (nI (zc4 x))), some (.int zs4)], [], h) := by
  have r1 := zsi_it (C := C) (X := X) (B := B) (x := x) (s := zs0) (k := 0) (h := h) zs_pos.1
  have r2 := zsi_it (C := C) (X := X) (B := B) (x := x) (s := zs1) (k := 0 + zc1 x zs0) (h := h) zs_pos.2.1
  have r3 := zsi_it (C := C) (X := X) (B := B) (x := x) (s := zs2) (k := 0 + zc1 x zs0 + zc1 x zs1) (h := h) zs_pos.2.2.1
  have r4 := zsi_it (C := C) (X := X) (B := B) (x := x) (s := zs3) (k := 0 + zc1 x zs0 + zc1 x zs1 + zc1 x zs2) (h := h) zs_pos.2.2.2.1
  have e : 0 + zc1 x zs0 + zc1 x zs1 + zc1 x zs2 + zc1 x zs3 = zc4 x := by unfold zc4; omega
  rw [e] at r4
  exact r1.trans (r2.trans (r3.trans r4))
theorem zbi_4 {x : Int32} {h : z_H} : z_reach C X B 192 (5, [some (.int x), some (.int (nI 0)), some (.int zs0)], [], h) (5, [some (.int x), some (.int (nI (zc4 x))), some (.int zs4)], [], h) := by
  have r1 := zbi_it (C := C) (X := X) (B := B) (x := x) (s := zs0) (k := 0) (h := h) zs_pos.1 (zs_same x _ (Or.inl rfl))
  have r2 := zbi_it (C := C) (X := X) (B := B) (x := x) (s := zs1) (k := 0 + zc1 x zs0) (h := h) zs_pos.2.1 (zs_same x _ (Or.inr (Or.inl rfl)))
  have r3 := zbi_it (C := C) (X := X) (B := B) (x := x) (s := zs2) (k := 0 + zc1 x zs0 + zc1 x zs1) (h := h) zs_pos.2.2.1 (zs_same x _ (Or.inr (Or.inr (Or.inl rfl))))
  have r4 := zbi_it (C := C) (X := X) (B := B) (x := x) (s := zs3) (k := 0 + zc1 x zs0 + zc1 x zs1 + zc1 x zs2) (h := h) zs_pos.2.2.2.1 (zs_same x _ (Or.inr (Or.inr (Or.inr rfl))))
  have e : 0 + zc1 x zs0 + zc1 x zs1 + zc1 x zs2 + zc1 x zs3 = zc4 x := by unfold zc4; omega
  rw [e] at r4
  exact r1.trans (r2.trans (r3.trans r4))
end ZF
set_option maxRecDepth 100000 in
set_option maxHeartbeats 4000000 in
theorem zsi_sem (zn : Bool) (d : Nat) (x : Int32) (h : z_H) (hR : h.1 < z_RO) : z_sem zn (d + 1) 110 [.int x] h (some (.int (nI (zc4 x)))) h := by
  refine z_sem_of (st := (34, [some (.int x), some (.int (nI (zc4 x))), some (.int zs4)], [.int (nI (zc4 x))], h)) zu_X8_signsIn hR (Nat.le_of_ble_eq_true rfl) ?_ (zfin_i rfl rfl rfl)
  refine z_reach.trans (st1 := (5, [some (.int x), some (.int (nI 0)), some (.int zs0)], [], h)) ?_ (zsi_4.trans ?_)
  · rw [show nI 0 = Int32.ofInt 0 by decide]
    refine ⟨[zo, zo, zo, zo], _, rfl, ?_⟩
    exact ⟨trivial, trivial, trivial, trivial, trivial⟩
  · refine ⟨[zo, zt, zo], _, rfl, ?_⟩
    exact ⟨trivial, zs_pos.2.2.2.2, trivial, trivial⟩
set_option maxRecDepth 100000 in
set_option maxHeartbeats 4000000 in
theorem zbi_sem (zn : Bool) (d : Nat) (x : Int32) (h : z_H) (hR : h.1 < z_RO) : z_sem zn (d + 1) 192 [.int x] h (some (.int (nI (zc4 x)))) h := by
  refine z_sem_of (st := (34, [some (.int x), some (.int (nI (zc4 x))), some (.int zs4)], [.int (nI (zc4 x))], h)) zu_X12_bytesIn hR (Nat.le_of_ble_eq_true rfl) ?_ (zfin_i rfl rfl rfl)
  refine z_reach.trans (st1 := (5, [some (.int x), some (.int (nI 0)), some (.int zs0)], [], h)) ?_ (zbi_4.trans ?_)
  · rw [show nI 0 = Int32.ofInt 0 by decide]
    refine ⟨[zo, zo, zo, zo], _, rfl, ?_⟩
    exact ⟨trivial, trivial, trivial, trivial, trivial⟩
  · refine ⟨[zo, zt, zo], _, rfl, ?_⟩
    exact ⟨trivial, zs_pos.2.2.2.2, trivial, trivial⟩
theorem va_sw {α : Type} (g : Nat → α) {a b : Nat} (h : a ≠ b) (x y z : α) : va_up (va_up (va_up g a x) b y) a z = va_up (va_up g a z) b y := by
  funext j
  unfold va_up
  by_cases h1 : j = a
  · subst h1; simp [h]
  · by_cases h2 : j = b
    · subst h2; simp [Ne.symm h]
    · simp [h1, h2]
theorem va_id {α : Type} (g : Nat → α) (a : Nat) (x : α) (h : g a = x) : va_up g a x = g := by
  funext j
  unfold va_up
  by_cases h1 : j = a
  · subst h1; simp [h]
  · simp [h1]
/-- the TAPE of L bytes f, its object at t, its row at q -/
def zA (N sl t q : Nat) (g : Nat → z_E) (A1 A2 : Value) (L : Nat) (f : Nat → Int32) : z_H := (N, sl, va_up (va_up g q (.inl (0, 240, .inl f))) t (.inr (8, [.ref q, .int (nI L), A1, A2])))
section ZG
variable {C : z_C} {X : z_X} {B : Nat × Nat} {N sl t q : Nat} {g : Nat → z_E} {A1 A2 : Value}
set_option maxRecDepth 100000 in
set_option maxHeartbeats 4000000 in
theorem zap_it {x s : Int32} {L : Nat} {f : Nat → Int32} {w : Option Value} (ht : t < N) (hq : q < N) (htq : q ≠ t) (hL : L < 240) (hs : ¬ s < 0) : ∃ f', z_reach C X B 105 (3, [some (.ref t), some (.int x), some (.int s), w], [], zA N sl t q g A1 A2 L f) (3, [some (.ref t), some (.int x), some (.int (s + Int32.ofInt (-8))), some (.int (zbu x s))], [], zA N sl t q g A1 A2 (L + zc1 x s) f') := by
  by_cases hz : zbu x s = 0
  · refine ⟨f, ?_⟩
    have e : L + zc1 x s = L := by unfold zc1; rw [if_pos hz]; rfl
    rw [e]
    refine ⟨[zo, zo, zo, zo, zo, zo, zo, zo, zo, zt, zo, zo], _, rfl, ?_⟩
    exact ⟨trivial, hs, trivial, trivial, trivial, trivial, trivial, trivial, trivial, hz, trivial, trivial, trivial⟩
  · refine ⟨upd f (nI L).toNatClampNeg (zbu x s), ?_⟩
    have e : L + zc1 x s = L + 1 := by unfold zc1; rw [if_neg hz]
    have eh : zA N sl t q g A1 A2 (L + 1) (upd f (nI L).toNatClampNeg (zbu x s)) = (N, sl, va_up (va_up (va_up (va_up g q (.inl (0, 240, .inl f))) t (.inr (8, [.ref q, .int (nI L), A1, A2]))) q (.inl (0, 240, .inl (upd f (nI L).toNatClampNeg (zbu x s))))) t (.inr (8, [.ref q, .int (nI L + Int32.ofInt 1), A1, A2]))) := by
      unfold zA
      rw [va_sw _ htq]
      simp only [va_up_up]
      rw [show nI L + Int32.ofInt 1 = nI (L + 1) from nI_1 L]
    rw [e, eh]
    have hlt : ¬ (Int16.ofInt 240).toInt32 ≤ nI L := by rw [show (Int16.ofInt 240).toInt32 = nI 240 by decide]; exact nI_ge hL (by omega)
    have c1 : ∀ z : z_E, va_up (va_up g q z) t (.inr (8, [.ref q, .int (nI L), A1, A2])) t = .inr (8, [.ref q, .int (nI L), A1, A2]) := fun z => by simp [va_up]
    have c2 : va_up (va_up g q (.inl (0, 240, .inl f))) t (.inr (8, [.ref q, .int (nI L), A1, A2])) q = .inl (0, 240, .inl f) := by simp [va_up, htq]
    have c3 : ∀ z : z_E, va_up (va_up (va_up g q (.inl (0, 240, .inl f))) t (.inr (8, [.ref q, .int (nI L), A1, A2]))) q z t = .inr (8, [.ref q, .int (nI L), A1, A2]) := fun z => by simp [va_up, Ne.symm htq]
    refine ⟨[zo, zo, zo, zo, zo, zo, zo, zo, zo, zo, zo, (false, 0, none, zh0, some (.inr (8, [.ref q, .int (nI L), A1, A2]))), zo, zo, zo, (false, 0, none, zh0, some (.inr (8, [.ref q, .int (nI L), A1, A2]))), zo, (false, 0, none, zh0, some (.inr (8, [.ref q, .int (nI L), A1, A2]))), zo, (false, 0, none, zh0, some (.inl (0, 240, .inl f))), zo, zo, (false, 0, none, zh0, some (.inr (8, [.ref q, .int (nI L), A1, A2]))), zo, zo, (false, 0, none, zh0, some (.inr (8, [.ref q, .int (nI L), A1, A2]))), zo, zo], _, rfl, ?_⟩
    exact ⟨trivial, hs, trivial, trivial, trivial, trivial, trivial, trivial, trivial, hz, trivial, ⟨c1 _, ht⟩, trivial, hlt, trivial, ⟨c1 _, ht⟩, trivial, ⟨c1 _, ht⟩, trivial, ⟨⟨c2, hq⟩, vp_in_nI hL (by omega)⟩, trivial, trivial, ⟨c3 _, ht⟩, trivial, trivial, ⟨⟨c3 _, ht⟩, rfl, rfl⟩, trivial, trivial, trivial⟩
end ZG
set_option maxRecDepth 100000 in
set_option maxHeartbeats 4000000 in
theorem zap_sem (zn : Bool) (d : Nat) (x : Int32) {N sl t q : Nat} {g : Nat → z_E} {A1 A2 : Value} {L : Nat} {f : Nat → Int32} (ht : t < N) (hq : q < N) (htq : q ≠ t) (hL : L + 4 ≤ 240) (hR : N < z_RO) : ∃ f', z_sem zn (d + 1) 105 [.ref t, .int x] (zA N sl t q g A1 A2 L f) none (zA N sl t q g A1 A2 (L + zc4 x) f') := by
  have b0 := zc1_le x zs0; have b1 := zc1_le x zs1; have b2 := zc1_le x zs2; have b3 := zc1_le x zs3
  obtain ⟨f1, r1⟩ := zap_it (C := z_sem zn d) (X := (none, zn)) (B := (N, sl)) (sl := sl) (g := g) (A1 := A1) (A2 := A2) (x := x) (s := zs0) (L := L) (f := f) (w := none) ht hq htq (by omega) zs_pos.1
  obtain ⟨f2, r2⟩ := zap_it (C := z_sem zn d) (X := (none, zn)) (B := (N, sl)) (sl := sl) (g := g) (A1 := A1) (A2 := A2) (x := x) (s := zs1) (L := L + zc1 x zs0) (f := f1) (w := some (.int (zbu x zs0))) ht hq htq (by omega) zs_pos.2.1
  obtain ⟨f3, r3⟩ := zap_it (C := z_sem zn d) (X := (none, zn)) (B := (N, sl)) (sl := sl) (g := g) (A1 := A1) (A2 := A2) (x := x) (s := zs2) (L := L + zc1 x zs0 + zc1 x zs1) (f := f2) (w := some (.int (zbu x zs1))) ht hq htq (by omega) zs_pos.2.2.1
  obtain ⟨f4, r4⟩ := zap_it (C := z_sem zn d) (X := (none, zn)) (B := (N, sl)) (sl := sl) (g := g) (A1 := A1) (A2 := A2) (x := x) (s := zs3) (L := L + zc1 x zs0 + zc1 x zs1 + zc1 x zs2) (f := f3) (w := some (.int (zbu x zs2))) ht hq htq (by omega) zs_pos.2.2.2.1
  have e : L + zc1 x zs0 + zc1 x zs1 + zc1 x zs2 + zc1 x zs3 = L + zc4 x := by unfold zc4; omega
  rw [e] at r4
  refine ⟨f4, z_sem_of (st := (55, [some (.ref t), some (.int x), some (.int zs4), some (.int (zbu x zs3))], [], zA N sl t q g A1 A2 (L + zc4 x) f4)) zu_X8_append hR (Nat.le_of_ble_eq_true rfl) ?_ (zfin_v rfl rfl)⟩
  refine z_reach.trans (st1 := (3, [some (.ref t), some (.int x), some (.int zs0), none], [], zA N sl t q g A1 A2 L f)) ?_ (r1.trans (r2.trans (r3.trans (r4.trans ?_))))
  · refine ⟨[zo, zo], _, rfl, ?_⟩
    exact ⟨trivial, trivial, trivial⟩
  · refine ⟨[zo, zt], _, rfl, ?_⟩
    exact ⟨trivial, zs_pos.2.2.2.2, trivial⟩

/-- the model's TAPE: its object at t (length at place 6), its row at q -/
def zM (N sl t q : Nat) (g : Nat → z_E) (f0 f2 f3 f4 f5 : Value) (post : List Value) (L : Nat) (f : Nat → Int32) : z_H := (N, sl, va_up (va_up g q (.inl (2, 240, .inl f))) t (.inr (12, f0 :: .ref q :: f2 :: f3 :: f4 :: f5 :: .int (nI L) :: post)))
section ZH
variable {C : z_C} {X : z_X} {B : Nat × Nat} {N sl t q : Nat} {g : Nat → z_E} {f0 f2 f3 f4 f5 : Value} {post : List Value}
set_option maxRecDepth 100000 in
set_option maxHeartbeats 4000000 in
theorem zpu_it {x s : Int32} {L : Nat} {f : Nat → Int32} (ht : t < N) (hq : q < N) (htq : q ≠ t) (hL : L < 240) (hs : ¬ s < 0) (hb : zbu x s = zbs x s) : ∃ f', z_reach C X B 265 (3, [some (.ref t), some (.int x), some (.int s)], [], zM N sl t q g f0 f2 f3 f4 f5 post L f) (3, [some (.ref t), some (.int x), some (.int (s + Int32.ofInt (-8)))], [], zM N sl t q g f0 f2 f3 f4 f5 post (L + zc1 x s) f') := by
  by_cases hz : zbu x s = 0
  · refine ⟨f, ?_⟩
    have e : L + zc1 x s = L := by unfold zc1; rw [if_pos hz]; rfl
    rw [e]
    rw [hb] at hz
    refine ⟨[zo, zo, zo, zo, zo, zo, zo, zo, zo, zo, zo], _, rfl, ?_⟩
    exact ⟨trivial, hs, trivial, trivial, trivial, trivial, trivial, fun r => r hz, trivial, trivial, trivial, trivial⟩
  · refine ⟨upd f (nI L).toNatClampNeg (vp_nar .byte ((x >>> (s &&& 31)).toInt8.toInt32)), ?_⟩
    have e : L + zc1 x s = L + 1 := by unfold zc1; rw [if_neg hz]
    have eh : zM N sl t q g f0 f2 f3 f4 f5 post (L + 1) (upd f (nI L).toNatClampNeg (vp_nar .byte ((x >>> (s &&& 31)).toInt8.toInt32))) = (N, sl, va_up (va_up (va_up (va_up g q (.inl (2, 240, .inl f))) t (.inr (12, f0 :: .ref q :: f2 :: f3 :: f4 :: f5 :: .int (nI L) :: post))) q (.inl (2, 240, .inl (upd f (nI L).toNatClampNeg (vp_nar .byte ((x >>> (s &&& 31)).toInt8.toInt32)))))) t (.inr (12, f0 :: .ref q :: f2 :: f3 :: f4 :: f5 :: .int (nI L + Int32.ofInt 1) :: post))) := by
      unfold zM
      rw [va_sw _ htq]
      simp only [va_up_up]
      rw [show nI L + Int32.ofInt 1 = nI (L + 1) from nI_1 L]
    rw [e, eh]
    rw [hb] at hz
    have c1 : ∀ z : z_E, va_up (va_up g q z) t (.inr (12, f0 :: .ref q :: f2 :: f3 :: f4 :: f5 :: .int (nI L) :: post)) t = .inr (12, f0 :: .ref q :: f2 :: f3 :: f4 :: f5 :: .int (nI L) :: post) := fun z => by simp [va_up]
    have c2 : va_up (va_up g q (.inl (2, 240, .inl f))) t (.inr (12, f0 :: .ref q :: f2 :: f3 :: f4 :: f5 :: .int (nI L) :: post)) q = .inl (2, 240, .inl f) := by simp [va_up, htq]
    have c3 : ∀ z : z_E, va_up (va_up (va_up g q (.inl (2, 240, .inl f))) t (.inr (12, f0 :: .ref q :: f2 :: f3 :: f4 :: f5 :: .int (nI L) :: post))) q z t = .inr (12, f0 :: .ref q :: f2 :: f3 :: f4 :: f5 :: .int (nI L) :: post) := fun z => by simp [va_up, Ne.symm htq]
    refine ⟨[zo, zo, zo, zo, zo, zo, zo, zt, zo, (false, 0, none, zh0, some (.inr (12, f0 :: .ref q :: f2 :: f3 :: f4 :: f5 :: .int (nI L) :: post))), zo, (false, 0, none, zh0, some (.inr (12, f0 :: .ref q :: f2 :: f3 :: f4 :: f5 :: .int (nI L) :: post))), zo, zo, zo, zo, (false, 0, none, zh0, some (.inl (2, 240, .inl f))), zo, zo, (false, 0, none, zh0, some (.inr (12, f0 :: .ref q :: f2 :: f3 :: f4 :: f5 :: .int (nI L) :: post))), zo, zo, (false, 0, none, zh0, some (.inr (12, f0 :: .ref q :: f2 :: f3 :: f4 :: f5 :: .int (nI L) :: post))), zo, zo], _, rfl, ?_⟩
    exact ⟨trivial, hs, trivial, trivial, trivial, trivial, trivial, hz, trivial, ⟨c1 _, ht⟩, trivial, ⟨c1 _, ht⟩, trivial, trivial, trivial, trivial, ⟨⟨c2, hq⟩, vp_in_nI hL (by omega)⟩, trivial, trivial, ⟨c3 _, ht⟩, trivial, trivial, ⟨⟨c3 _, ht⟩, rfl, rfl⟩, trivial, trivial, trivial⟩
end ZH
set_option maxRecDepth 100000 in
set_option maxHeartbeats 4000000 in
theorem zpu_sem (zn : Bool) (d : Nat) (x : Int32) {N sl t q : Nat} {g : Nat → z_E} {f0 f2 f3 f4 f5 : Value} {post : List Value} {L : Nat} {f : Nat → Int32} (ht : t < N) (hq : q < N) (htq : q ≠ t) (hL : L + 4 ≤ 240) (hR : N < z_RO) : ∃ f', z_sem zn (d + 1) 265 [.ref t, .int x] (zM N sl t q g f0 f2 f3 f4 f5 post L f) none (zM N sl t q g f0 f2 f3 f4 f5 post (L + zc4 x) f') := by
  have b0 := zc1_le x zs0; have b1 := zc1_le x zs1; have b2 := zc1_le x zs2; have b3 := zc1_le x zs3
  obtain ⟨f1, r1⟩ := zpu_it (C := z_sem zn d) (X := (none, zn)) (B := (N, sl)) (sl := sl) (g := g) (f0 := f0) (f2 := f2) (f3 := f3) (f4 := f4) (f5 := f5) (post := post) (x := x) (s := zs0) (L := L) (f := f) ht hq htq (by omega) zs_pos.1 (zs_same x _ (Or.inl rfl))
  obtain ⟨fb, r2⟩ := zpu_it (C := z_sem zn d) (X := (none, zn)) (B := (N, sl)) (sl := sl) (g := g) (f0 := f0) (f2 := f2) (f3 := f3) (f4 := f4) (f5 := f5) (post := post) (x := x) (s := zs1) (L := L + zc1 x zs0) (f := f1) ht hq htq (by omega) zs_pos.2.1 (zs_same x _ (Or.inr (Or.inl rfl)))
  obtain ⟨fc, r3⟩ := zpu_it (C := z_sem zn d) (X := (none, zn)) (B := (N, sl)) (sl := sl) (g := g) (f0 := f0) (f2 := f2) (f3 := f3) (f4 := f4) (f5 := f5) (post := post) (x := x) (s := zs2) (L := L + zc1 x zs0 + zc1 x zs1) (f := fb) ht hq htq (by omega) zs_pos.2.2.1 (zs_same x _ (Or.inr (Or.inr (Or.inl rfl))))
  obtain ⟨fd, r4⟩ := zpu_it (C := z_sem zn d) (X := (none, zn)) (B := (N, sl)) (sl := sl) (g := g) (f0 := f0) (f2 := f2) (f3 := f3) (f4 := f4) (f5 := f5) (post := post) (x := x) (s := zs3) (L := L + zc1 x zs0 + zc1 x zs1 + zc1 x zs2) (f := fc) ht hq htq (by omega) zs_pos.2.2.2.1 (zs_same x _ (Or.inr (Or.inr (Or.inr rfl))))
  have e : L + zc1 x zs0 + zc1 x zs1 + zc1 x zs2 + zc1 x zs3 = L + zc4 x := by unfold zc4; omega
  rw [e] at r4
  refine ⟨fd, z_sem_of (st := (49, [some (.ref t), some (.int x), some (.int zs4)], [], zM N sl t q g f0 f2 f3 f4 f5 post (L + zc4 x) fd)) zu_X12_put hR (Nat.le_of_ble_eq_true rfl) ?_ (zfin_v rfl rfl)⟩
  refine z_reach.trans (st1 := (3, [some (.ref t), some (.int x), some (.int zs0)], [], zM N sl t q g f0 f2 f3 f4 f5 post L f)) ?_ (r1.trans (r2.trans (r3.trans (r4.trans ?_))))
  · refine ⟨[zo, zo], _, rfl, ?_⟩
    exact ⟨trivial, trivial, trivial⟩
  · refine ⟨[zo, zt], _, rfl, ?_⟩
    exact ⟨trivial, zs_pos.2.2.2.2, trivial⟩
def zsum (a b c e f : Int32) : Nat := zc4 a + zc4 b + zc4 c + zc4 e + zc4 f
theorem zsum_le (a b c e f : Int32) : zsum a b c e f ≤ 20 := by
  have := zc4_le a; have := zc4_le b; have := zc4_le c; have := zc4_le e; have := zc4_le f
  unfold zsum; omega
def zAF (L : Nat) (f : Nat → Int32) : z_H := zA 107 35862 1 2 zh40.2.2 (.int (Int32.ofInt 0)) (.int (Int32.ofInt 0)) L f
set_option maxRecDepth 100000 in
set_option maxHeartbeats 4000000 in
theorem zAF_0 : zAF 0 (fun _ => 0) = zh40 := by
  show (107, 35862, va_up (va_up zh40.2.2 2 (.inl (0, 240, .inl (fun _ => 0)))) 1 (.inr (8, [.ref 2, .int (nI 0), .int (Int32.ofInt 0), .int (Int32.ofInt 0)]))) = zh40
  rw [show nI 0 = Int32.ofInt 0 by decide, va_id zh40.2.2 2 (.inl (0, 240, .inl (fun _ => 0))) rfl, va_id zh40.2.2 1 (.inr (8, [.ref 2, .int (Int32.ofInt 0), .int (Int32.ofInt 0), .int (Int32.ofInt 0)])) rfl]
  rfl
