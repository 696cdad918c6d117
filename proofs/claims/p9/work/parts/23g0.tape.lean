/-! THE TAPE: bits, out of kit/laws/BITS.to-paste -/
def zjb (x : Int32) (i : Nat) : Bool := x.toBitVec.getLsbD i
theorem zj_ext {x y : Int32} (h : ∀ i, i < 32 → zjb x i = zjb y i) : x = y := Int32.toBitVec_inj.mp (BitVec.eq_of_getLsbD_eq (fun i hi => h i hi))
theorem zj_and (x y : Int32) (i : Nat) : zjb (x &&& y) i = (zjb x i && zjb y i) := by unfold zjb; rw [Int32.toBitVec_and, BitVec.getLsbD_and]
theorem zj_big {x : Int32} {i : Nat} (h : 32 ≤ i) : zjb x i = false := BitVec.getLsbD_of_ge _ _ h
theorem zj_255 (i : Nat) : zjb (Int32.ofInt 255) i = decide (i < 8) := by
  rcases Nat.lt_or_ge i 32 with h | h
  · exact (by decide +kernel : ∀ i, i < 32 → zjb (Int32.ofInt 255) i = decide (i < 8)) i h
  · rw [zj_big h, decide_eq_false (by omega)]
theorem zj_sl : ∀ n, n < 32 → ((Int32.ofInt ((n : Nat) : Int) &&& 31).toBitVec.smod 32).toNat = n := by decide +kernel
theorem zj_su : ∀ n, n < 32 → (((Int32.ofInt ((n : Nat) : Int)).toUInt32 &&& Int32.toUInt32 31).toBitVec % 32).toNat = n := by decide +kernel
theorem zj_ushr (n : Nat) (hn : n < 32) (x : Int32) (i : Nat) : zjb ((x.toUInt32 >>> ((Int32.ofInt ((n : Nat) : Int)).toUInt32 &&& Int32.toUInt32 31)).toInt32) i = zjb x (n + i) := by
  show (x.toUInt32 >>> ((Int32.ofInt ((n : Nat) : Int)).toUInt32 &&& Int32.toUInt32 31)).toBitVec.getLsbD i = x.toUInt32.toBitVec.getLsbD (n + i)
  rw [UInt32.toBitVec_shiftRight]
  show (x.toUInt32.toBitVec >>> (((Int32.ofInt ((n : Nat) : Int)).toUInt32 &&& Int32.toUInt32 31).toBitVec % 32).toNat).getLsbD i = _
  rw [zj_su n hn, BitVec.getLsbD_ushiftRight]
theorem zj_sshr (n : Nat) (hn : n < 32) (x : Int32) {i : Nat} (hi : i < 32) : zjb (x >>> (Int32.ofInt ((n : Nat) : Int) &&& 31)) i = if n + i < 32 then zjb x (n + i) else zjb x 31 := by
  unfold zjb
  rw [Int32.toBitVec_shiftRight]
  show (x.toBitVec.sshiftRight ((Int32.ofInt ((n : Nat) : Int) &&& 31).toBitVec.smod 32).toNat).getLsbD i = _
  rw [zj_sl n hn, BitVec.getLsbD_sshiftRight, BitVec.msb_eq_getLsbD_last]
  simp [hi]
theorem zj_same (x : Int32) (n : Nat) (hn : n ≤ 24) : ((x.toUInt32 >>> ((Int32.ofInt ((n : Nat) : Int)).toUInt32 &&& Int32.toUInt32 31)).toInt32 &&& Int32.ofInt 255) = ((x >>> (Int32.ofInt ((n : Nat) : Int) &&& 31)) &&& Int32.ofInt 255) := by
  apply zj_ext
  intro i hi
  rw [zj_and, zj_and, zj_255, zj_ushr n (by omega), zj_sshr n (by omega) x hi]
  by_cases h : i < 8
  · rw [if_pos (by omega)]
  · rw [decide_eq_false h, Bool.and_false, Bool.and_false]
theorem zb_us (v s : Int) (h : s = 24 ∨ s = 16 ∨ s = 8 ∨ s = 0) : zb_and (zb_ushr v s) 255 = zb_and (zb_shr v s) 255 := by
  unfold zb_and zb_ushr zb_shr
  rw [Int32.ofInt_toInt, Int32.ofInt_toInt]
  rcases h with rfl | rfl | rfl | rfl
  · exact congrArg Int32.toInt (zj_same (Int32.ofInt v) 24 (by omega))
  · exact congrArg Int32.toInt (zj_same (Int32.ofInt v) 16 (by omega))
  · exact congrArg Int32.toInt (zj_same (Int32.ofInt v) 8 (by omega))
  · exact congrArg Int32.toInt (zj_same (Int32.ofInt v) 0 (by omega))
theorem zb_and_m (x : Int) : zb_and x 255 = x % 256 := by
  have h1 : (Int32.ofInt 255).toBitVec = 255#32 := by decide
  have e : ((BitVec.ofInt 32 x) &&& 255#32).toNat = (x % 256).toNat := by
    rw [BitVec.toNat_and, BitVec.toNat_ofInt, show (255#32).toNat = 2 ^ 8 - 1 from rfl, Nat.and_two_pow_sub_one_eq_mod]
    omega
  show ((Int32.ofInt x).toBitVec &&& (Int32.ofInt 255).toBitVec).toInt = x % 256
  rw [h1]
  show ((BitVec.ofInt 32 x) &&& 255#32).toInt = x % 256
  rw [BitVec.toInt_eq_toNat_of_lt (by omega), e]
  omega
theorem zub_b (x : Int) : zub (Int.bmod x 256) = zb_and x 255 := by
  rw [zb_and_m, Int.bmod_def]
  unfold zub
  by_cases h : x % ((256 : Nat) : Int) < (((256 : Nat) : Int) + 1) / 2
  · rw [if_pos h, if_pos (by omega)]; rfl
  · rw [if_neg h, if_neg (by omega)]
    show x % 256 - 256 + 256 = x % 256
    omega
/-! what is fed: four bytes, the highest first -/
def zap (v : Int) : Nat → (Nat → Int) → Int → (Nat → Int) × Int
  | 0, r, n => (r, n)
  | k + 1, r, n => if zb_and (zb_shr v (8 * (k : Int))) 255 = 0 ∨ 240 ≤ n then zap v k r n else zap v k (zvu r n.toNat (zb_and (zb_shr v (8 * (k : Int))) 255)) (n + 1)
theorem zap_x {x : Int} (h : x = 24 ∨ x = 16 ∨ x = 8 ∨ x = 0) : ∃ k : Nat, ((x + 8) / 8).toNat = k + 1 ∧ ((x - 8 + 8) / 8).toNat = k ∧ x = 8 * (k : Int) := ⟨(x / 8).toNat, by omega, by omega, by omega⟩
theorem zap_l1 {F : (Nat → Int) × Int} {v x n : Int} {r : Nat → Int} (J : F = zap v ((x + 8) / 8).toNat r n) (hx : x = 24 ∨ x = 16 ∨ x = 8 ∨ x = 0) (h : zb_and (zb_shr v x) 255 = 0 ∨ 240 ≤ n) : F = zap v ((x - 8 + 8) / 8).toNat r n := by
  obtain ⟨k, e1, e2, e3⟩ := zap_x hx
  rw [J, e1, e2]
  exact if_pos (by rw [← e3]; exact h)
theorem zap_l2 {F : (Nat → Int) × Int} {v x n n1 : Int} {r r1 : Nat → Int} (J : F = zap v ((x + 8) / 8).toNat r n) (hx : x = 24 ∨ x = 16 ∨ x = 8 ∨ x = 0) (h : zb_and (zb_shr v x) 255 ≠ 0) (hn : n < 240) (hr : r1 = zvu r n.toNat (zb_and (zb_shr v x) 255)) (h1 : n1 = n + 1) : F = zap v ((x - 8 + 8) / 8).toNat r1 n1 := by
  obtain ⟨k, e1, e2, e3⟩ := zap_x hx
  rw [J, e1, e2, hr, h1, e3]
  exact if_neg (by rw [← e3]; omega)
theorem zap_e {F : (Nat → Int) × Int} {v x n : Int} {r : Nat → Int} (J : F = zap v ((x + 8) / 8).toNat r n) (hx : x = -8) : r = F.1 ∧ n = F.2 := by
  rw [J, show ((x + 8) / 8).toNat = 0 by omega]; exact ⟨rfl, rfl⟩
theorem zap_0 (v : Int) (r : Nat → Int) (n : Int) : zap v 4 r n = zap v (((24 : Int) + 8) / 8).toNat r n := rfl
def zp1 (v : Int) (s : (Nat → Int) × Int) : (Nat → Int) × Int := zap v 4 s.1 s.2
def zfs (a b c d e : Int) : Int := zbs a (-8) + zbs b (-8) + zbs c (-8) + zbs d (-8) + zbs e (-8)
def zfd (a b c d e : Int) (s : (Nat → Int) × Int) : (Nat → Int) × Int := if 240 < s.2 + zfs a b c d e then s else zp1 e (zp1 d (zp1 c (zp1 b (zp1 a s))))
theorem zfd_5 {a b c d e n n1 n2 n3 n4 n5 : Int} {r r1 r2 r3 r4 r5 : Nat → Int} (h : n + zfs a b c d e ≤ 240) (h1 : r1 = (zap a 4 r n).1 ∧ n1 = (zap a 4 r n).2) (h2 : r2 = (zap b 4 r1 n1).1 ∧ n2 = (zap b 4 r1 n1).2) (h3 : r3 = (zap c 4 r2 n2).1 ∧ n3 = (zap c 4 r2 n2).2) (h4 : r4 = (zap d 4 r3 n3).1 ∧ n4 = (zap d 4 r3 n3).2) (h5 : r5 = (zap e 4 r4 n4).1 ∧ n5 = (zap e 4 r4 n4).2) : (r5, n5) = zfd a b c d e (r, n) := by
  have e1 : (r1, n1) = zp1 a (r, n) := Prod.ext h1.1 h1.2
  have e2 : (r2, n2) = zp1 b (r1, n1) := Prod.ext h2.1 h2.2
  have e3 : (r3, n3) = zp1 c (r2, n2) := Prod.ext h3.1 h3.2
  have e4 : (r4, n4) = zp1 d (r3, n3) := Prod.ext h4.1 h4.2
  have e5 : (r5, n5) = zp1 e (r4, n4) := Prod.ext h5.1 h5.2
  unfold zfd
  rw [if_neg (show ¬ 240 < (r, n).2 + zfs a b c d e by show ¬ 240 < n + _; omega), ← e1, ← e2, ← e3, ← e4, ← e5]
theorem zfd_0 {a b c d e n : Int} {r : Nat → Int} (h : 240 < n + zfs a b c d e) : (r, n) = zfd a b c d e (r, n) := (if_pos h).symm
theorem zfs_e (a b c d e : Int) : zfs a b c d e = zbs a (-8) + zbs b (-8) + zbs c (-8) + zbs d (-8) + zbs e (-8) := rfl
theorem zbT_up {m : zM} {k : Nat} {x : Int} : zbT (zm_up m 80 k x) = zvu (zbT m) k (zub x) := by
  funext j
  unfold zbT
  rw [zvu_up]
  unfold zvu
  by_cases q : j = k
  · rw [if_pos q, if_pos q]
  · rw [if_neg q, if_neg q]
theorem zbT_r {m M : zM} (h : M 80 = m 80) : zbT M = zbT m := by unfold zbT; rw [h]
/-! the FAULT of a HOUSE, as one number -/
noncomputable def zhF (b : Nat → Int) (n : Int) : Int := if (zhs b n).1 = 0 then (zhs b n).2.1 else if zpk b n (zhs b n).2.1 ≠ -1 then (zhs b n).2.1 else @ite _ (zwh (zhs b n).2.2) (Classical.propDecidable _) (-1) n
theorem zhf_F {b : Nat → Int} {n v : Int} (h : zhf b n v) : v = zhF b n := by
  unfold zhF
  rcases h with h | h | h | h
  · rw [if_pos h.1]; exact h.2
  · rw [if_neg h.1, if_pos h.2.1]; exact h.2.2
  · rw [if_neg h.1, if_neg (fun q => q h.2.1), if_neg h.2.2.1]; exact h.2.2.2
  · rw [if_neg h.1, if_neg (fun q => q h.2.1), if_pos h.2.2.1]; exact h.2.2.2
theorem zn_k {c : Nat × Nat} {mM m : zM} (hI : zI c mM m) : m 1 1 = mM 1 1 ∧ m 75 5 = mM 75 5 ∧ m 0 12 = mM 0 12 :=
  ⟨hI.2.2.2.2 1 1 (by unfold zQk; omega), hI.2.2.2.2 75 5 (by unfold zQk; omega), hI.2.2.2.2 0 12 (by unfold zQk; omega)⟩
theorem zn_t {mC m : zM} {t : Int} {e : Nat} (hJ : zJ mC t e m) : m 79 6 = mC 79 6 ∧ m 79 7 = mC 79 7 ∧ m 79 26 = mC 79 26 ∧ m 79 53 = mC 79 53 :=
  ⟨hJ.2.1 79 6 (by omega), hJ.2.1 79 7 (by omega), hJ.2.1 79 26 (by omega), hJ.2.1 79 53 (by omega)⟩
theorem zD9_J {mC m m1 : zM} {t t1 : Int} {e e1 : Nat} (h : zJ mC t e m) (h1 : zJ mC t1 e1 m1) : zD9 (fun p i => 79 ≤ p ∧ p ≤ 105 ∧ p ≠ 80 ∧ (p ≠ 79 ∨ i ≠ 34)) m m1 := fun p i q => by
  have w : p < 79 ∨ 105 < p ∨ p = 80 ∨ (p = 79 ∧ (i = 34 ∨ i = 6 ∨ i = 7 ∨ i = 26 ∨ i = 53)) := by
    by_cases a : 79 ≤ p ∧ p ≤ 105 ∧ p ≠ 80 ∧ (p ≠ 79 ∨ i ≠ 34)
    · exact absurd a q
    · omega
  rw [h1.2.1 p i w, h.2.1 p i w]
