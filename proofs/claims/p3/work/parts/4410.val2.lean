/-! code for a stack, as the class runs it (by hand) -/
theorem zwd_shr {a : Int} (h : 0 ≤ a ∧ a ≤ 2147483647) : zb_shr a 14 = a / 16384 := by
  unfold zb_shr
  have hx : (Int32.ofInt a).toInt = a := zi_to (by unfold zR; omega)
  have hy : (((Int32.ofInt 14 &&& 31) : Int32).toBitVec.smod 32).toNat = 14 := by decide
  generalize (Int32.ofInt 14 &&& 31) = y at hy
  generalize Int32.ofInt a = x at hx ⊢
  have e : (x >>> y).toInt = a >>> (y.toBitVec.smod 32).toNat := by
    show (x >>> y).toBitVec.toInt = _
    rw [Int32.toBitVec_shiftRight]; unfold BitVec.sshiftRight'; rw [BitVec.toInt_sshiftRight]
    exact congrArg (fun z : Int => z >>> _) hx
  rw [e, hy, Int.shiftRight_eq_div_pow]
  rfl
theorem zi_bv {a : Int} (h : 0 ≤ a ∧ a ≤ 2147483647) : (Int32.ofInt a).toBitVec.toNat = a.toNat := by
  show (BitVec.ofInt 32 a).toNat = a.toNat
  rw [BitVec.toNat_ofInt, Int.emod_eq_of_lt h.1 (by omega)]
theorem zwd_and {a : Int} (h : 0 ≤ a ∧ a ≤ 2147483647) : zb_and a 16383 = a % 16384 := by
  unfold zb_and
  have hl : ((Int32.ofInt a) &&& (Int32.ofInt 16383)).toBitVec.toNat = a.toNat % 16384 := by
    rw [Int32.toBitVec_and, BitVec.toNat_and, zi_bv h, zi_bv (by decide)]
    exact Nat.and_two_pow_sub_one_eq_mod a.toNat 14
  have e : ((Int32.ofInt a) &&& (Int32.ofInt 16383)).toInt = ((((Int32.ofInt a) &&& (Int32.ofInt 16383)).toBitVec.toNat : Nat) : Int) := by
    rw [Int32.toInt, BitVec.toInt_eq_toNat_of_lt]
    omega
  rw [e, hl]
  omega
theorem zwd_shl : ∀ k : Fin 32, zb_shl (k.val : Int) 14 = (k.val : Int) * 16384 := by decide +kernel
theorem zwd_or {s o : Int} (hs : 0 ≤ s ∧ s ≤ 31) (ho : 0 ≤ o ∧ o < 16384) : zb_or (zb_shl s 14) o = zwd s o := by
  have h1 := zwd_shl ⟨s.toNat, by omega⟩
  have es : ((s.toNat : Nat) : Int) = s := by omega
  rw [show (((⟨s.toNat, by omega⟩ : Fin 32).val : Nat) : Int) = s from es] at h1
  rw [h1]
  unfold zb_or zwd
  have hl : ((Int32.ofInt (s * 16384)) ||| (Int32.ofInt o)).toBitVec.toNat = s.toNat * 16384 + o.toNat := by
    rw [Int32.toBitVec_or, BitVec.toNat_or, zi_bv (by omega), zi_bv (by omega)]
    have e2 : (s * 16384).toNat = 2 ^ 14 * s.toNat := by omega
    have e3 := Nat.two_pow_add_eq_or_of_lt (i := 14) (b := o.toNat) (by omega) s.toNat
    rw [e2, ← e3]
    omega
  have e : ((Int32.ofInt (s * 16384)) ||| (Int32.ofInt o)).toInt = ((((Int32.ofInt (s * 16384)) ||| (Int32.ofInt o)).toBitVec.toNat : Nat) : Int) := by
    rw [Int32.toInt, BitVec.toInt_eq_toNat_of_lt]
    omega
  rw [e, hl]
  omega
theorem zw8_id {a : Int} (h : -9223372036854775808 ≤ a ∧ a ≤ 9223372036854775807) : zw8 a = a := by
  unfold zw8
  apply Int.bmod_eq_of_le <;> omega
theorem zclp_r (v : Int) : -1000000 ≤ zclp v ∧ zclp v ≤ 1000000 := by
  unfold zclp
  omega
/-- the numbers that wait, the latest first -/
def zsl (r : Nat → Int) : Nat → List Int
  | 0 => []
  | k + 1 => r k :: zsl r k
theorem zsl_cg {r r1 : Nat → Int} : ∀ n : Nat, (∀ i : Nat, i < n → r1 i = r i) → zsl r1 n = zsl r n := by
  intro n
  induction n with
  | zero => exact fun _ => rfl
  | succ n ih =>
    intro h
    show r1 n :: zsl r1 n = r n :: zsl r n
    rw [h n (by omega), ih (fun i hi => h i (by omega))]
theorem zsl_up {h : zM} {n i : Nat} {v : Int} (l : n ≤ i) : zsl (zm_up h 2 i v 2) n = zsl (h 2) n := zsl_cg n (fun j hj => zm_ne (Or.inr (by omega)))
theorem zmul_b {a b c : Int} (hc : 0 ≤ c ∧ c ≤ 3000000000) (ha : -c ≤ a ∧ a ≤ c) (hb : -c ≤ b ∧ b ≤ c) : -9223372036854775808 ≤ a * b ∧ a * b ≤ 9223372036854775807 := by
  have h1 : a.natAbs * b.natAbs ≤ 3000000000 * 3000000000 := Nat.mul_le_mul (by omega) (by omega)
  have h2 : (a * b).natAbs = a.natAbs * b.natAbs := Int.natAbs_mul a b
  omega
/-- one word -/
theorem zX_step {K : Int → Int → zM → Int × zM} {k n : Nat} {x2 w : Int} {h : zM} (hl : x2 < h 3 1001) (h2 : 0 ≤ x2 ∧ x2 ≤ 240) (hw : h 3 x2.toNat = w) (wr : 0 ≤ w ∧ w ≤ 2147483647) (hn : n ≤ 32) (hf : (w / 16384 = 0 ∨ w / 16384 = 1) ∧ n < 32 ∧ (w / 16384 = 1 → w % 16384 < 6) ∨ (w / 16384 = 4 ∧ 1 ≤ n) ∨ (5 ≤ w / 16384 ∧ w / 16384 ≤ 13 ∧ 2 ≤ n)) (hb : ∀ i : Nat, i < n → -(2147483648 + x2) ≤ h 2 i ∧ h 2 i ≤ 2147483648 + x2) (hL : ∀ i : Nat, -2147483648 ≤ h 1 i ∧ h 1 i ≤ 2147483647) :
    ∃ h1 : zM, DL_X9_worth_D_4 K (k + 1) (n : Int) x2 h = DL_X9_worth_D_4 K k ((zln w n : Nat) : Int) (x2 + 1) h1 ∧ (∀ p : Nat, p ≠ 2 → h1 p = h p) ∧ zsl (h1 2) (zln w n) = zex (h 1) w (zsl (h 2) n) ∧ (∀ i : Nat, i < zln w n → -(2147483648 + (x2 + 1)) ≤ h1 2 i ∧ h1 2 i ≤ 2147483648 + (x2 + 1)) := by
  have es := zwd_shr wr
  have ea := zwd_and wr
  have mod := Int.emod_nonneg w (show (16384 : Int) ≠ 0 by decide)
  have mod2 := Int.emod_lt_of_pos w (show (0 : Int) < 16384 by decide)
  have push : ∀ v : Int, -(2147483648 + (x2 + 1)) ≤ v ∧ v ≤ 2147483648 + (x2 + 1) → (∀ p : Nat, p ≠ 2 → zm_up h 2 n v p = h p) ∧ zsl (zm_up h 2 n v 2) (n + 1) = v :: zsl (h 2) n ∧ (∀ i : Nat, i < n + 1 → -(2147483648 + (x2 + 1)) ≤ zm_up h 2 n v 2 i ∧ zm_up h 2 n v 2 i ≤ 2147483648 + (x2 + 1)) := by
    intro v hv
    refine ⟨fun p hp => zup_o hp, ?_, fun i hi => ?_⟩
    · show zm_up h 2 n v 2 n :: zsl (zm_up h 2 n v 2) n = _
      rw [zm_eq, zsl_up (Nat.le_refl n)]
    · by_cases e : i = n
      · subst e; rw [zm_eq]; exact hv
      · rw [zm_ne (Or.inr e)]
        have := hb i (by omega)
        omega
  simp only [DL_X9_worth_D_4]
  rw [if_neg (show ¬ h 3 1001 ≤ x2 by omega), hw, es, ea]
  rcases hf with ⟨hs, hn32, ho⟩ | ⟨hs, hn1⟩ | ⟨hs5, hs13, hn2⟩
  · have ezl : zln w n = n + 1 := by unfold zln; rw [if_pos hs]
    rw [ezl, if_neg (show ¬ 1 < w / 16384 by omega), if_neg (show ¬ (32 : Int) ≤ (n : Int) by omega)]
    rcases hs with hs | hs
    · rw [if_neg (show ¬ w / 16384 = 1 by omega), if_pos hs, zw8_id (a := w % 16384) (by omega)]
      have pp := push (w % 16384) (by omega)
      refine ⟨zm_up h 2 n (w % 16384), ?_, pp.1, ?_, pp.2.2⟩
      · show DL_X9_worth_D_4 K k ((n : Int) + 1) (x2 + 1) (zm_up h 2 ((n : Int)).toNat (w % 16384)) = _
        rfl
      · rw [pp.2.1]
        unfold zex
        rw [if_pos hs]
    · have hL2 := hL (w % 16384).toNat
      rw [if_pos hs, if_pos (ho hs), if_neg (show ¬ w / 16384 = 0 by omega), zw8_id (a := h 1 (w % 16384).toNat) (by omega)]
      have pp := push (h 1 (w % 16384).toNat) (by omega)
      refine ⟨zm_up h 2 n (h 1 (w % 16384).toNat), ?_, pp.1, ?_, pp.2.2⟩
      · show DL_X9_worth_D_4 K k ((n : Int) + 1) (x2 + 1) (zm_up h 2 ((n : Int)).toNat (h 1 (w % 16384).toNat)) = _
        rfl
      · rw [pp.2.1]
        unfold zex
        rw [if_neg (show ¬ w / 16384 = 0 by omega), if_pos hs]
  · obtain ⟨m, rfl⟩ : ∃ m, n = m + 1 := ⟨n - 1, by omega⟩
    have ezl : zln w (m + 1) = m + 1 := by unfold zln; rw [if_neg (by omega), if_pos hs]
    have em : ((((m + 1 : Nat) : Int) - 1)).toNat = m := by omega
    have hbm := hb m (by omega)
    rw [ezl, if_pos (show 1 < w / 16384 by omega), if_neg (show ¬ (((m + 1 : Nat) : Int) - 1) < 0 by omega), if_pos (show w / 16384 ≤ 4 by omega), if_neg (show ¬ w / 16384 = 3 by omega), if_neg (show ¬ w / 16384 = 2 by omega), if_pos hs, em, zw8_id (a := 1 - h 2 m) (by omega), zlt_e (rfl : zm_up h 2 m (1 - h 2 m) = _)]
    refine ⟨zm_up h 2 m (1 - h 2 m), ?_, fun p hp => zup_o hp, ?_, fun i hi => ?_⟩
    · rw [show (((m + 1 : Nat) : Int) - 1) + 1 = ((m + 1 : Nat) : Int) by omega]
    · show zm_up h 2 m (1 - h 2 m) 2 m :: zsl (zm_up h 2 m (1 - h 2 m) 2) m = zex (h 1) w (h 2 m :: zsl (h 2) m)
      rw [zm_eq, zsl_up (Nat.le_refl m)]
      unfold zex
      rw [if_neg (show ¬ w / 16384 = 0 by omega), if_neg (show ¬ w / 16384 = 1 by omega), if_pos hs]
    · by_cases e : i = m
      · subst e; rw [zm_eq]; omega
      · rw [zm_ne (Or.inr e)]
        have := hb i (by omega)
        omega
  · obtain ⟨m, rfl⟩ : ∃ m, n = m + 2 := ⟨n - 2, by omega⟩
    have ezl : zln w (m + 2) = m + 1 := by unfold zln; rw [if_neg (by omega), if_neg (by omega)]; rfl
    have e1 : ((((m + 2 : Nat) : Int) - 1)).toNat = m + 1 := by omega
    have e2 : (((((m + 2 : Nat) : Int) - 1)) - 1).toNat = m := by omega
    have e3 : (((m + 2 : Nat) : Int) - 1) = ((m + 1 : Nat) : Int) := by omega
    have hb0 := hb m (by omega)
    have hb1 := hb (m + 1) (by omega)
    have hmu := zmul_b (c := 2147483648 + x2) (by omega) hb0 hb1
    have fin : ∀ v : Int, v = zop (w / 16384) (h 2 m) (h 2 (m + 1)) → -1000000 ≤ v ∧ v ≤ 1000000 → ∃ h1 : zM, DL_X9_worth_D_4 K k ((m + 1 : Nat) : Int) (x2 + 1) (zm_up h 2 m v) = DL_X9_worth_D_4 K k ((m + 1 : Nat) : Int) (x2 + 1) h1 ∧ (∀ p : Nat, p ≠ 2 → h1 p = h p) ∧ zsl (h1 2) (m + 1) = zex (h 1) w (zsl (h 2) (m + 2)) ∧ (∀ i : Nat, i < m + 1 → -(2147483648 + (x2 + 1)) ≤ h1 2 i ∧ h1 2 i ≤ 2147483648 + (x2 + 1)) := by
      intro v hv hr
      refine ⟨zm_up h 2 m v, rfl, fun p hp => zup_o hp, ?_, fun i hi => ?_⟩
      · show zm_up h 2 m v 2 m :: zsl (zm_up h 2 m v 2) m = zex (h 1) w (h 2 (m + 1) :: h 2 m :: zsl (h 2) m)
        rw [zm_eq, zsl_up (Nat.le_refl m)]
        unfold zex
        rw [if_neg (show ¬ w / 16384 = 0 by omega), if_neg (show ¬ w / 16384 = 1 by omega), if_neg (show ¬ w / 16384 = 4 by omega), hv]
      · by_cases e : i = m
        · subst e; rw [zm_eq]; omega
        · rw [zm_ne (Or.inr e)]
          have := hb i (by omega)
          omega
    have c8 : ∀ v : Int, zw8 (max (-1000000) (min 1000000 v)) = zclp v := fun v => by
      have := zclp_r v
      exact zw8_id (by unfold zclp at this; omega)
    rw [ezl, e1, e2, e3, if_pos (show 1 < w / 16384 by omega), if_neg (show ¬ ((m + 1 : Nat) : Int) < 0 by omega), if_neg (show ¬ w / 16384 ≤ 4 by omega), if_pos (show (1 : Int) ≤ ((m + 1 : Nat) : Int) by omega), if_neg (show ¬ w / 16384 = 3 by omega), if_neg (show ¬ w / 16384 = 2 by omega), if_neg (show ¬ w / 16384 = 4 by omega)]
    have td := ztd9 (h 2 m) (h 2 (m + 1))
    rcases (show w / 16384 = 5 ∨ w / 16384 = 6 ∨ w / 16384 = 7 ∨ w / 16384 = 8 ∨ w / 16384 = 9 ∨ w / 16384 = 10 ∨ w / 16384 = 11 ∨ w / 16384 = 12 ∨ w / 16384 = 13 by omega) with q | q | q | q | q | q | q | q | q
    · rw [if_pos q, zw8_id (a := h 2 m + h 2 (m + 1)) (by omega), c8, zlt_e (rfl : zm_up h 2 m _ = _)]
      exact fin _ (by unfold zop; rw [q]; rfl) (zclp_r _)
    · rw [if_neg (show ¬ w / 16384 = 5 by omega), if_pos q, zw8_id (a := h 2 m - h 2 (m + 1)) (by omega), c8, zlt_e (rfl : zm_up h 2 m _ = _)]
      exact fin _ (by unfold zop; rw [q]; rfl) (zclp_r _)
    · rw [if_neg (show ¬ w / 16384 = 5 by omega), if_neg (show ¬ w / 16384 = 6 by omega), if_pos q, zw8_id (a := h 2 m * h 2 (m + 1)) hmu, c8, zlt_e (rfl : zm_up h 2 m _ = _)]
      exact fin _ (by unfold zop; rw [q]; rfl) (zclp_r _)
    · rw [if_neg (show ¬ w / 16384 = 5 by omega), if_neg (show ¬ w / 16384 = 6 by omega), if_neg (show ¬ w / 16384 = 7 by omega), if_pos q]
      by_cases cz : h 2 (m + 1) = 0
      · rw [if_pos cz, c8, zlt_e (rfl : zm_up h 2 m _ = _)]
        exact fin _ (by unfold zop; rw [q, cz]; rfl) (zclp_r _)
      · have tdr : -(2147483648 + x2) ≤ Int.tdiv (h 2 m) (h 2 (m + 1)) ∧ Int.tdiv (h 2 m) (h 2 (m + 1)) ≤ 2147483648 + x2 := by
          have z1 := Int.natAbs_tdiv_le_natAbs (h 2 m) (h 2 (m + 1))
          omega
        rw [if_neg cz, zw8_id (a := Int.tdiv (h 2 m) (h 2 (m + 1))) (by omega), c8, zlt_e (rfl : zm_up h 2 m _ = _)]
        exact fin _ (by unfold zop; rw [q]; show _ = zclp (if h 2 (m + 1) = 0 then 0 else Int.tdiv (h 2 m) (h 2 (m + 1))); rw [if_neg cz]) (zclp_r _)
    · rw [if_neg (show ¬ w / 16384 = 5 by omega), if_neg (show ¬ w / 16384 = 6 by omega), if_neg (show ¬ w / 16384 = 7 by omega), if_neg (show ¬ w / 16384 = 8 by omega), if_pos q]
      by_cases cz : h 2 m = h 2 (m + 1)
      · rw [if_pos cz, c8, zlt_e (rfl : zm_up h 2 m _ = _)]
        exact fin _ (by unfold zop; rw [q]; show zclp 1 = (if h 2 m = h 2 (m + 1) then 1 else 0); rw [if_pos cz]; decide) (zclp_r _)
      · rw [if_neg cz, c8, zlt_e (rfl : zm_up h 2 m _ = _)]
        exact fin _ (by unfold zop; rw [q]; show zclp 0 = (if h 2 m = h 2 (m + 1) then 1 else 0); rw [if_neg cz]; decide) (zclp_r _)
    · rw [if_neg (show ¬ w / 16384 = 5 by omega), if_neg (show ¬ w / 16384 = 6 by omega), if_neg (show ¬ w / 16384 = 7 by omega), if_neg (show ¬ w / 16384 = 8 by omega), if_neg (show ¬ w / 16384 = 9 by omega), if_pos q]
      by_cases cz : h 2 (m + 1) ≤ h 2 m
      · rw [if_pos cz, c8, zlt_e (rfl : zm_up h 2 m _ = _)]
        exact fin _ (by unfold zop; rw [q]; show zclp 0 = (if h 2 m < h 2 (m + 1) then 1 else 0); rw [if_neg (by omega)]; decide) (zclp_r _)
      · rw [if_neg cz, c8, zlt_e (rfl : zm_up h 2 m _ = _)]
        exact fin _ (by unfold zop; rw [q]; show zclp 1 = (if h 2 m < h 2 (m + 1) then 1 else 0); rw [if_pos (by omega)]; decide) (zclp_r _)
    · rw [if_neg (show ¬ w / 16384 = 5 by omega), if_neg (show ¬ w / 16384 = 6 by omega), if_neg (show ¬ w / 16384 = 7 by omega), if_neg (show ¬ w / 16384 = 8 by omega), if_neg (show ¬ w / 16384 = 9 by omega), if_neg (show ¬ w / 16384 = 10 by omega), if_pos q]
      by_cases cz : h 2 m ≤ h 2 (m + 1)
      · rw [if_pos cz, c8, zlt_e (rfl : zm_up h 2 m _ = _)]
        exact fin _ (by unfold zop; rw [q]; show zclp 0 = (if h 2 (m + 1) < h 2 m then 1 else 0); rw [if_neg (by omega)]; decide) (zclp_r _)
      · rw [if_neg cz, c8, zlt_e (rfl : zm_up h 2 m _ = _)]
        exact fin _ (by unfold zop; rw [q]; show zclp 1 = (if h 2 (m + 1) < h 2 m then 1 else 0); rw [if_pos (by omega)]; decide) (zclp_r _)
    · rw [if_neg (show ¬ w / 16384 = 5 by omega), if_neg (show ¬ w / 16384 = 6 by omega), if_neg (show ¬ w / 16384 = 7 by omega), if_neg (show ¬ w / 16384 = 8 by omega), if_neg (show ¬ w / 16384 = 9 by omega), if_neg (show ¬ w / 16384 = 10 by omega), if_neg (show ¬ w / 16384 = 11 by omega), if_pos q, c8, zlt_e (rfl : zm_up h 2 m _ = _)]
      exact fin _ (by unfold zop; rw [q]; rfl) (zclp_r _)
    · rw [if_neg (show ¬ w / 16384 = 5 by omega), if_neg (show ¬ w / 16384 = 6 by omega), if_neg (show ¬ w / 16384 = 7 by omega), if_neg (show ¬ w / 16384 = 8 by omega), if_neg (show ¬ w / 16384 = 9 by omega), if_neg (show ¬ w / 16384 = 10 by omega), if_neg (show ¬ w / 16384 = 11 by omega), if_neg (show ¬ w / 16384 = 12 by omega), c8, zlt_e (rfl : zm_up h 2 m _ = _)]
      exact fin _ (by unfold zop; rw [q]; rfl) (zclp_r _)
/-- code without WHEN and DONE -/
theorem zX_run {K : Int → Int → zM → Int × zM} : ∀ (C : List Int) (k n : Nat) (x2 : Int) (h : zM), 0 ≤ x2 → x2 + C.length ≤ 240 → x2 + C.length ≤ h 3 1001 → (∀ j : Nat, j < C.length → h 3 (x2.toNat + j) = C.getD j 0 ∧ 0 ≤ C.getD j 0 ∧ C.getD j 0 ≤ 2147483647) → n ≤ 32 → zft 32 C n → (∀ i : Nat, i < n → -(2147483648 + x2) ≤ h 2 i ∧ h 2 i ≤ 2147483648 + x2) → (∀ i : Nat, -2147483648 ≤ h 1 i ∧ h 1 i ≤ 2147483647) →
    ∃ h1 : zM, DL_X9_worth_D_4 K (k + C.length) (n : Int) x2 h = DL_X9_worth_D_4 K k ((zxl C n : Nat) : Int) (x2 + C.length) h1 ∧ (∀ p : Nat, p ≠ 2 → h1 p = h p) ∧ zsl (h1 2) (zxl C n) = zrn (h 1) C (zsl (h 2) n) ∧ (∀ i : Nat, i < zxl C n → -(2147483648 + (x2 + C.length)) ≤ h1 2 i ∧ h1 2 i ≤ 2147483648 + (x2 + C.length)) := by
  intro C
  induction C with
  | nil =>
    intro k n x2 h _ _ _ _ _ _ hb _
    exact ⟨h, by rw [show x2 + (([] : List Int).length : Int) = x2 from Int.add_zero x2]; rfl, fun _ _ => rfl, rfl, fun i hi => by have := hb i hi; rw [show x2 + (([] : List Int).length : Int) = x2 from Int.add_zero x2]; exact this⟩
  | cons w C ih =>
    intro k n x2 h h0 h240 hlen hw hn hf hb hL
    have hl : ((w :: C).length : Int) = (C.length : Int) + 1 := by rw [List.length_cons]; rfl
    rw [hl] at h240 hlen
    have hw0 := hw 0 (by rw [List.length_cons]; omega)
    have hw1 : h 3 x2.toNat = w := hw0.1
    have hwr : 0 ≤ w ∧ w ≤ 2147483647 := hw0.2
    obtain ⟨h1, a1, a2, a3, a4⟩ := zX_step (K := K) (k := k + C.length) (n := n) (x2 := x2) (w := w) (h := h) (by omega) ⟨h0, by omega⟩ hw1 hwr hn hf.1 hb hL
    have hn1 : zln w n ≤ 32 := by
      unfold zln
      rcases hf.1 with q | q | q
      · rw [if_pos q.1]; omega
      · rw [if_neg (by omega), if_pos q.1]; exact hn
      · rw [if_neg (by omega), if_neg (by omega)]; omega
    obtain ⟨h2, b1, b2, b3, b4⟩ := ih k (zln w n) (x2 + 1) h1 (by omega) (by omega) (by rw [a2 3 (by decide)]; omega) (fun j hj => by
      have z := hw (j + 1) (by rw [List.length_cons]; omega)
      rw [a2 3 (by decide), show (x2 + 1).toNat + j = x2.toNat + (j + 1) by omega]
      exact z) hn1 hf.2 a4 (by rw [a2 1 (by decide)]; exact hL)
    refine ⟨h2, ?_, fun p hp => (b2 p hp).trans (a2 p hp), ?_, fun i hi => ?_⟩
    · rw [hl, show k + (w :: C).length = k + C.length + 1 from rfl, a1, b1, show x2 + 1 + (C.length : Int) = x2 + ((C.length : Int) + 1) by omega]
      rfl
    · show zsl (h2 2) (zxl C (zln w n)) = zrn (h 1) C (zex (h 1) w (zsl (h 2) n))
      rw [b3, a2 1 (by decide), a3]
    · have := b4 i hi
      rw [hl]
      omega
