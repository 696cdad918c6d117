/-! Arrays.fill(int[], int) -/
def zfillf (f : Nat → Int32) (v : Int32) (i : Nat) : Nat → Int32 := fun j => if j < i then v else f j
def z_reach (C : z_C) (X : z_X) (B : Nat × Nat) (y : Nat) (st st' : z_S) : Prop := ∃ (os : List z_O) (P : Prop), z_path C X B y os st = some (st', P) ∧ P
theorem z_reach.rf {C : z_C} {X : z_X} {B : Nat × Nat} {y : Nat} {st : z_S} : z_reach C X B y st st := ⟨[], True, rfl, trivial⟩
theorem z_path_app {C : z_C} {X : z_X} {B : Nat × Nat} {y : Nat} : ∀ (os os2 : List z_O) {st st1 st2 : z_S} {P P2 : Prop}, z_path C X B y os st = some (st1, P) → z_path C X B y os2 st1 = some (st2, P2) → ∃ P3, z_path C X B y (os ++ os2) st = some (st2, P3) ∧ (P → P2 → P3)
  | [], os2, st, st1, st2, P, P2, h, h2 => by cases h; exact ⟨P2, h2, fun _ q => q⟩
  | o :: os, os2, st, st1, st2, P, P2, h, h2 => by
    unfold z_path at h
    split at h
    · next sa Pa ha =>
      split at h
      · next sb Pb hb =>
        cases h
        obtain ⟨P3, h3, h4⟩ := z_path_app os os2 hb h2
        refine ⟨Pa ∧ P3, ?_, fun q q2 => ⟨q.1, h4 q.2 q2⟩⟩
        show (match z_step C X B y o st with | some (st1, P) => (match z_path C X B y (os ++ os2) st1 with | some (st2, P2) => some (st2, P ∧ P2) | none => none) | none => none) = _
        rw [ha]
        dsimp only
        rw [h3]
      · cases h
    · cases h
theorem z_reach.trans {C : z_C} {X : z_X} {B : Nat × Nat} {y : Nat} {st st1 st2 : z_S} (h : z_reach C X B y st st1) (h2 : z_reach C X B y st1 st2) : z_reach C X B y st st2 := by
  obtain ⟨os, P, q1, q2⟩ := h
  obtain ⟨os2, P2, q3, q4⟩ := h2
  obtain ⟨P3, h3, h4⟩ := z_path_app os os2 q1 q3
  exact ⟨os ++ os2, P3, h3, h4 q2 q4⟩
theorem z_sem_of {zn : Bool} {d y : Nat} {args : List Value} {h h' : z_H} {v : Option Value} {st : z_S} (hu : z_useok y = true) (hl : h'.1 < z_RO) (ha : (z_as args).length ≤ z_ml y) (hr : z_reach (z_sem zn d) (none, zn) (h'.1, h'.2.1) y (0, z_args (z_ml y) args, [], h) st) (hf : z_fin y st v h') : z_sem zn (d + 1) y args h v h' := by
  obtain ⟨os, P, q1, q2⟩ := hr
  exact ⟨hu, hl, ha, os, st, P, q1, q2, hf⟩
def zfS (N sl a n : Nat) (g : Nat → z_E) (f : Nat → Int32) (v : Int32) (i : Nat) : z_S := (5, [some (.ref a), some (.int v), some (.int (nI i)), some (.int (Int32.ofNat n))], [], (N, sl, va_up g a (.inl (0, n, .inl (zfillf f v i)))))
theorem va_up_up {α : Type} (g : Nat → α) (a : Nat) (x y : α) : va_up (va_up g a x) a y = va_up g a y := by
  funext j
  unfold va_up
  by_cases h : j = a
  · simp [h]
  · simp [h]
theorem zfillf_up {f : Nat → Int32} {v : Int32} {i : Nat} : upd (zfillf f v i) i v = zfillf f v (i + 1) := by
  funext j
  unfold upd zfillf
  by_cases h : j = i
  · subst h; simp
  · by_cases h2 : j < i
    · simp [h, h2, Nat.lt_succ_of_lt h2]
    · simp [h, h2, show ¬ j < i + 1 by omega]
set_option maxRecDepth 100000 in
set_option maxHeartbeats 4000000 in
theorem zf_loop {C : z_C} {X : z_X} {B : Nat × Nat} {N sl a n : Nat} {g : Nat → z_E} {f : Nat → Int32} {v : Int32} (ha : a < N) (hR : N < z_RO) (hn : n < 2 ^ 31) {i : Nat} (hi : i < n) : z_reach C X B 28 (zfS N sl a n g f v i) (zfS N sl a n g f v (i + 1)) := by
  have e : zfS N sl a n g f v (i + 1) = (5, [some (.ref a), some (.int v), some (.int (nI i + Int32.ofInt 1)), some (.int (Int32.ofNat n))], [], (N, sl, va_up (va_up g a (.inl (0, n, .inl (zfillf f v i)))) a (.inl (0, n, .inl (upd (zfillf f v i) (nI i).toNatClampNeg v))))) := by
    unfold zfS
    rw [va_up_up, nI_clamp (by omega), zfillf_up, show nI i + Int32.ofInt 1 = nI (i + 1) from nI_1 i]
  rw [e]
  have hlt : ¬ Int32.ofNat n ≤ nI i := nI_ge hi hn
  refine ⟨[zo, zo, zo, zo, zo, zo, (false, 0, none, zh0, some (.inl (0, n, .inl (zfillf f v i)))), zo, zo], _, rfl, ?_⟩
  exact ⟨trivial, trivial, hlt, trivial, trivial, trivial, ⟨⟨by simp [va_up], ha⟩, vp_in_nI hi hn⟩, trivial, trivial, trivial⟩
theorem zf_loops {C : z_C} {X : z_X} {B : Nat × Nat} {N sl a n : Nat} {g : Nat → z_E} {f : Nat → Int32} {v : Int32} (ha : a < N) (hR : N < z_RO) (hn : n < 2 ^ 31) : ∀ i, i ≤ n → z_reach C X B 28 (zfS N sl a n g f v 0) (zfS N sl a n g f v i)
  | 0, _ => .rf
  | i + 1, h => (zf_loops ha hR hn i (by omega)).trans (zf_loop ha hR hn (by omega))
set_option maxRecDepth 100000 in
set_option maxHeartbeats 4000000 in
theorem zf_fill (zn : Bool) (d : Nat) {N sl a n : Nat} {g : Nat → z_E} {f : Nat → Int32} {v : Int32} (hc : g a = .inl (0, n, .inl f)) (ha : Nat.ble (a + 1) N = true) (hR : Nat.ble (N + 1) z_RO = true) (hn : n ≤ 2000000000) : z_sem zn (d + 1) 28 [.ref a, .int v] (N, sl, g) none (N, sl, va_up g a (.inl (0, n, .inl (zfillf f v n)))) := by
  have ha := Nat.le_of_ble_eq_true ha
  have hR := Nat.le_of_ble_eq_true hR
  have hg : va_up g a (.inl (0, n, .inl (zfillf f v 0))) = g := by
    funext j
    unfold va_up
    by_cases h : j = a
    · subst h
      rw [if_pos rfl, hc]
      have : zfillf f v 0 = f := funext fun j => by simp [zfillf]
      rw [this]
    · rw [if_neg h]
  refine z_sem_of (st := (20, [some (.ref a), some (.int v), some (.int (nI n)), some (.int (Int32.ofNat n))], [], (N, sl, va_up g a (.inl (0, n, .inl (zfillf f v n)))))) zu_J7_fill_53178 hR (Nat.le_of_ble_eq_true rfl) ?_ (zfin_v rfl rfl)
  refine z_reach.trans (st1 := zfS N sl a n g f v 0) ?_ (z_reach.trans (zf_loops ha hR (by omega) n (Nat.le_refl n)) ?_)
  · unfold zfS
    rw [hg, show nI 0 = Int32.ofInt 0 by decide]
    refine ⟨[zo, zo, zo, (false, 0, none, zh0, some (.inl (0, n, .inl f))), zo], _, rfl, ?_⟩
    exact ⟨trivial, trivial, trivial, ⟨hc, ha⟩, trivial, trivial⟩
  · refine ⟨[zo, zo, zt], _, rfl, ?_⟩
    exact ⟨trivial, trivial, show Int32.ofNat n ≤ nI n from nI_le (Nat.le_refl n) (by omega), trivial⟩
