/-! THE MACHINE OVER PLACES: a cell is known by its place, a reference is a place; what a row of the kit asks is either in the tables or an obligation -/
abbrev z_E : Type := (Nat × vp_A) ⊕ (Nat × List Value)
abbrev z_H : Type := Nat × Nat × (Nat → z_E)
abbrev z_S : Type := Nat × List (Option Value) × List Value × z_H
def z_RO : Nat := 1000000
def z_v (ad : Nat → Nat) (v : Value) : Value := match v with
  | .ref i => .ref (ad i)
  | w => w
def z_a (ad : Nat → Nat) (a : vp_A) : vp_A := (a.1, match a.2 with
  | .inr (.inr (.inr (.inr f))) => .inr (.inr (.inr (.inr (fun j => (f j).map ad))))
  | x => x)
def z_e (ad : Nat → Nat) (tc : Nat → ClassId) (e : z_E) : va_E := match e with
  | .inl x => .inl (tc x.1, z_a ad x.2)
  | .inr x => .inr (x.1, x.2.map (z_v ad))
def z_w (ad : Nat → Nat) (tc : Nat → ClassId) (h : z_H) : va_W := (List.range h.1).map (fun k => (ad k, z_e ad tc (h.2.2 k)))
def z_okv (n : Nat) (v : Value) : Prop := match v with
  | .ref i => i < n ∨ z_RO ≤ i
  | _ => True
def z_oke (n : Nat) (e : z_E) : Prop := match e with
  | .inl (_, _, .inr (.inr (.inr (.inr f)))) => ∀ j i, f j = some i → i < n
  | .inl _ => True
  | .inr x => ∀ v ∈ x.2, z_okv n v
def z_okS (st : z_S) : Prop := (∀ v, some v ∈ st.2.1 → z_okv st.2.2.2.1 v) ∧ (∀ v ∈ st.2.2.1, z_okv st.2.2.2.1 v) ∧ ∀ k, k < st.2.2.2.1 → z_oke st.2.2.2.1 (st.2.2.2.2.2 k)
def z_ty (t : Nat) : FieldType := match t with
  | 0 => .int
  | 1 => .long
  | 2 => .byte
  | 3 => .boolean
  | 4 => .object "FedClocks$Taste"
  | _ => .array .int
theorem z_v_cat (ad : Nat → Nat) (v : Value) : (z_v ad v).category = v.category := by cases v <;> rfl
theorem z_v_narrow (ad : Nat → Nat) (ty : FieldType) (v : Value) (h : narrow ty v = v) : narrow ty (z_v ad v) = z_v ad v := by
  cases v <;> first | exact h | (cases ty <;> rfl)
theorem z_v_fits (ad : Nat → Nat) (ty : FieldType) (v : Value) (h : fits ty v = true) : fits ty (z_v ad v) = true := by
  cases v <;> first | exact h | (cases ty <;> first | rfl | (exact absurd h (by simp [fits])))
theorem z_okv_mono {n n' : Nat} {v : Value} (h : n ≤ n') (hv : z_okv n v) : z_okv n' v := by
  cases v <;> first | trivial | (exact hv.imp (fun a => Nat.lt_of_lt_of_le a h) id)
theorem z_oke_mono {n n' : Nat} {e : z_E} (h : n ≤ n') (he : z_oke n e) : z_oke n' e := by
  rcases e with ⟨t, m, f⟩ | ⟨c, fs⟩
  · rcases f with f | f | f | f | f
    · trivial
    · trivial
    · trivial
    · trivial
    · exact fun j i hj => Nat.lt_of_lt_of_le (he j i hj) h
  · exact fun v hv => z_okv_mono h (he v hv)
theorem z_v_same {ad ad' : Nat → Nat} {n : Nat} {v : Value} (h : ∀ i, i < n ∨ z_RO ≤ i → ad' i = ad i) (hv : z_okv n v) : z_v ad' v = z_v ad v := by
  cases v <;> first | rfl | (show Value.ref _ = Value.ref _; rw [h _ hv])
theorem z_e_same {ad ad' : Nat → Nat} {tc : Nat → ClassId} {n : Nat} {e : z_E} (h : ∀ i, i < n ∨ z_RO ≤ i → ad' i = ad i) (he : z_oke n e) : z_e ad' tc e = z_e ad tc e := by
  rcases e with ⟨t, m, f⟩ | ⟨c, fs⟩
  · rcases f with f | f | f | f | f
    · rfl
    · rfl
    · rfl
    · rfl
    · show Sum.inl (_, _, _) = Sum.inl (_, _, _)
      have e1 : (fun j => (f j).map ad') = fun j => (f j).map ad := by
        funext j
        cases hj : f j with
        | none => rfl
        | some i => show some _ = some _; rw [h i (Or.inl (he j i hj))]
      dsimp only [z_a]
      rw [e1]
  · show Sum.inr (_, _) = Sum.inr (_, _)
    have e1 : fs.map (z_v ad') = fs.map (z_v ad) := List.map_congr_left fun v hv => z_v_same h (he v hv)
    rw [e1]
theorem z_w_at {ad : Nat → Nat} {tc : Nat → ClassId} {h : z_H} {k : Nat} (hk : k < h.1) : (z_w ad tc h)[k]? = some (ad k, z_e ad tc (h.2.2 k)) := by
  unfold z_w
  rw [List.getElem?_map, List.getElem?_range hk]
  rfl
theorem z_w_len {ad : Nat → Nat} {tc : Nat → ClassId} {h : z_H} : (z_w ad tc h).length = h.1 := by simp [z_w]
theorem z_w_out {ad : Nat → Nat} {tc : Nat → ClassId} {h : z_H} {k : Nat} (hk : h.1 ≤ k) : (z_w ad tc h)[k]? = none := List.getElem?_eq_none (by rw [z_w_len]; exact hk)
theorem z_w_set {ad : Nat → Nat} {tc : Nat → ClassId} {n sl : Nat} {f : Nat → z_E} {k : Nat} (hk : k < n) (e : z_E) : z_w ad tc (n, sl, va_up f k e) = (z_w ad tc (n, sl, f)).set k (ad k, z_e ad tc e) := by
  apply List.ext_getElem?
  intro i
  by_cases hi : i < n
  · rw [z_w_at (h := (n, sl, va_up f k e)) hi, List.getElem?_set]
    by_cases e1 : k = i
    · subst e1
      rw [if_pos rfl, if_pos (by rw [z_w_len]; exact hk)]
      show some (ad k, z_e ad tc (va_up f k e k)) = _
      simp [va_up]
    · rw [if_neg e1, z_w_at (h := (n, sl, f)) hi]
      show some (ad i, z_e ad tc (va_up f k e i)) = _
      simp [va_up, Ne.symm e1]
  · rw [z_w_out (h := (n, sl, va_up f k e)) (by simpa using hi), List.getElem?_eq_none (by rw [List.length_set, z_w_len]; simpa using hi)]
theorem z_w_push {ad ad' : Nat → Nat} {tc : Nat → ClassId} {n sl sl' q : Nat} {f : Nat → z_E} {e : z_E} (hs : ∀ i, i < n ∨ z_RO ≤ i → ad' i = ad i) (hq : ad' n = q) (hf : ∀ k, k < n → z_oke n (f k)) (he : z_oke n e) :
    z_w ad' tc (n + 1, sl', va_up f n e) = z_w ad tc (n, sl, f) ++ [(q, z_e ad tc e)] := by
  apply List.ext_getElem?
  intro i
  by_cases hi : i < n
  · rw [z_w_at (h := (n + 1, sl', va_up f n e)) (show i < n + 1 by omega), List.getElem?_append_left (by rw [z_w_len]; exact hi), z_w_at (h := (n, sl, f)) hi]
    show some (ad' i, z_e ad' tc (va_up f n e i)) = _
    have : va_up f n e i = f i := by simp [va_up, Nat.ne_of_lt hi]
    rw [this, hs i (Or.inl hi), z_e_same hs (hf i hi)]
  · rw [List.getElem?_append_right (by rw [z_w_len]; simpa using hi), z_w_len]
    by_cases e1 : i = n
    · subst e1
      rw [z_w_at (h := (i + 1, sl', va_up f i e)) (show i < i + 1 by omega)]
      show some (ad' i, z_e ad' tc (va_up f i e i)) = _
      have : va_up f i e i = e := by simp [va_up]
      rw [this, hq, z_e_same hs he]
      simp
    · rw [z_w_out (h := (n + 1, sl', va_up f n e)) (by show n + 1 ≤ i; omega)]
      rw [List.getElem?_eq_none (by simp; omega)]
/-! locals -/
def z_c2 (v : Value) : Bool := match v with
  | .long _ => true
  | .double _ => true
  | _ => false
theorem z_c2_iff (v : Value) : v.category = 2 ↔ z_c2 v = true := by cases v <;> simp [Value.category, z_c2]
def z_set : List (Option Value) → Nat → Value → List (Option Value)
  | [], _, _ => []
  | _ :: l, 0, v => some v :: (bif z_c2 v then (match l with | [] => [] | _ :: l' => none :: l') else l)
  | x :: l, i + 1, v => (bif Nat.beq i 0 then (match x with | some w => bif z_c2 w then none else some w | none => none) else x) :: z_set l i v
def z_lok (ad : Nat → Nat) (ls : Array Slot) (nL : Nat) (lv : List (Option Value)) : Prop := ls.size = nL ∧ lv_wf ls ∧ ∀ (i : Nat) (v : Value), lv[i]? = some (some v) → ls[i]? = some (.val (z_v ad v))
theorem z_set_at : ∀ (lv : List (Option Value)) (i : Nat) (v : Value) (j : Nat) (w : Value), (z_set lv i v)[j]? = some (some w) →
    (j = i ∧ w = v) ∨ (j ≠ i ∧ lv[j]? = some (some w) ∧ ¬ (j + 1 = i ∧ w.category = 2) ∧ ¬ (v.category = 2 ∧ j = i + 1))
  | [], i, v, j, w, h => by simp [z_set] at h
  | x :: l, 0, v, 0, w, h => by
    simp only [z_set, List.getElem?_cons_zero, Option.some.injEq] at h
    exact Or.inl ⟨rfl, h.symm⟩
  | x :: l, 0, v, j + 1, w, h => by
    simp only [z_set, List.getElem?_cons_succ] at h
    refine Or.inr ⟨by omega, ?_⟩
    cases hc : z_c2 v with
    | false =>
      rw [hc] at h
      simp only [cond_false] at h
      exact ⟨by simpa using h, by omega, fun q => by rw [z_c2_iff, hc] at q; exact absurd q.1 (by decide)⟩
    | true =>
      rw [hc] at h
      simp only [cond_true] at h
      cases l with
      | nil => simp at h
      | cons y l' =>
        cases j with
        | zero => simp at h
        | succ j => exact ⟨by simpa using h, by omega, fun q => by omega⟩
  | x :: l, i + 1, v, 0, w, h => by
    refine Or.inr ⟨by omega, ?_⟩
    simp only [z_set, List.getElem?_cons_zero, Option.some.injEq] at h
    cases hi : Nat.beq i 0 with
    | false =>
      rw [hi] at h
      simp only [cond_false] at h
      refine ⟨by simpa using h, fun q => ?_, by omega⟩
      have : i = 0 := by omega
      subst this
      exact absurd hi (by decide)
    | true =>
      rw [hi] at h
      simp only [cond_true] at h
      cases x with
      | none => simp at h
      | some u =>
        simp only at h
        cases hu : z_c2 u with
        | true => rw [hu] at h; simp at h
        | false =>
          rw [hu] at h
          simp only [cond_false, Option.some.injEq] at h
          subst h
          exact ⟨by simp, fun q => by rw [z_c2_iff, hu] at q; exact absurd q.2 (by decide), by omega⟩
  | x :: l, i + 1, v, j + 1, w, h => by
    simp only [z_set, List.getElem?_cons_succ] at h
    rcases z_set_at l i v j w h with q | q
    · exact Or.inl ⟨by omega, q.2⟩
    · exact Or.inr ⟨by omega, by simpa using q.2.1, fun z => q.2.2.1 ⟨by omega, z.2⟩, fun z => q.2.2.2 ⟨z.1, by omega⟩⟩
def z_ll (ad : Nat → Nat) (lv : List (Option Value)) : List (Nat × Value) := (List.range lv.length).flatMap (fun i => match lv[i]? with | some (some v) => [(i, z_v ad v)] | _ => [])
theorem z_ll_mem {ad : Nat → Nat} {lv : List (Option Value)} {i : Nat} {v : Value} (h : lv[i]? = some (some v)) : (i, z_v ad v) ∈ z_ll ad lv := by
  unfold z_ll
  rw [List.mem_flatMap]
  refine ⟨i, List.mem_range.mpr (List.getElem?_eq_some_iff.mp h).1, ?_⟩
  rw [h]
  exact List.mem_singleton.mpr rfl
theorem z_ll_of {ad : Nat → Nat} {lv : List (Option Value)} {q : Nat × Value} (h : q ∈ z_ll ad lv) : ∃ v, lv[q.1]? = some (some v) ∧ q.2 = z_v ad v := by
  unfold z_ll at h
  rw [List.mem_flatMap] at h
  obtain ⟨i, -, hi⟩ := h
  split at hi
  · next v hv =>
    rw [List.mem_singleton] at hi
    subst hi
    exact ⟨v, hv, rfl⟩
  · cases hi
theorem z_lok_has {ad : Nat → Nat} {ls : Array Slot} {nL : Nat} {lv : List (Option Value)} (h : z_lok ad ls nL lv) : lv_has ls nL (z_ll ad lv) :=
  ⟨h.1, h.2.1, fun q hq => by obtain ⟨v, h1, h2⟩ := z_ll_of hq; rw [h2]; exact h.2.2 _ _ h1⟩
theorem z_lok_st1 {ad : Nat → Nat} {ls ls' : Array Slot} {nL : Nat} {lv : List (Option Value)} {i : Nat} {v : Value} (hc : v.category = 1)
    (h : lv_has ls' nL ((i, z_v ad v) :: (z_ll ad lv).filter (fun q => !(q.1 == i) && !(q.1 + 1 == i && q.2.category == 2)))) : z_lok ad ls' nL (z_set lv i v) := by
  refine ⟨h.1, h.2.1, fun j w hj => ?_⟩
  rcases z_set_at lv i v j w hj with ⟨rfl, rfl⟩ | ⟨h1, h2, h3, -⟩
  · exact h.2.2 (j, z_v ad w) List.mem_cons_self
  · refine h.2.2 (j, z_v ad w) (List.mem_cons_of_mem _ (List.mem_filter.mpr ⟨z_ll_mem h2, ?_⟩))
    simp only [z_v_cat]
    simp [h1]
    exact Decidable.not_and_iff_or_not.mp h3
theorem z_lok_st2 {ad : Nat → Nat} {ls ls' : Array Slot} {nL : Nat} {lv : List (Option Value)} {i : Nat} {v : Value} (hc : v.category = 2)
    (h : lv_has ls' nL ((i, z_v ad v) :: (z_ll ad lv).filter (fun q => !(q.1 == i) && (!(q.1 == i + 1) && !(q.1 + 1 == i && q.2.category == 2))))) : z_lok ad ls' nL (z_set lv i v) := by
  refine ⟨h.1, h.2.1, fun j w hj => ?_⟩
  rcases z_set_at lv i v j w hj with ⟨rfl, rfl⟩ | ⟨h1, h2, h3, h4⟩
  · exact h.2.2 (j, z_v ad w) List.mem_cons_self
  · refine h.2.2 (j, z_v ad w) (List.mem_cons_of_mem _ (List.mem_filter.mpr ⟨z_ll_mem h2, ?_⟩))
    simp only [z_v_cat]
    simp [h1]
    exact ⟨fun q => h4 ⟨hc, q⟩, Decidable.not_and_iff_or_not.mp h3⟩
theorem z_lok_same {ad ad' : Nat → Nat} {ls : Array Slot} {nL n : Nat} {lv : List (Option Value)} (h : z_lok ad ls nL lv) (hs : ∀ i, i < n ∨ z_RO ≤ i → ad' i = ad i) (hv : ∀ v, some v ∈ lv → z_okv n v) : z_lok ad' ls nL lv :=
  ⟨h.1, h.2.1, fun i v hi => by rw [z_v_same hs (hv v (List.mem_of_getElem? hi))]; exact h.2.2 i v hi⟩
theorem z_set_mem {lv : List (Option Value)} {i : Nat} {v w : Value} (h : some w ∈ z_set lv i v) : w = v ∨ some w ∈ lv := by
  obtain ⟨j, hj⟩ := List.mem_iff_getElem?.mp h
  rcases z_set_at lv i v j w hj with ⟨-, q⟩ | ⟨-, q, -⟩
  · exact Or.inl q
  · exact Or.inr (List.mem_of_getElem? q)
/-! the entry's locals -/
def z_as : List Value → List (Option Value)
  | [] => []
  | v :: vs => bif z_c2 v then some v :: none :: z_as vs else some v :: z_as vs
def z_args (n : Nat) (vs : List Value) : List (Option Value) := z_as vs ++ List.replicate (n - (z_as vs).length) none
theorem z_as_at (ad : Nat → Nat) : ∀ (vs : List Value) (b i : Nat) (v : Value), (z_as vs)[i]? = some (some v) → (b + i, z_v ad v) ∈ lv_args b (vs.map (z_v ad))
  | [], b, i, v, h => by simp [z_as] at h
  | x :: vs, b, i, v, h => by
    show _ ∈ (b, z_v ad x) :: lv_args (if (z_v ad x).category = 2 then b + 2 else b + 1) (vs.map (z_v ad))
    rw [z_v_cat]
    cases hc : z_c2 x with
    | false =>
      have hn : ¬ x.category = 2 := fun q => by rw [z_c2_iff, hc] at q; exact absurd q (by decide)
      simp only [z_as, hc, cond_false] at h
      rw [if_neg hn]
      cases i with
      | zero =>
        simp only [List.getElem?_cons_zero, Option.some.injEq] at h
        subst h
        exact List.mem_cons_self
      | succ i =>
        refine List.mem_cons_of_mem _ ?_
        have := z_as_at ad vs (b + 1) i v (by simpa using h)
        rwa [show b + 1 + i = b + (i + 1) by omega] at this
    | true =>
      have hn : x.category = 2 := (z_c2_iff x).mpr hc
      simp only [z_as, hc, cond_true] at h
      rw [if_pos hn]
      cases i with
      | zero =>
        simp only [List.getElem?_cons_zero, Option.some.injEq] at h
        subst h
        exact List.mem_cons_self
      | succ i =>
        cases i with
        | zero => simp at h
        | succ i =>
          refine List.mem_cons_of_mem _ ?_
          have := z_as_at ad vs (b + 2) i v (by simpa using h)
          rwa [show b + 2 + i = b + (i + 1 + 1) by omega] at this
theorem z_args_at {ad : Nat → Nat} {n : Nat} {vs : List Value} {i : Nat} {v : Value} (h : (z_args n vs)[i]? = some (some v)) : (i, z_v ad v) ∈ lv_args 0 (vs.map (z_v ad)) := by
  unfold z_args at h
  by_cases hi : i < (z_as vs).length
  · rw [List.getElem?_append_left hi] at h
    have := z_as_at ad vs 0 i v h
    rwa [Nat.zero_add] at this
  · rw [List.getElem?_append_right (by omega)] at h
    have := List.mem_of_getElem? h
    rw [List.mem_replicate] at this
    exact absurd this.2 (by simp)
theorem z_as_mem : ∀ (vs : List Value) (v : Value), some v ∈ z_as vs → v ∈ vs
  | [], v, h => by simp [z_as] at h
  | x :: vs, v, h => by
    cases hc : z_c2 x with
    | false =>
      simp only [z_as, hc, cond_false, List.mem_cons, Option.some.injEq] at h
      rcases h with h | h
      · exact List.mem_cons.mpr (Or.inl h)
      · exact List.mem_cons.mpr (Or.inr (z_as_mem vs v h))
    | true =>
      simp only [z_as, hc, cond_true, List.mem_cons, Option.some.injEq] at h
      rcases h with h | h | h
      · exact List.mem_cons.mpr (Or.inl h)
      · exact absurd h (by simp)
      · exact List.mem_cons.mpr (Or.inr (z_as_mem vs v h))
theorem z_args_mem {n : Nat} {vs : List Value} {v : Value} (h : some v ∈ z_args n vs) : v ∈ vs := by
  unfold z_args at h
  rcases List.mem_append.mp h with h | h
  · exact z_as_mem vs v h
  · rw [List.mem_replicate] at h
    exact absurd h.2 (by simp)
/-! words -/
def z_G : List Cond := lw_tbl.filter goodWord
def z_W (x : Nat × Nat) (w : Cond) : Bool := decide (z_gw x.1 x.2 = some w) && goodWord w
theorem z_tm {w : Cond} (h : w ∈ tables_1_1 ∨ w ∈ tables_1_2 ∨ w ∈ tables_1_3 ∨ w ∈ tables_1_4 ∨ w ∈ tables_1_5 ∨ w ∈ tables_1_6 ∨ w ∈ tables_1_7 ∨ w ∈ tables_1_8) : w ∈ lw_tbl := by
  refine List.mem_append_right _ ?_
  unfold tables_1
  simpa only [List.mem_append] using h
theorem z_gw_mem {c o : Nat} {w : Cond} (h : z_gw c o = some w) : w ∈ lw_tbl := by
  unfold z_gw at h
  have h := List.mem_of_getElem? h
  split at h
  · exact List.mem_append_left _ h
  · exact z_tm (Or.inl h)
  · exact z_tm (Or.inr (Or.inl h))
  · exact z_tm (Or.inr (Or.inr (Or.inl h)))
  · exact z_tm (Or.inr (Or.inr (Or.inr (Or.inl h))))
  · exact z_tm (Or.inr (Or.inr (Or.inr (Or.inr (Or.inl h)))))
  · exact z_tm (Or.inr (Or.inr (Or.inr (Or.inr (Or.inr (Or.inl h))))))
  · exact z_tm (Or.inr (Or.inr (Or.inr (Or.inr (Or.inr (Or.inr (Or.inl h)))))))
  · exact z_tm (Or.inr (Or.inr (Or.inr (Or.inr (Or.inr (Or.inr (Or.inr h)))))))
  · cases h
theorem z_W_mem {x : Nat × Nat} {w : Cond} (h : z_W x w = true) : w ∈ z_G := by
  unfold z_W at h
  rw [Bool.and_eq_true, decide_eq_true_eq] at h
  exact List.mem_filter.mpr ⟨z_gw_mem h.1, h.2⟩
theorem z_G_good {w : Cond} (h : w ∈ z_G) : goodWord w = true := (List.mem_filter.mp h).2
def z_ws (y : Nat) : List Cond := Cond.code (z_mn y) (z_mc y) (z_ml y) (z_mr y) :: z_G
theorem z_ws_in {Ts : List Cond} {y : Nat} (hT : ∀ w ∈ z_G, w ∈ Ts) (hc : Cond.code (z_mn y) (z_mc y) (z_ml y) (z_mr y) ∈ z_G) : GoodIn Ts (z_ws y) := by
  intro w hw
  have hg : w ∈ z_G := by
    rcases List.mem_cons.mp hw with h | h
    · rw [h]; exact hc
    · exact h
  exact ⟨hT w hg, good_of_word (z_G_good hg)⟩
