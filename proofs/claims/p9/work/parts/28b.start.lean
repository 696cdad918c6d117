/-! WHAT THE STATEMENT GIVES OF THE START -/
def z_tmS (i : Nat) : Term := match i with
  | 0 => .string "FedClocks$HouseReader" 74
  | 1 => .string "FedClocks$HouseReader" 98
  | 2 => .string "FedClocks$HouseReader" 109
  | 3 => .string "FedClocks$TasteReader" 82
  | 4 => .string "FedClocks" 163
  | _ => .string "FedClocksModel" 26
def z_lnS (i : Nat) : Nat := (z_byt.map List.length).getD i 0
set_option maxRecDepth 100000 in
theorem zw_hex : (List.range 6).all (fun i => decide (Cond.exactly (z_tmS i) "java/lang/String" ∈ z_gv)) = true := by decide +kernel
set_option maxRecDepth 100000 in
theorem zw_hco : (List.range 6).all (fun i => decide (Cond.eq (.field (z_tmS i) "java/lang/String" "coder" "B") (.int 0) ∈ z_gv)) = true := by decide +kernel
set_option maxRecDepth 100000 in
theorem zw_har : (List.range 6).all (fun i => decide (Cond.arrayOf (.field (z_tmS i) "java/lang/String" "value" "[B") .byte ∈ z_gv)) = true := by decide +kernel
set_option maxRecDepth 100000 in
theorem zw_hle : (List.range 6).all (fun i => decide (Cond.eq (.length (.field (z_tmS i) "java/lang/String" "value" "[B")) (.int (Int32.ofNat (z_lnS i))) ∈ z_gv)) = true := by decide +kernel
set_option maxRecDepth 100000 in
theorem zw_hel : (List.range 6).all (fun i => (List.range (z_lnS i)).all (fun j => decide (Cond.eq (.elem (.field (z_tmS i) "java/lang/String" "value" "[B") (.int (Int32.ofNat j))) (.int ((z_byt.getD i []).getD j 0)) ∈ z_gv))) = true := by decide +kernel
set_option maxRecDepth 100000 in
theorem zw_hne : (List.range 6).all (fun i => (List.range 6).all (fun j => Nat.beq i j || decide (Cond.not (Cond.eq (z_tmS i) (z_tmS j)) ∈ z_gv) || decide (Cond.not (Cond.eq (z_tmS j) (z_tmS i)) ∈ z_gv))) = true := by decide +kernel
set_option maxRecDepth 100000 in
theorem zw_hN : (List.range 6).all (fun i => decide (z_lnS i < 2 ^ 31)) = true := by decide +kernel
def z_stm (k : Nat) : Term := .static "FedClocks$HouseReader" (z_stn.getD k "") "[I"
set_option maxRecDepth 100000 in
theorem zw_sar : (List.range 8).all (fun k => decide (Cond.arrayOf (z_stm k) .int ∈ z_gv)) = true := by decide +kernel
set_option maxRecDepth 100000 in
theorem zw_sle : (List.range 8).all (fun k => decide (Cond.eq (.length (z_stm k)) (.int (Int32.ofNat (z_sta.getD k []).length)) ∈ z_gv)) = true := by decide +kernel
set_option maxRecDepth 100000 in
theorem zw_sel : (List.range 8).all (fun k => (List.range (z_sta.getD k []).length).all (fun j => decide (Cond.eq (.elem (z_stm k) (.int (Int32.ofNat j))) (.int ((z_sta.getD k []).getD j 0)) ∈ z_gv))) = true := by decide +kernel
set_option maxRecDepth 100000 in
theorem zw_sN : (List.range 8).all (fun k => decide ((z_sta.getD k []).length < 2 ^ 31)) = true := by decide +kernel
def z_lsp (k : Nat) : Nat × Nat := ([(2, 187), (2, 189), (3, 54), (3, 60), (3, 62), (3, 64), (3, 71), (3, 73)] : List (Nat × Nat)).getD k (0, 0)
set_option maxRecDepth 100000 in
theorem zw_sls : (List.range 8).all (fun k => decide (z_gw (z_lsp k).1 (z_lsp k).2 = some (.laysStatic "FedClocks$HouseReader" (z_stn.getD k "") "[I"))) = true := by decide +kernel
theorem z_rng {n : Nat} {f : Nat → Bool} (h : (List.range n).all f = true) {i : Nat} (hi : i < n) : f i = true := List.all_eq_true.mp h i (List.mem_range.mpr hi)
set_option maxRecDepth 100000 in
set_option maxHeartbeats 4000000 in
/-- strings, statics, classes: as the places machine wants them; b the law's script -/
theorem z_start0 {s : State} {b : Nat} (hts : ∀ w ∈ lw_tbl, w.before #[Value.ref b] s = true) (hgv : (Jvm.Cond.and given_1 narrow_1).before #[Value.ref b] s = true) :
    ∃ (zn : Bool) (D : va_G) (tc : Nat → ClassId) (ad0 : Nat → Nat), z_ro zn ad0 (fun q => s.heap.size ≤ q) s s.heap ∧ z_TC tc s ∧ z_kn D s ∧ ad0 (z_RO + 300) = b := by
  have hs : ∀ w ∈ z_gv, w.before #[Value.ref b] s = true := flat_of_before _ hgv
  have hA : ∀ a : Nat, a < s.heap.size → ¬ (fun q => s.heap.size ≤ q) a := fun a h => Nat.not_le.mpr h
  obtain ⟨adK, adV, hS, hE⟩ := vk_Sof (args := #[Value.ref b]) (s := s) (N := 6) (tm := z_tmS) (len := z_byt.map List.length) (byt := z_byt) (A := fun q => s.heap.size ≤ q)
    (fun i hi => of_decide_eq_true (z_rng zw_hN hi)) (fun i hi => hs _ (of_decide_eq_true (z_rng zw_hex hi))) (fun i hi => hs _ (of_decide_eq_true (z_rng zw_hco hi))) (fun i hi => hs _ (of_decide_eq_true (z_rng zw_har hi))) (fun i hi => hs _ (of_decide_eq_true (z_rng zw_hle hi)))
    (fun i hi j hj => hs _ (of_decide_eq_true (z_rng (z_rng zw_hel hi) hj)))
    (fun i j hi hj hij => by
      have h := z_rng (z_rng zw_hne hi) hj
      rw [Bool.or_eq_true, Bool.or_eq_true, decide_eq_true_eq, decide_eq_true_eq] at h
      rcases h with (h | h) | h
      · exact absurd (Nat.eq_of_beq_eq_true h) hij
      · exact Or.inl (hs _ h)
      · exact Or.inr (hs _ h)) hA
  have hT : ∀ k, ∃ t : Nat, k < 8 → (z_stm k).eval #[Value.ref b] s none [] s = some (.ref t) ∧ va_T .int t (z_sta.getD k []).length (fun j => .int ((z_sta.getD k []).getD j 0)) (fun q => s.heap.size ≤ q) s s.heap := by
    intro k
    by_cases hk : k < 8
    · obtain ⟨t, h1, h2⟩ := va_Tof (args := #[Value.ref b]) (s := s) (tm := z_stm k) (ty := .int) (N := (z_sta.getD k []).length) (f := fun j => .int ((z_sta.getD k []).getD j 0)) (A := fun q => s.heap.size ≤ q) (of_decide_eq_true (z_rng zw_sN hk)) (hs _ (of_decide_eq_true (z_rng zw_sar hk))) (va_eqt (hs _ (of_decide_eq_true (z_rng zw_sle hk)))) (fun j hj => va_eqt (hs _ (of_decide_eq_true (z_rng (z_rng zw_sel hk) hj)))) hA
      exact ⟨t, fun _ => ⟨h1, h2⟩⟩
    · exact ⟨0, fun h => absurd h hk⟩
  obtain ⟨adT, hT⟩ := Classical.axiomOfChoice hT
  have hKn : ∀ k, ∃ x : ClassId × (Nat → Nat), k < 13 → u_Kn s (z_cls k).1 (z_cls k).2.1 (z_cls k).2.2 x.1 x.2 := by
    intro k
    by_cases hk : k < 13
    · obtain ⟨c, iS, h⟩ := u_known (C := (z_cls k).1) (T := (z_cls k).2.1) (N := (z_cls k).2.2) (n := (z_cls k).2.2) hts (fun w hw => (List.mem_filter.mp (z_uws (by omega) w hw)).1) (hts _ (List.mem_filter.mp (z_ips (by omega)).1).1)
      exact ⟨(c, iS), fun _ => h⟩
    · exact ⟨(0, fun _ => 0), fun h => absurd h hk⟩
  obtain ⟨dK, hKn⟩ := Classical.axiomOfChoice hKn
  have hini : (Cond.initialized "FedClocks$HouseReader").before #[Value.ref b] s = true := hts _ (z_gw_mem (c := 1) (o := 3) (by decide +kernel))
  have hcs : va_Z "java/lang/String" "COMPACT_STRINGS" "Z" (.int 1) (fun q => s.heap.size ≤ q) s s.heap := va_Zof (args := #[Value.ref b]) (hts _ (z_gw_mem (c := 2) (o := 203) (by decide +kernel))) (hts _ (z_gw_mem (c := 1) (o := 14) (by decide +kernel))) (va_eqi (hs _ (by decide +kernel))) hA
  have hsi : va_Zq "jdk/internal/util/Preconditions" "SIOOBE_FORMATTER" "Ljava/util/function/BiFunction;" (fun q => s.heap.size ≤ q) s s.heap := va_Zqof (args := #[Value.ref b]) (hts _ (z_gw_mem (c := 3) (o := 12) (by decide +kernel))) (hts _ (z_gw_mem (c := 1) (o := 18) (by decide +kernel))) (hs _ (by decide +kernel)) hA
  obtain ⟨zn, ts, hsi⟩ : ∃ (zn : Bool) (ts : Nat), va_Z "jdk/internal/util/Preconditions" "SIOOBE_FORMATTER" "Ljava/util/function/BiFunction;" (bif zn then .null else .ref ts) (fun q => s.heap.size ≤ q) s s.heap := by
    rcases hsi with h | ⟨t, h⟩
    · exact ⟨true, 0, h⟩
    · exact ⟨false, t, h⟩
  generalize hadE : (fun i : Nat => if i = z_RO + 400 then ts else if i = z_RO + 300 then b else if z_RO + 200 ≤ i then adT (i - (z_RO + 200)) else if z_RO + 100 ≤ i then adV (i - (z_RO + 100)) else adK (i - z_RO)) = ad0
  have e1 : ∀ k, k < 6 → ad0 (z_RO + k) = adK k := fun k hk => by
    rw [← hadE]
    dsimp only
    rw [if_neg (by omega), if_neg (by omega), if_neg (by omega), if_neg (by omega), show z_RO + k - z_RO = k by omega]
  have e2 : ∀ k, k < 6 → ad0 (z_RO + k + 100) = adV k := fun k hk => by
    rw [← hadE]
    dsimp only
    rw [if_neg (by omega), if_neg (by omega), if_neg (by omega), if_pos (by omega), show z_RO + k + 100 - (z_RO + 100) = k by omega]
  have e3 : ∀ k, k < 8 → ad0 (z_RO + 200 + k) = adT k := fun k hk => by
    rw [← hadE]
    dsimp only
    rw [if_neg (by omega), if_neg (by omega), if_pos (by omega), show z_RO + 200 + k - (z_RO + 200) = k by omega]
  have e4 : ad0 (z_RO + 400) = ts := by
    rw [← hadE]
    dsimp only
    rw [if_pos rfl]
  have e5 : ad0 (z_RO + 300) = b := by
    rw [← hadE]
    dsimp only
    rw [if_neg (by omega), if_pos rfl]
  refine ⟨zn, (fun k => (dK k).1, fun k => (dK k).2), fun t => (s.vm.findClass ("[" ++ (z_ty t).toString)).getD 0, ad0, ⟨⟨fun i hi => ?_, fun i j hi hj hij => ?_⟩, ?_, fun k hk => ?_, hcs, by rw [e4]; exact hsi, ⟨?_, ?_⟩, ?_⟩, fun t c h => by show c = (s.vm.findClass ("[" ++ (z_ty t).toString)).getD 0; rw [h]; rfl, fun k q hq => ?_, e5⟩
  · dsimp only
    rw [e1 i hi, e2 i hi]
    exact hS.1 i hi
  · dsimp only at hij
    rw [e1 i hi, e1 j hj] at hij
    exact hS.2 i j hi hj hij
  · intro q hq
    rcases List.mem_iff_getElem?.mp hq with ⟨i, hi⟩
    have hi10 : i < 10 := (List.getElem?_eq_some_iff.mp hi).1
    rcases (show i = 0 ∨ i = 1 ∨ i = 2 ∨ i = 3 ∨ i = 4 ∨ i = 5 ∨ i = 6 ∨ i = 7 ∨ i = 8 ∨ i = 9 by omega) with rfl | rfl | rfl | rfl | rfl | rfl | rfl | rfl | rfl | rfl
    · cases hi
      rw [show ad0 (z_RO + 0) = adK 0 from e1 0 (by decide)]
      exact vk_R.of (A := #[Value.ref b]) (hts _ (z_gw_mem (c := 2) (o := 185) (by decide +kernel))) (hE 0 (by decide))
    · cases hi
      rw [show ad0 (z_RO + 1) = adK 1 from e1 1 (by decide)]
      exact vk_R.of (A := #[Value.ref b]) (hts _ (z_gw_mem (c := 3) (o := 58) (by decide +kernel))) (hE 1 (by decide))
    · cases hi
      rw [show ad0 (z_RO + 2) = adK 2 from e1 2 (by decide)]
      exact vk_R.of (A := #[Value.ref b]) (hts _ (z_gw_mem (c := 3) (o := 69) (by decide +kernel))) (hE 2 (by decide))
    · cases hi
      rw [show ad0 (z_RO + 3) = adK 3 from e1 3 (by decide)]
      exact vk_R.of (A := #[Value.ref b]) (hts _ (z_gw_mem (c := 3) (o := 115) (by decide +kernel))) (hE 3 (by decide))
    · cases hi
      rw [show ad0 (z_RO + 4) = adK 4 from e1 4 (by decide)]
      exact vk_R.of (A := #[Value.ref b]) (hts _ (z_gw_mem (c := 5) (o := 206) (by decide +kernel))) (hE 4 (by decide))
    · cases hi
      rw [show ad0 (z_RO + 5) = adK 5 from e1 5 (by decide)]
      exact vk_R.of (A := #[Value.ref b]) (hts _ (z_gw_mem (c := 5) (o := 238) (by decide +kernel))) (hE 5 (by decide))
    · cases hi
      rw [show ad0 (z_RO + 0) = adK 0 from e1 0 (by decide)]
      exact vk_R.of (A := #[Value.ref b]) (hts _ (z_gw_mem (c := 6) (o := 217) (by decide +kernel))) (va_eqR (hs (Cond.eq (.string "FedClocks$HouseReader" 74) (.string "FedClocksModel" 265)) (by decide +kernel)) (hE 0 (by decide)))
    · cases hi
      rw [show ad0 (z_RO + 1) = adK 1 from e1 1 (by decide)]
      exact vk_R.of (A := #[Value.ref b]) (hts _ (z_gw_mem (c := 7) (o := 30) (by decide +kernel))) (va_eqR (hs (Cond.eq (.string "FedClocks$HouseReader" 98) (.string "FedClocksModel" 271)) (by decide +kernel)) (hE 1 (by decide)))
    · cases hi
      rw [show ad0 (z_RO + 2) = adK 2 from e1 2 (by decide)]
      exact vk_R.of (A := #[Value.ref b]) (hts _ (z_gw_mem (c := 7) (o := 31) (by decide +kernel))) (va_eqR (hs (Cond.eq (.string "FedClocks$HouseReader" 109) (.string "FedClocksModel" 273)) (by decide +kernel)) (hE 2 (by decide)))
    · cases hi
      rw [show ad0 (z_RO + 3) = adK 3 from e1 3 (by decide)]
      exact vk_R.of (A := #[Value.ref b]) (hts _ (z_gw_mem (c := 5) (o := 239) (by decide +kernel))) (va_eqR (hs (Cond.eq (.string "FedClocks$TasteReader" 82) (.string "FedClocksModel" 32)) (by decide +kernel)) (hE 3 (by decide)))
  · rw [e3 k hk]
    exact ⟨va_Zof (args := #[Value.ref b]) (hts _ (z_gw_mem (of_decide_eq_true (z_rng zw_sls hk)))) hini (hT k hk).1 hA, (hT k hk).2⟩
  · exact hts (.arrayOver (.array .int)) (z_gw_mem (c := 1) (o := 208) (by decide +kernel))
  · exact va_AO.of (hts _ (z_gw_mem (c := 1) (o := 143) (by decide +kernel)))
  · intro q hq
    rcases List.mem_iff_getElem?.mp hq with ⟨i, hi⟩
    have hi5 : i < 10 := (List.getElem?_eq_some_iff.mp hi).1
    rcases (show i = 0 ∨ i = 1 ∨ i = 2 ∨ i = 3 ∨ i = 4 ∨ i = 5 ∨ i = 6 ∨ i = 7 ∨ i = 8 ∨ i = 9 by omega) with rfl | rfl | rfl | rfl | rfl | rfl | rfl | rfl | rfl | rfl
    · cases hi
      exact va_Nw.of rfl (hts _ (z_gw_mem (c := 1) (o := 145) (by decide +kernel)))
    · cases hi
      exact va_Nw.of rfl (hts _ (z_gw_mem (c := 1) (o := 203) (by decide +kernel)))
    · cases hi
      exact va_Nw.of rfl (hts _ (z_gw_mem (c := 2) (o := 0) (by decide +kernel)))
    · cases hi
      exact va_Nw.of rfl (hts _ (z_gw_mem (c := 1) (o := 37) (by decide +kernel)))
    · cases hi
      exact va_Nw.of rfl (hts _ (z_gw_mem (c := 1) (o := 69) (by decide +kernel)))
    · cases hi
      exact va_Nw.of rfl (hts _ (z_gw_mem (c := 5) (o := 68) (by decide +kernel)))
    · cases hi
      exact va_Nw.of rfl (hts _ (z_gw_mem (c := 5) (o := 88) (by decide +kernel)))
    · cases hi
      exact va_Nw.of rfl (hts _ (z_gw_mem (c := 5) (o := 51) (by decide +kernel)))
    · cases hi
      exact va_Nw.of rfl (hts _ (z_gw_mem (c := 4) (o := 186) (by decide +kernel)))
    · cases hi
      exact va_Nw.of rfl (hts _ (z_gw_mem (c := 4) (o := 199) (by decide +kernel)))
  · have hk : k < 13 := (List.getElem?_eq_some_iff.mp hq).1
    rw [z_cl_at (show k ≤ 12 by omega)] at hq
    cases hq
    exact hKn k hk
