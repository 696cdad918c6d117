/-! CALLS: what a method does over places is a contract of it -/
/-- what the tables must say of the methods that a method calls -/
def z_mcall (y : Nat) : Bool := (List.range (z_end y)).all (fun pc => match z_fetch y pc with
  | some (.invokestatic _, _, f) => bif (Nat.beq f.1 0 || Nat.beq f.1 1) then z_mstat f.2.1 else true
  | some (.invokevirtual _, _, f) => bif Nat.beq f.1 0 then z_mvirt f.2.1 && (bif Nat.beq (z_mk f.2.1) 13 then decide ((z_mn f.2.1).cls = "java/lang/String") else bif Nat.ble (z_mk f.2.1) 12 then decide ((z_mn f.2.1).cls = (z_cls (z_mk f.2.1)).1) else true) else true
  | some (.invokespecial _, _, f) => bif Nat.ble f.1 1 then z_minst f.2.1 && decide (z_mr f.2.1 = none) else true
  | _ => true)
theorem z_fend {y pc : Nat} {x : z_F} (h : z_fetch y pc = some x) : pc < z_end y := by
  unfold z_fetch at h
  cases hb : Nat.ble (z_end y) pc with
  | false => exact z_nble hb
  | true => rw [hb] at h; cases h
def z_useok (y : Nat) : Bool := z_mgood y && (z_goodAt y && z_mcall y)
def z_sem (zn : Bool) : Nat → z_C
  | 0 => fun _ _ _ _ _ => False
  | d + 1 => fun y args h v h' => z_useok y = true ∧ h'.1 < z_RO ∧ (z_as args).length ≤ z_ml y ∧ ∃ (os : List z_O) (st : z_S) (P : Prop), z_path (z_sem zn d) (none, zn) (h'.1, h'.2.1) y os (0, z_args (z_ml y) args, [], h) = some (st, P) ∧ P ∧ z_fin y st v h'
def z_rm (d mc ms : Nat) : Room := { frames := d + 4, cells := mc, slots := ms, locals := 40 * d + 400 }
def z_Pc (zn : Bool) (D : va_G) (tc : Nat → ClassId) (ad : Nat → Nat) (sz : Nat) (args : List Value) (h : z_H) : Array Value → State → Prop :=
  va_Pc (args.map (z_v ad)) (fun U => U.heap.size = sz ∧ va_P D z_cl (z_w ad tc h) U.heap ∧ z_kn D U ∧ z_ka tc h U ∧ va_D (fun _ => True) (z_w ad tc h) ∧ z_TC tc U ∧ z_ro zn ad (va_A (z_w ad tc h) sz) U U.heap)
def z_B (D : va_G) (tc : Nat → ClassId) (A : Nat → Prop) (ad : Nat → Nat) (n : Nat) (h' : z_H) (ad' : Nat → Nat) (t : State) : Prop :=
  va_P D z_cl (z_w ad' tc h') t.heap ∧ z_ka tc h' t ∧ va_D A (z_w ad' tc h') ∧ (∀ i, i < n ∨ z_RO ≤ i → ad' i = ad i) ∧ ∀ k, k < h'.1 → z_oke h'.1 (h'.2.2 k)
def z_Qc (D : va_G) (tc : Nat → ClassId) (A : Nat → Prop) (ad : Nat → Nat) (n : Nat) (v : Option Value) (h' : z_H) : Array Value → State → Outcome → State → Prop := match v with
  | none => va_Qv (fun _ : Nat → Nat => True) (z_B D tc A ad n h') A
  | some (.int r) => va_Qi (fun (r' : Int32) (_ : Nat → Nat) => r' = r) (z_B D tc A ad n h') A
  | some (.ref i) => va_Qr (fun _ : Nat → Nat => i < h'.1) (fun ad' a t => a = ad' i ∧ z_B D tc A ad n h' ad' t) A
  | some (.long r) => va_Ql (fun (r' : Int64) (_ : Nat → Nat) => r' = r) (z_B D tc A ad n h') A
  | _ => fun _ _ _ _ => False
/-- what is owed of all methods at depth d -/
def z_Snd (zn : Bool) (d : Nat) : Prop := ∀ (y : Nat) (args : List Value) (h : z_H) (v : Option Value) (h' : z_H), z_sem zn d y args h v h' → (∀ w ∈ args, z_okv h.1 w) → (∀ k, k < h.1 → z_oke h.1 (h.2.2 k)) →
  ∀ (l : Launch) (D : va_G) (tc : Nat → ClassId) (ad : Nat → Nat) (sz : Nat), Met l (z_mn y) (z_ws y) (z_rm d (h'.1 - h.1) (h'.2.1 - h.2.1)) (z_Pc zn D tc ad sz args h) (z_Qc D tc (va_A (z_w ad tc h) sz) ad h.1 v h') (h'.1 - h.1) (h'.2.1 - h.2.1) (va_A (z_w ad tc h) sz)
theorem z_sem_ok {zn : Bool} {d y : Nat} {args : List Value} {h : z_H} {v : Option Value} {h' : z_H} (hs : z_sem zn d y args h v h') : z_useok y = true := by
  cases d with
  | zero => exact absurd hs id
  | succ d => exact hs.1
theorem z_blind {zn : Bool} {D : va_G} {tc : Nat → ClassId} {ad : Nat → Nat} {sz : Nat} {args : List Value} {h : z_H} : FrameBlind (z_Pc zn D tc ad sz args h) := by
  intro a U g mk q
  obtain ⟨q0, q1, q2, q3, q4, q5, q6, q7⟩ := q
  have hv : (U.calling g mk a).vm = U.vm := rfl
  have ha : U.vm.Alike (U.calling g mk a).vm := Vm.Alike.refl U.vm
  exact ⟨q0, q1, q2, q3.moved ha, q4.moved ha, q5, q6.moved ha, q7.same hv⟩
section ZC
variable {zn : Bool} {X : z_X} {d y : Nat} {p : Program} {l : Launch} {e : Env} {R : Room} {s : State} {m : MethodId} {args : Array Value} {below : List Frame} {meth : Method} {c : Code} {Q : State → Prop} {D : va_G} {tc : Nat → ClassId} {A : Nat → Prop} {ad0 : Nat → Nat} {n0 : Nat} {sl0 : Nat × Nat} {B : Nat × Nat}
variable {o : z_O} {pc : Nat} {lv : List (Option Value)} {sk : List Value} {h : z_H} {st' : z_S} {P : Prop}
theorem z_freeA {ad : Nat → Nat} {H : Heap} {locs : List Loc} {cells slots : Nat} {ls : Array Slot} (F : z_Fix zn X d y p R s m args meth c D tc A ad0 n0 sl0 B) (rel : z_Rel y s D tc A ad0 n0 sl0 ad (pc, lv, sk, h) H locs cells slots ls) : ∀ q, va_A (z_w ad tc h) H.size q → A q := by
  intro q hq
  rcases hq with ⟨k, x, hk⟩ | hq
  · exact rel.2.1.2 k (q, x) hk
  · exact F.2.2.2.2.2.1 q (Nat.le_trans rel.2.2.1.1 hq)
theorem z_preA {ad : Nat → Nat} {H : Heap} {locs : List Loc} {cells slots : Nat} {ls : Array Slot} (F : z_Fix zn X d y p R s m args meth c D tc A ad0 n0 sl0 B) (rel : z_Rel y s D tc A ad0 n0 sl0 ad (pc, lv, sk, h) H locs cells slots ls) (as : List Value) :
    ∀ U : State, U.heap = H → s.WarmedH U.vm → z_Pc zn D tc ad H.size as h (as.map (z_v ad)).toArray U := by
  intro U hU hW
  refine ⟨rfl, by rw [hU], by rw [hU]; exact rel.1, F.2.2.2.2.2.2.2.2.2.1.moved hW.alike, rel.2.2.2.1.moved hW.alike, rel.2.1.weaken (fun _ _ _ _ => trivial), F.2.2.2.2.2.2.2.2.1.moved hW.alike, ?_⟩
  rw [hU]
  exact (((F.2.2.2.2.2.2.2.1.kept rel.2.2.1.2.1).narrow (z_freeA F rel)).ad (fun i hi => rel.2.2.2.2.2.2.2 i (Or.inr hi))).warm hW
/-- behind a call -/
theorem z_Rel.back {ad ad' : Nat → Nat} {H H1 : Heap} {locs locs1 : List Loc} {cells slots pc' : Nat} {ls : Array Slot} {rest : List Value} {v : Option Value} {h2 : z_H} {t : State} (F : z_Fix zn X d y p R s m args meth c D tc A ad0 n0 sl0 B) (rel : z_Rel y s D tc A ad0 n0 sl0 ad (pc, lv, sk, h) H locs cells slots ls)
    (hr : ∀ w ∈ rest, w ∈ sk) (hv : ∀ w ∈ v.toList, z_okv h2.1 w) (h1 : h.1 ≤ h2.1) (h12 : h.2.1 ≤ h2.2.1) (ht : t.heap = H1) (hvm : s.vm.Alike t.vm) (hB : z_B D tc (va_A (z_w ad tc h) H.size) ad h.1 h2 ad' t) (hS : va_S A s.heap H1 locs1) :
    z_Rel y s D tc A ad0 n0 sl0 ad' (pc', lv, v.toList ++ rest, h2) H1 locs1 (cells + (h2.1 - h.1)) (slots + (h2.2.1 - h.2.1)) ls ∧ rest.map (z_v ad') = rest.map (z_v ad) := by
  obtain ⟨hP1, hK1, hD1, hs1, ho1⟩ := hB
  rw [ht] at hP1
  have hfr := z_freeA F rel
  obtain ⟨g1, g2, g3, g4, g5, g6, ⟨g7, g8, g10⟩, g9⟩ := rel
  have g7' : sl0.1 + cells = h.1 + 1000 := g7
  have g8' : sl0.2 + slots = h.2.1 + 6000 := g8
  refine ⟨⟨hP1, hD1.weaken (fun k q _ hq => hfr q.1 hq), hS, hK1.moved hvm.symm, z_lok_same g5 hs1 g6.1, ⟨fun w hw => z_okv_mono h1 (g6.1 w hw), fun w hw => ?_, ho1⟩, ⟨?_, ?_, ?_⟩, fun i hi => ?_⟩, List.map_congr_left fun w hw => z_v_same hs1 (g6.2.1 w (hr w hw))⟩
  · rcases List.mem_append.mp hw with q | q
    · exact hv w q
    · exact z_okv_mono h1 (g6.2.1 w (hr w q))
  · show sl0.1 + (cells + (h2.1 - h.1)) = h2.1 + 1000
    omega
  · show sl0.2 + (slots + (h2.2.1 - h.2.1)) = h2.2.1 + 6000
    omega
  · show n0 ≤ h2.1
    have : n0 ≤ h.1 := g10
    omega
  · have : n0 ≤ h.1 := g10
    rw [hs1 i (by omega)]
    exact g9 i hi
theorem z_mg {y : Nat} (h : z_useok y = true) : plainName (z_mn y).cls = true ∧ Cond.code (z_mn y) (z_mc y) (z_ml y) (z_mr y) ∈ z_G ∧ Cond.initialized (z_mn y).cls ∈ z_G ∧ ((z_mn y).cls ≠ "java/lang/invoke/MethodHandle" ∧ (z_mn y).cls ≠ "java/lang/invoke/VarHandle" ∧ (parseMethodDescriptor (z_mn y).desc).map (fun d => d.parameters.length) = some (z_np y)) ∧ z_ml y ≤ 21 := by
  unfold z_useok z_mgood at h
  simp only [Bool.and_eq_true, decide_eq_true_eq] at h
  exact ⟨h.1.1.1.1.1.1, z_W_mem h.1.1.1.1.1.2, z_W_mem h.1.1.1.1.2, h.1.1.1.2, Nat.le_of_ble_eq_true h.1.1.2⟩
set_option maxRecDepth 100000 in
theorem z_arith {a b k : Nat} (h : 40 * a + 440 ≤ b) (hk : k ≤ 21) : 8 + (k + 11) + (40 * a + 400) ≤ b := by omega
set_option maxRecDepth 100000 in
theorem z_arith2 (d : Nat) : 40 * d + 440 ≤ 40 * (d + 1) + 400 := by omega
theorem z_rmok {mc ms k : Nat} (F : z_Fix zn X d y p R s m args meth c D tc A ad0 n0 sl0 B) (hk : k ≤ 21) : (z_rm d mc ms).frames + 1 ≤ R.frames ∧ 8 + (k + 11) + (z_rm d mc ms).locals ≤ R.locals := by
  obtain ⟨hF1, hF2, hF3, hF4, hF5⟩ := F.2.2.2.2.2.2.2.2.2.2.2
  exact ⟨Nat.le_trans (Nat.le_of_eq rfl) hF4, z_arith hF5 hk⟩
theorem z_callB {y' idx mc ms : Nat} (F : z_Fix zn X d y p R s m args meth c D tc A ad0 n0 sl0 B) (hu : z_useok y' = true) (hl : Cond.methodLink (z_own y) idx (z_mn y') ∈ z_G) :
    CallB R s args (z_own y) idx (z_mn y') (z_mc y') (z_ml y') (z_mr y') (z_ws y') (z_rm d mc ms) mc ms (z_np y') := by
  obtain ⟨u1, u2, u3, u4, u5⟩ := z_mg hu
  have hts := F.2.2.2.2.1
  obtain ⟨hF1, hF2, hF3, hF4, hF5⟩ := F.2.2.2.2.2.2.2.2.2.2.2
  exact callB_of (z_np y') hts (z_ws_in (fun _ h => h) u2) rfl rfl rfl (hts _ u3) (hts _ hl) u4 (z_rmok F u5)
theorem z_take {n : Nat} {sk : List Value} (h : n ≤ sk.length) (f : Value → Value) : ((sk.take n).reverse.map f).reverse ++ (sk.drop n).map f = sk.map f := by
  rw [← List.map_reverse, List.reverse_reverse, ← List.map_append, List.take_append_drop]
theorem z_csum (ad : Nat → Nat) (r : List Value) : ((r.map (z_v ad)).map fun v => v.category).sum = z_cs r := by
  unfold z_cs
  rw [List.map_map]
  congr 1
  exact List.map_congr_left fun v _ => z_v_cat ad v
/-- the walk goes on behind any call -/
theorem z_goon {mc ms : Nat} {y' : Nat} {as : List Value} {ad : Nat → Nat} {H : Heap} {locs : List Loc} {cells slots : Nat} {ls : Array Slot} {rest : List Value} {v : Option Value} {h2 : z_H} {aa : Array Value} (F : z_Fix zn X d y p R s m args meth c D tc A ad0 n0 sl0 B)
    (rel : z_Rel y s D tc A ad0 n0 sl0 ad (pc, lv, sk, h) H locs cells slots ls) (hr : ∀ w ∈ rest, w ∈ sk) (h1 : h.1 ≤ h2.1) (h12 : h.2.1 ≤ h2.2.1) (emc : mc = h2.1 - h.1) (ems : ms = h2.2.1 - h.2.1)
    (run : va_Run p l e R s m args below meth c H locs cells slots mc ms (F0 m pc ls (sk.map (z_v ad))) (rest.map (z_v ad)) (z_Qc D tc (va_A (z_w ad tc h) H.size) ad h.1 v h2 aa) (va_A (z_w ad tc h) H.size))
    (k : z_Go y p l e R s m args below meth c Q D tc A ad0 n0 sl0 (pc + 3, lv, v.toList ++ rest, h2)) : W p l e R s m args below meth c H locs cells slots Q (F0 m pc ls (sk.map (z_v ad))) := by
  subst emc; subst ems
  have hf := z_freeA F rel
  cases v with
  | none =>
    refine va_callv (a := aa) run rel.2.2.1 (fun q _ hq => hf q hq) hf (fun u t H1 locs1 ht hvm hw hB hz1 hk1 hS1 => ?_)
    obtain ⟨r1, r2⟩ := rel.back (pc' := pc + 3) (v := none) F hr (fun w hw => by cases hw) h1 h12 ht hvm hB hS1
    have K := k _ H1 locs1 _ _ ls r1
    simp only [Option.toList, List.nil_append, r2] at K
    exact K
  | some x =>
    cases x with
    | int r =>
      refine va_calli (a := aa) run rel.2.2.1 (fun q _ hq => hf q hq) hf (fun r' u t H1 locs1 ht hvm hw hB hz1 hk1 hS1 => ?_)
      subst hw
      obtain ⟨r1, r2⟩ := rel.back (pc' := pc + 3) (v := some (.int r')) F hr (fun w hw => by simp only [Option.toList, List.mem_singleton] at hw; rw [hw]; trivial) h1 h12 ht hvm hB hS1
      have K := k _ H1 locs1 _ _ ls r1
      simp only [Option.toList, List.cons_append, List.nil_append, List.map_cons, r2] at K
      exact K
    | ref i =>
      refine va_callr (a := aa) run rel.2.2.1 (fun q _ hq => hf q hq) hf (fun u ra t H1 locs1 ht hvm hw hB hz1 hk1 hS1 => ?_)
      obtain ⟨e1, hB⟩ := hB
      obtain ⟨r1, r2⟩ := rel.back (pc' := pc + 3) (v := some (.ref i)) F hr (fun w hw' => by simp only [Option.toList, List.mem_singleton] at hw'; rw [hw']; exact Or.inl hw) h1 h12 ht hvm hB hS1
      have K := k _ H1 locs1 _ _ ls r1
      simp only [Option.toList, List.cons_append, List.nil_append, List.map_cons, r2] at K
      rw [e1]; exact K
    | long r =>
      refine va_calll (a := aa) run rel.2.2.1 (fun q _ hq => hf q hq) hf (fun r' u t H1 locs1 ht hvm hw hB hz1 hk1 hS1 => ?_)
      subst hw
      obtain ⟨r1, r2⟩ := rel.back (pc' := pc + 3) (v := some (.long r')) F hr (fun w hw => by simp only [Option.toList, List.mem_singleton] at hw; rw [hw]; trivial) h1 h12 ht hvm hB hS1
      have K := k _ H1 locs1 _ _ ls r1
      simp only [Option.toList, List.cons_append, List.nil_append, List.map_cons, r2] at K
      exact K
    | float r => intro T hT Xs; obtain ⟨v, st0, t, T', L, g0, g1, g2, g3, g4, g5, g6⟩ := run T hT Xs; exact absurd g5 id
    | double r => intro T hT Xs; obtain ⟨v, st0, t, T', L, g0, g1, g2, g3, g4, g5, g6⟩ := run T hT Xs; exact absurd g5 id
    | null => intro T hT Xs; obtain ⟨v, st0, t, T', L, g0, g1, g2, g3, g4, g5, g6⟩ := run T hT Xs; exact absurd g5 id
    | retAddr r => intro T hT Xs; obtain ⟨v, st0, t, T', L, g0, g1, g2, g3, g4, g5, g6⟩ := run T hT Xs; exact absurd g5 id
def z_mtp (k : Nat) : (Nat × Nat) × (Nat × Nat) × (Nat × Nat) := ((z_mp k).2.2.1, (z_mp k).2.1, (z_mp k).1)
set_option maxRecDepth 100000 in
theorem z_mth : (z_W (z_mtp 29).1 (.static Lib.Math.max.name) = true ∧ z_W (z_mtp 29).2.1 (.initialized "java/lang/Math") = true ∧ z_W (z_mtp 29).2.2 (.code Lib.Math.max.name Lib.Math.max.code 2 (some .int)) = true) ∧ (z_W (z_mtp 31).1 (.static Lib.Math.min.name) = true ∧ z_W (z_mtp 31).2.2 (.code Lib.Math.min.name Lib.Math.min.code 2 (some .int)) = true) ∧
    (z_W (z_mtp 30).1 (.static Lib.MathLoose.max_long.x) = true ∧ z_W (z_mtp 30).2.2 (.code Lib.MathLoose.max_long.x Lib.MathLoose.max_long.code 4 (some .long)) = true) ∧ (z_W (z_mtp 32).1 (.static Lib.MathLoose.min_long.x) = true ∧ z_W (z_mtp 32).2.2 (.code Lib.MathLoose.min_long.x Lib.MathLoose.min_long.code 4 (some .long)) = true) := by decide +kernel
theorem zs_mi {f : Int32 → Int32 → Int32} (row : ∀ {H : Heap} {locs : List Loc} {cells slots : Nat} {ls : Array Slot} {rest : List Value} {a b : Int32}, z_ml y = ls.size → (rest.map fun v => v.category).sum ≤ 8 → cells ≤ R.cells → slots ≤ R.slots → W p l e R s m args below meth c H locs cells slots Q (F0 m (pc + 3) ls (.int (f a b) :: rest)) → W p l e R s m args below meth c H locs cells slots Q (F0 m pc ls (.int b :: .int a :: rest)))
    (F : z_Fix zn X d y p R s m args meth c D tc A ad0 n0 sl0 B) (hi : z_mi B (pc, lv, sk, h) f = some (st', P)) (hP : P) (k : z_Go y p l e R s m args below meth c Q D tc A ad0 n0 sl0 st') : z_Go y p l e R s m args below meth c Q D tc A ad0 n0 sl0 (pc, lv, sk, h) := by
  unfold z_mi at hi
  try dsimp only at hi
  split at hi
  · next _ b a r =>
    cases hi
    intro ad H locs cells slots ls rel
    have hn0 : sl0.1 + cells = h.1 + 1000 := rel.2.2.2.2.2.2.1.1
    have hs0 : sl0.2 + slots = h.2.1 + 6000 := rel.2.2.2.2.2.2.1.2.1
    obtain ⟨hF1, hF2, hF3, hF4, hF5⟩ := F.2.2.2.2.2.2.2.2.2.2.2
    obtain ⟨hP0, hP1, hP2⟩ := hP
    try dsimp only at hP1 hP2
    exact row rel.2.2.2.2.1.1.symm (by rw [z_csum]; exact hP0) (by omega) (by omega) (k ad H locs cells slots ls (rel.stk (fun q => z_okp trivial (z_okt (z_okt q)))))
  · cases hi
theorem zs_mj {f : Int64 → Int64 → Int64} (row : ∀ {H : Heap} {locs : List Loc} {cells slots : Nat} {ls : Array Slot} {rest : List Value} {a b : Int64}, z_ml y = ls.size → (rest.map fun v => v.category).sum ≤ 8 → cells ≤ R.cells → slots ≤ R.slots → W p l e R s m args below meth c H locs cells slots Q (F0 m (pc + 3) ls (.long (f a b) :: rest)) → W p l e R s m args below meth c H locs cells slots Q (F0 m pc ls (.long b :: .long a :: rest)))
    (F : z_Fix zn X d y p R s m args meth c D tc A ad0 n0 sl0 B) (hi : z_mj B (pc, lv, sk, h) f = some (st', P)) (hP : P) (k : z_Go y p l e R s m args below meth c Q D tc A ad0 n0 sl0 st') : z_Go y p l e R s m args below meth c Q D tc A ad0 n0 sl0 (pc, lv, sk, h) := by
  unfold z_mj at hi
  try dsimp only at hi
  split at hi
  · next _ b a r =>
    cases hi
    intro ad H locs cells slots ls rel
    have hn0 : sl0.1 + cells = h.1 + 1000 := rel.2.2.2.2.2.2.1.1
    have hs0 : sl0.2 + slots = h.2.1 + 6000 := rel.2.2.2.2.2.2.1.2.1
    obtain ⟨hF1, hF2, hF3, hF4, hF5⟩ := F.2.2.2.2.2.2.2.2.2.2.2
    obtain ⟨hP0, hP1, hP2⟩ := hP
    try dsimp only at hP1 hP2
    exact row rel.2.2.2.2.1.1.symm (by rw [z_csum]; exact hP0) (by omega) (by omega) (k ad H locs cells slots ls (rel.stk (fun q => z_okp trivial (z_okt (z_okt q)))))
  · cases hi
theorem z_acw : ∀ w ∈ [Cond.native arraycopyName, Cond.static arraycopyName, Cond.initialized "java/lang/System"], w ∈ z_G := by decide +kernel
theorem z_acn : nativeFrameWords "java/lang/System" "arraycopy" 5 ≤ 300 := by decide +kernel
/-- System.arraycopy out of an array that nobody writes: only what is told of it is read -/
theorem va_copyT {s : State} {p : Program} {l : Launch} {e : Env} {R : Room} {m : MethodId} {args : Array Value} {below : List Frame} {meth : Method} {c : Code} {H : Heap} {locs : List Loc} {cells slots : Nat} {Q : State → Prop} {pc : Nat} {ls : Array Slot} {rest : List Value} {D : va_G} {cl : List vw_C} {A : Nat → Prop} {a : Nat} {tys : List (ClassId × FieldType)} {ws : va_W} {cc : ByteArray} (hexec : p.tables.exec = Jvm.exec) (hb : c.code = cc) (hml : c.maxLocals = ls.size) {own : String} {index : Nat} (hown : s.vm.findClass own = some m.cls) (hlink : (Cond.methodLink own index arraycopyName).before args s = true) (hnat : (Cond.native arraycopyName).before args s = true) (hstat : (Cond.static arraycopyName).before args s = true) (hini : (Cond.initialized "java/lang/System").before args s = true)
    (hK : va_K D cl tys s) (hP : va_P D cl ws H) (hD : va_D A ws) (hS : va_S A s.heap H locs) {b0 n0 : Nat} {f : Nat → Int32} (hX : va_T .int b0 n0 (fun j => .int (f j)) A s s.heap) (q1 t1 : Nat) {c1 : ClassId} {n1 : Nat} {g : Nat → Int32} (ha1 : ws[q1]? = some (a, .inl (c1, n1, .inl g))) (ht1 : tys[t1]? = some (c1, .int))
    {sp dp n : Int32} (h1 : ¬ sp < 0) (h2 : ¬ dp < 0) (h3 : ¬ n < 0) (h4 : sp.toNatClampNeg + n.toNatClampNeg ≤ n0) (h5 : dp.toNatClampNeg + n.toNatClampNeg ≤ n1)
    (hfr : 1 ≤ R.frames) (hlo : (rest.map fun v => v.category).sum + (nativeFrameWords "java/lang/System" "arraycopy" 5 + 11) ≤ R.locals) (hdg : decode cc pc = .ok (.invokestatic index, 3))
    (kk : ∀ (H1 : Heap) (locs1 : List Loc), va_P D cl (ws.set q1 (a, .inl (c1, n1, .inl (va_cpy f g sp.toNatClampNeg dp.toNatClampNeg n.toNatClampNeg)))) H1 → va_D A (ws.set q1 (a, .inl (c1, n1, .inl (va_cpy f g sp.toNatClampNeg dp.toNatClampNeg n.toNatClampNeg)))) → va_S A s.heap H1 locs1 → W p l e R s m args below meth c H1 locs1 cells slots Q (F0 m (pc + 3) ls rest)) : W p l e R s m args below meth c H locs cells slots Q (F0 m pc ls (.int n :: .int dp :: .ref a :: .int sp :: .ref b0 :: rest)) := by
  have toN : ∀ z : Int32, ¬ z < 0 → z.toInt = (z.toNatClampNeg : Int) := fun z hz => by
    have q : (0 : Int) ≤ z.toInt := by simpa using Int32.le_iff_toInt_le.mp (Int32.not_lt.mp hz)
    show z.toInt = ((z.toInt.toNat : Nat) : Int)
    omega
  intro T hT X
  obtain ⟨src, s1, ⟨s2, kA, s3, cA, s4⟩, s5, s6, -, s7, s8⟩ := hX
  have hsrc : H[b0]? = some src := (hS.2.1 b0 (Array.getElem?_eq_some_iff.mp s1).1 s8).trans s1
  have hdst : H[a]? = some (vp_cell c1 (n1, .inl g)) := hP q1 _ ha1
  obtain ⟨-, kB, d3, cB, d4⟩ := (hK.2 t1 _ ht1).1 n1 (fun j => .int (g j))
  have hel : ∀ i : Nat, i < n.toNatClampNeg → src.slots.getD (sp.toNatClampNeg + i) .null = .int (f (sp.toNatClampNeg + i)) := fun i hi => by
    rw [Array.getD_eq_getD_getElem?, s7 _ (by omega)]
    rfl
  obtain ⟨vm', X', step⟩ := X.arraycopy hexec hown hlink hnat hstat hini (src := b0) (dst := a) (cs := src) (cd := vp_cell c1 (n1, .inl g)) (srcPos := sp) (destPos := dp) (n := n) (by rw [hT]; exact hsrc) (by rw [hT]; exact hdst)
    s2 (fun _ h => by cases h) s5 (fun h => by cases h) s3 d3 s4 d4 (by simp [refKind]) h1 h2 h3
    (by rw [toN sp h1, toN n h3]; omega)
    (by rw [toN dp h2, toN n h3]; show ¬ _ > ((arrV c1 n1 (fun j => .int (g j))).slots.size : Int); rw [arrV_size]; omega)
    (fun _ _ i hi => ⟨by rw [hel i hi]; rfl, by rw [hel i hi]; exact trivial⟩)
    (g := F0 m pc ls (.int n :: .int dp :: .ref a :: .int sp :: .ref b0 :: rest)) rfl (by rw [hml]) (rest := rest) rfl (by rw [hb]; exact hdg) hfr (by show 2 * 0 + _ + _ ≤ _; omega)
  have ec : copied src (vp_cell c1 (n1, .inl g)) sp dp n = vp_cell c1 (n1, .inl (va_cpy f g sp.toNatClampNeg dp.toNatClampNeg n.toNatClampNeg)) := va_copiedX (fun z => .int z) src c1 f g s7 h4
  rw [ec] at X' step
  generalize hnw : vp_cell c1 (n1, .inl (va_cpy f g sp.toNatClampNeg dp.toNatClampNeg n.toNatClampNeg)) = nw at X' step
  have hin : a < H.size := (Array.getElem?_eq_some_iff.mp hdst).1
  have hAa : A a := hD.2 q1 _ ha1
  have oth : ∀ q : Nat, q ≠ a → (H.setIfInBounds a nw)[q]? = H[q]? := fun q hq => by simp [Array.getElem?_setIfInBounds, Ne.symm hq]
  obtain ⟨t, u1, u2⟩ := kk _ _ (hP.set hD ha1 (show (H.setIfInBounds a nw)[a]? = some _ by rw [← hnw]; simp [Array.getElem?_setIfInBounds, hin]) oth) (hD.set ha1)
    ⟨by simp; exact hS.1, fun q w1 w2 => (oth q (fun e => w2 (e ▸ hAa))).trans (hS.2.1 q w1 w2), fun q hq => (List.mem_append.mp hq).elim (hS.2.2 q) (fun h => by
      obtain ⟨z, -, hz⟩ := List.mem_map.mp h
      rw [← hz]
      exact hAa)⟩ _ (show ((T.setVm vm').setCell a nw).heap = H.setIfInBounds a nw by rw [← hT]; rfl) X'
  exact ⟨t, step t u1, u2⟩
theorem z_roST (F : z_Fix zn X d y p R s m args meth c D tc A ad0 n0 sl0 B) {b : Nat} (e1 : z_RO + 200 ≤ b) (e2 : b ≤ z_RO + 207) : va_T .int (ad0 b) (z_sta.getD (b - (z_RO + 200)) []).length (fun j => .int ((z_sta.getD (b - (z_RO + 200)) []).getD j 0)) A s s.heap := by
  obtain ⟨-, -, -, -, -, -, -, hr, -⟩ := F
  have h := (hr.2.2.1 (b - (z_RO + 200)) (by omega)).2
  rwa [show z_RO + 200 + (b - (z_RO + 200)) = b by omega] at h
theorem zs_acp (F : z_Fix zn X d y p R s m args meth c D tc A ad0 n0 sl0 B) {i : Nat} (hd : decode (z_mc y) pc = .ok (.invokestatic i, 3)) (hg : Cond.methodLink (z_own y) i arraycopyName ∈ z_G)
    (hi : z_acp o (pc, lv, sk, h) = some (st', P)) (hP : P) (k : z_Go y p l e R s m args below meth c Q D tc A ad0 n0 sl0 st') : z_Go y p l e R s m args below meth c Q D tc A ad0 n0 sl0 (pc, lv, sk, h) := by
  have hts := F.2.2.2.2.1
  have hw := z_acw
  simp only [List.forall_mem_cons, List.not_mem_nil, false_imp_iff, implies_true, and_true] at hw
  unfold z_acp at hi
  try dsimp only at hi
  split at hi
  · next _ n dp a sp b r =>
   cases hro : o.1 with
   | true =>
    rw [hro] at hi
    simp only [cond_true] at hi
    split at hi
    · next n1 g P0 hx =>
      cases hi
      obtain ⟨hc, ⟨e1, e2⟩, g1, g2, g3, g4, g5, g6⟩ := hP
      obtain ⟨h1, h2⟩ := z_cellP hx hc
      intro ad H locs cells slots ls rel
      have hF4 := F.2.2.2.2.2.2.2.2.2.2.2.2.2.2.1
      have hF5 := F.2.2.2.2.2.2.2.2.2.2.2.2.2.2.2
      have hn := z_acn
      have hT := z_roST F e1 e2
      have hbR : Nat.ble z_RO b = true := Nat.ble_eq_true_of_le (by omega)
      show W p l e R s m args below meth c H locs cells slots Q (F0 m pc ls (.int n :: .int dp :: .ref (ad a) :: .int sp :: .ref (ad b) :: r.map (z_v ad)))
      rw [rel.adR hbR]
      refine va_copyT F.1 F.2.1 (F.2.2.1.trans rel.2.2.2.2.1.1.symm) F.2.2.2.1 (hts _ hg) (hts _ hw.1) (hts _ hw.2.1) (hts _ hw.2.2) (z_K1 F.2.2.2.2.2.2.2.2.2.1 (rel.2.2.2.1 a h2 0 _ h1)) rel.1 rel.2.1 rel.2.2.1 hT a 0 (rel.at0 h2 h1) rfl g1 g2 g3 g4 g5 (by omega) (by rw [z_csum]; omega) hd (fun H1 locs1 gP gD gS => ?_)
      exact k ad H1 locs1 cells slots ls (rel.hup (e := .inl (0, n1, .inl (va_cpy (fun j => (z_sta.getD (b - (z_RO + 200)) []).getD j 0) g sp.toNatClampNeg dp.toNatClampNeg n.toNatClampNeg))) h2 gP gD gS (fun t x e => by cases e; exact ⟨_, h1⟩) (fun _ _ => trivial) (fun q => z_okt (z_okt (z_okt (z_okt (z_okt q))))))
    · cases hi
   | false =>
    rw [hro] at hi
    simp only [cond_false] at hi
    split at hi
    · next n1 g P0 n0 f hx ho =>
      cases hi
      obtain ⟨hc, ⟨hb1, hb2⟩, g1, g2, g3, g4, g5, g6⟩ := hP
      obtain ⟨h1, h2⟩ := z_cellP hx hc
      intro ad H locs cells slots ls rel
      have hF4 := F.2.2.2.2.2.2.2.2.2.2.2.2.2.2.1
      have hF5 := F.2.2.2.2.2.2.2.2.2.2.2.2.2.2.2
      have hn := z_acn
      refine va_copyi F.1 F.2.1 (F.2.2.1.trans rel.2.2.2.2.1.1.symm) F.2.2.2.1 (hts _ hg) (hts _ hw.1) (hts _ hw.2.1) (hts _ hw.2.2) (z_K1 F.2.2.2.2.2.2.2.2.2.1 (rel.2.2.2.1 a h2 0 _ h1)) rel.1 rel.2.1 rel.2.2.1 b a 0 0 (rel.at0 hb2 hb1) (rel.at0 h2 h1) rfl rfl rfl g1 g2 g3 g4 g5 (fun _ _ => rfl) (by omega) (by rw [z_csum]; omega) hd (fun H1 locs1 gP gD gS => ?_)
      exact k ad H1 locs1 cells slots ls (rel.hup (e := .inl (0, n1, .inl (va_cpy f g sp.toNatClampNeg dp.toNatClampNeg n.toNatClampNeg))) h2 gP gD gS (fun t x e => by cases e; exact ⟨_, h1⟩) (fun _ _ => trivial) (fun q => z_okt (z_okt (z_okt (z_okt (z_okt q))))))
    · cases hi
  · cases hi
theorem zs_is (F : z_Fix zn X d y p R s m args meth c D tc A ad0 n0 sl0 B) (hS : z_Snd zn d) {i : Nat} {f : z_I} (hd : decode (z_mc y) pc = .ok (.invokestatic i, 3)) (hg : z_good1 y pc (.invokestatic i, 3, f) = true) (hms : (Nat.beq f.1 0 || Nat.beq f.1 1) = true → z_mstat f.2.1 = true)
    (hi : z_is (z_sem zn d) B o f (pc, lv, sk, h) = some (st', P)) (hP : P) (k : z_Go y p l e R s m args below meth c Q D tc A ad0 n0 sl0 st') : z_Go y p l e R s m args below meth c Q D tc A ad0 n0 sl0 (pc, lv, sk, h) := by
  have hts := F.2.2.2.2.1
  unfold z_is at hi
  try dsimp only at hi
  unfold z_good1 at hg
  dsimp only at hg hi
  cases h0 : Nat.beq f.1 0 with
  | false =>
    rw [h0] at hi hg
    simp only [cond_false] at hi hg
    have hF4 := F.2.2.2.2.2.2.2.2.2.2.2.2.2.2.1
    have hF5 := F.2.2.2.2.2.2.2.2.2.2.2.2.2.2.2
    cases h1 : Nat.beq f.1 1 with
    | true =>
      have hms := hms (by rw [h0, h1]; rfl)
      rw [h1] at hi hg
      simp only [cond_true, decide_eq_true_eq] at hi hg
      unfold z_call at hi
      try dsimp only at hi
      cases hi
      obtain ⟨hP0, hsem, hcs, q1, q2, q3, q4⟩ := hP
      try dsimp only at hP0 hsem hcs q1 q2 q3 q4
      intro ad H locs cells slots ls rel
      have hn0 : sl0.1 + cells = h.1 + 1000 := rel.2.2.2.2.2.2.1.1
      have hs0 : sl0.2 + slots = h.2.1 + 6000 := rel.2.2.2.2.2.2.1.2.1
      obtain ⟨hF1, hF2, hF3, hF4, hF5⟩ := F.2.2.2.2.2.2.2.2.2.2.2
      have hrest : ∀ w ∈ sk.drop (z_np f.2.1), w ∈ sk := fun w hw => List.mem_of_mem_drop hw
      have hargs : ∀ w ∈ (sk.take (z_np f.2.1)).reverse, z_okv h.1 w := fun w hw => rel.2.2.2.2.2.1.2.1 w (List.mem_of_mem_take (List.mem_reverse.mp hw))
      have hM := hS f.2.1 _ h o.2.2.1 o.2.2.2.1 hsem hargs rel.2.2.2.2.2.1.2.2 l D tc ad H.size
      obtain ⟨u1, u2, u3, u4, u5⟩ := z_mg (z_sem_ok hsem)
      have cb : va_CN R s args (z_own y) i (z_mn f.2.1) "FedClocks" (z_mc f.2.1) (z_ml f.2.1) (z_mr f.2.1) (z_ws f.2.1) (z_rm d (o.2.2.2.1.1 - h.1) (o.2.2.2.1.2.1 - h.2.1)) (o.2.2.2.1.1 - h.1) (o.2.2.2.1.2.1 - h.2.1) (z_np f.2.1) :=
        va_cnB (z_np f.2.1) hts (z_ws_in (fun _ h => h) u2) rfl rfl rfl (F.2.2.2.2.2.2.2.1.2.2.2.2.2.2 _ hg) (hts _ u3) u4 (z_rmok F u5)
      refine z_goon (y' := f.2.1) (as := (sk.take (z_np f.2.1)).reverse) F rel hrest q1 q2 rfl rfl (va_runSN (host := "FedClocks") (As := (sk.take (z_np f.2.1)).reverse.map (z_v ad)) ⟨F.1, F.2.1, F.2.2.1, F.2.2.2.1, hts⟩ hM ⟨cb, hts _ (z_W_mem hms), trivial⟩ ⟨z_blind, z_preA F rel _⟩ rfl ?_ rel.2.2.2.2.1.1 ?_ (lv_room ?_) hd ⟨?_, ?_⟩) k
      · rw [List.length_map, List.length_reverse, List.length_take]
        omega
      · exact (z_take hP0 (z_v ad)).symm
      · rw [z_csum]; exact hcs
      · omega
      · omega
    | false =>
    rw [h1] at hi hg
    simp only [cond_false] at hi hg
    cases h20 : Nat.beq f.1 20 with
    | true =>
      rw [h20] at hi hg
      exact zs_mi (fun e1 e2 e3 e4 q => va_mmax F.1 F.2.1 (F.2.2.1.trans e1) F.2.2.2.1 (hts _ (z_W_mem hg)) (hts _ (z_W_mem z_mth.1.1)) (hts _ (z_W_mem z_mth.1.2.1)) (hts _ (z_W_mem z_mth.1.2.2)) (by omega) (by omega) e3 e4 hd q) F hi hP k
    | false =>
      rw [h20] at hi hg
      simp only [cond_false] at hi hg
      cases h21 : Nat.beq f.1 21 with
      | true =>
        rw [h21] at hi hg
        exact zs_mi (fun e1 e2 e3 e4 q => va_mmin F.1 F.2.1 (F.2.2.1.trans e1) F.2.2.2.1 (hts _ (z_W_mem hg)) (hts _ (z_W_mem z_mth.2.1.1)) (hts _ (z_W_mem z_mth.1.2.1)) (hts _ (z_W_mem z_mth.2.1.2)) (by omega) (by omega) e3 e4 hd q) F hi hP k
      | false =>
        rw [h21] at hi hg
        simp only [cond_false] at hi hg
        cases h22 : Nat.beq f.1 22 with
        | true =>
          rw [h22] at hi hg
          exact zs_mj (fun e1 e2 e3 e4 q => va_mmax_long F.1 F.2.1 (F.2.2.1.trans e1) F.2.2.2.1 (hts _ (z_W_mem hg)) (hts _ (z_W_mem z_mth.2.2.1.1)) (hts _ (z_W_mem z_mth.1.2.1)) (hts _ (z_W_mem z_mth.2.2.1.2)) (by omega) (by omega) e3 e4 hd q) F hi hP k
        | false =>
          rw [h22] at hi hg
          simp only [cond_false] at hi hg
          cases h23 : Nat.beq f.1 23 with
          | true =>
            rw [h23] at hi hg
            exact zs_mj (fun e1 e2 e3 e4 q => va_mmin_long F.1 F.2.1 (F.2.2.1.trans e1) F.2.2.2.1 (hts _ (z_W_mem hg)) (hts _ (z_W_mem z_mth.2.2.2.1)) (hts _ (z_W_mem z_mth.1.2.1)) (hts _ (z_W_mem z_mth.2.2.2.2)) (by omega) (by omega) e3 e4 hd q) F hi hP k
          | false =>
            rw [h23] at hi hg
            simp only [cond_false] at hi hg
            cases h8 : Nat.beq f.1 8 with
            | true =>
              rw [h8] at hi hg
              exact zs_acp F hd (z_W_mem hg) hi hP k
            | false => rw [h8] at hi; cases hi
  | true =>
    have hms := hms (by rw [h0]; rfl)
    rw [h0] at hi hg
    simp only [cond_true] at hi hg
    unfold z_call at hi
    try dsimp only at hi
    cases hi
    obtain ⟨hP0, hsem, hcs, q1, q2, q3, q4⟩ := hP
    try dsimp only at hP0 hsem hcs q1 q2 q3 q4
    intro ad H locs cells slots ls rel
    have hn0 : sl0.1 + cells = h.1 + 1000 := rel.2.2.2.2.2.2.1.1
    have hs0 : sl0.2 + slots = h.2.1 + 6000 := rel.2.2.2.2.2.2.1.2.1
    obtain ⟨hF1, hF2, hF3, hF4, hF5⟩ := F.2.2.2.2.2.2.2.2.2.2.2
    have hrest : ∀ w ∈ sk.drop (z_np f.2.1), w ∈ sk := fun w hw => List.mem_of_mem_drop hw
    have hargs : ∀ w ∈ (sk.take (z_np f.2.1)).reverse, z_okv h.1 w := fun w hw => rel.2.2.2.2.2.1.2.1 w (List.mem_of_mem_take (List.mem_reverse.mp hw))
    have hM := hS f.2.1 _ h o.2.2.1 o.2.2.2.1 hsem hargs rel.2.2.2.2.2.1.2.2 l D tc ad H.size
    refine z_goon (y' := f.2.1) (as := (sk.take (z_np f.2.1)).reverse) F rel hrest q1 q2 rfl rfl (va_runS (As := (sk.take (z_np f.2.1)).reverse.map (z_v ad)) ⟨F.1, F.2.1, F.2.2.1, F.2.2.2.1, hts⟩ hM ⟨z_callB F (z_sem_ok hsem) (z_W_mem hg), hts _ (z_W_mem hms)⟩ ⟨z_blind, z_preA F rel _⟩ rfl ?_ rel.2.2.2.2.1.1 ?_ (lv_room ?_) hd ⟨?_, ?_⟩) k
    · rw [List.length_map, List.length_reverse, List.length_take]
      omega
    · exact (z_take hP0 (z_v ad)).symm
    · rw [z_csum]; exact hcs
    · omega
    · omega
theorem zs_iv (F : z_Fix zn X d y p R s m args meth c D tc A ad0 n0 sl0 B) (hS : z_Snd zn d) {i : Nat} {f : z_I} (hd : decode (z_mc y) pc = .ok (.invokevirtual i, 3)) (hg : z_good1 y pc (.invokevirtual i, 3, f) = true) (hms : z_mvirt f.2.1 = true ∧ (z_mk f.2.1 = 13 → (z_mn f.2.1).cls = "java/lang/String") ∧ (z_mk f.2.1 ≤ 12 → (z_mn f.2.1).cls = (z_cls (z_mk f.2.1)).1))
    (hi : z_iv (z_sem zn d) B o f (pc, lv, sk, h) = some (st', P)) (hP : P) (k : z_Go y p l e R s m args below meth c Q D tc A ad0 n0 sl0 st') : z_Go y p l e R s m args below meth c Q D tc A ad0 n0 sl0 (pc, lv, sk, h) := by
  have hts := F.2.2.2.2.1
  obtain ⟨hmv, hmS, hmK⟩ := hms
  unfold z_mvirt z_minst at hmv
  rw [Bool.and_eq_true] at hmv
  unfold z_iv at hi
  try dsimp only at hi
  unfold z_good1 at hg
  dsimp only at hg hi
  cases h0 : Nat.beq f.1 0 with
  | false => rw [h0] at hi; cases hi
  | true =>
    rw [h0] at hi hg
    simp only [cond_true] at hi hg
    split at hi
    · next a rest hdrop =>
      have key : ∀ (P0 : Prop), z_call (z_sem zn d) B o f.2.1 (.ref a :: (sk.take (z_np f.2.1)).reverse) rest (pc, lv, sk, h) P0 = some (st', P) → (P0 → z_np f.2.1 ≤ sk.length ∧ ∀ (ad : Nat → Nat) (H : Heap) (locs : List Loc) (cells slots : Nat) (ls : Array Slot), z_Rel y s D tc A ad0 n0 sl0 ad (pc, lv, sk, h) H locs cells slots ls → ∃ cell : Cell, H[ad a]? = some cell ∧ cell.vm.isStatics = false ∧ s.vm.findClass (z_mn f.2.1).cls = some cell.cls) → z_Go y p l e R s m args below meth c Q D tc A ad0 n0 sl0 (pc, lv, sk, h) := by
        intro P0 hi hcell
        unfold z_call at hi
        try dsimp only at hi
        cases hi
        obtain ⟨hP0, hsem, hcs, q1, q2, q3, q4⟩ := hP
        try dsimp only at hP0 hsem hcs q1 q2 q3 q4
        obtain ⟨hlen, hcell⟩ := hcell hP0
        intro ad H locs cells slots ls rel
        have hn0 : sl0.1 + cells = h.1 + 1000 := rel.2.2.2.2.2.2.1.1
        have hs0 : sl0.2 + slots = h.2.1 + 6000 := rel.2.2.2.2.2.2.1.2.1
        obtain ⟨hF1, hF2, hF3, hF4, hF5⟩ := F.2.2.2.2.2.2.2.2.2.2.2
        have hsub : ∀ w ∈ (Value.ref a :: rest), w ∈ sk := fun w hw => List.mem_of_mem_drop (by rw [hdrop]; exact hw)
        have hrest : ∀ w ∈ rest, w ∈ sk := fun w hw => hsub w (List.mem_cons_of_mem _ hw)
        have hargs : ∀ w ∈ (Value.ref a :: (sk.take (z_np f.2.1)).reverse), z_okv h.1 w := fun w hw => by
          rcases List.mem_cons.mp hw with q | q
          · rw [q]; exact rel.2.2.2.2.2.1.2.1 _ (hsub _ List.mem_cons_self)
          · exact rel.2.2.2.2.2.1.2.1 w (List.mem_of_mem_take (List.mem_reverse.mp q))
        have hM := hS f.2.1 _ h o.2.2.1 o.2.2.2.1 hsem hargs rel.2.2.2.2.2.1.2.2 l D tc ad H.size
        refine z_goon (y' := f.2.1) (as := (sk.take (z_np f.2.1)).reverse) F rel hrest q1 q2 rfl rfl (va_runV (C := (z_mn f.2.1).cls) (b := ad a) (As := (sk.take (z_np f.2.1)).reverse.map (z_v ad)) ⟨F.1, F.2.1, F.2.2.1, F.2.2.2.1, hts⟩ hM ⟨z_callB F (z_sem_ok hsem) (z_W_mem hg), hts _ (z_W_mem hmv.1), hts _ (z_W_mem hmv.2)⟩ ⟨z_blind, hcell ad H locs cells slots ls rel, z_preA F rel _⟩ rfl ?_ rel.2.2.2.2.1.1 ?_ (lv_room ?_) hd ⟨?_, ?_⟩) k
        · rw [List.length_map, List.length_reverse, List.length_take]
          omega
        · have := z_take hlen (z_v ad)
          rw [hdrop] at this
          exact this.symm
        · rw [z_csum]; exact hcs
        · omega
        · omega
      cases hb : z_rc o a with
      | true =>
        rw [hb] at hi
        simp only [cond_true] at hi
        cases hc : (Nat.ble a (z_RO + 5) && Nat.beq (z_mk f.2.1) 13) with
        | false => rw [hc] at hi; cases hi
        | true =>
          rw [hc] at hi
          simp only [cond_true] at hi
          rw [Bool.and_eq_true] at hc
          have hlo := Nat.le_of_ble_eq_true (z_rct hb)
          have hup := Nat.le_of_ble_eq_true hc.1
          refine key _ hi (fun hP0 => ⟨hP0, fun ad H locs cells slots ls rel => ?_⟩)
          rw [hmS (Nat.eq_of_beq_eq_true hc.2), rel.adR (z_rct hb)]
          have := vk_recv (i := a - z_RO) F.2.2.2.2.2.2.2.1.1 (by omega) rel.2.2.1
          rw [show z_RO + (a - z_RO) = a by omega] at this
          exact this
      | false =>
        rw [hb] at hi
        simp only [cond_false] at hi
        split at hi
        · next ci fs P0 hx =>
          cases hc : (Nat.beq ci (z_mk f.2.1) && Nat.ble ci 12) with
          | false => rw [hc] at hi; cases hi
          | true =>
            rw [hc] at hi
            simp only [cond_true] at hi
            rw [Bool.and_eq_true] at hc
            have eci := Nat.eq_of_beq_eq_true hc.1
            have hle := Nat.le_of_ble_eq_true hc.2
            refine key _ hi (fun hP0 => ⟨hP0.2, fun ad H locs cells slots ls rel => ?_⟩)
            obtain ⟨h1, h2⟩ := z_cellP hx hP0.1
            rw [hmK (by omega), ← eci]
            exact va_recv (z_K0 F.2.2.2.2.2.2.2.2.2.1) rel.1 (z_cl_at hle) (rel.at0 h2 h1)
        · cases hi
    · cases hi
theorem zs_ip (F : z_Fix zn X d y p R s m args meth c D tc A ad0 n0 sl0 B) (hS : z_Snd zn d) (hob : z_W z_op.1 (.instanceMethod Lib.objectInit) = true ∧ z_W z_op.2 (.code Lib.objectInit ⟨#[0xb1]⟩ 1 none) = true) {i : Nat} {f : z_I} (hd : decode (z_mc y) pc = .ok (.invokespecial i, 3)) (hg : z_good1 y pc (.invokespecial i, 3, f) = true) (hms : Nat.ble f.1 1 = true → z_minst f.2.1 = true ∧ z_mr f.2.1 = none)
    (hi : z_ip0 (z_sem zn d) B o f (pc, lv, sk, h) = some (st', P)) (hP : P) (k : z_Go y p l e R s m args below meth c Q D tc A ad0 n0 sl0 st') : z_Go y p l e R s m args below meth c Q D tc A ad0 n0 sl0 (pc, lv, sk, h) := by
  have hts := F.2.2.2.2.1
  unfold z_ip0 at hi
  try dsimp only at hi
  unfold z_good1 at hg
  dsimp only at hg hi
  cases h7 : Nat.beq f.1 7 with
  | true =>
    rw [h7] at hi hg
    simp only [cond_true] at hi hg
    split at hi
    · next _ a rest =>
      cases hi
      intro ad H locs cells slots ls rel
      obtain ⟨hF1, hF2, hF3, hF4, hF5⟩ := F.2.2.2.2.2.2.2.2.2.2.2
      have hcs : z_cs rest ≤ 8 := hP
      refine W.objInit F.1 F.2.1 F.2.2.2.1 (hts _ (z_W_mem hg)) (hts _ (z_W_mem hob.1)) (hts _ (z_W_mem hob.2)) rfl (by rw [F.2.2.1]; exact rel.2.2.2.2.1.1) rfl hd (by omega) ?_ ?_
      · have := lv_room (m := m) (pc := pc) (ls := ls) (rest := (Value.ref a :: rest).map (z_v ad)) (st := rest.map (z_v ad)) (by rw [z_csum]; exact hcs)
        exact Nat.le_trans (Nat.add_le_add_right this 12) (by omega)
      · exact W.eq (g2 := F0 m (pc + 3) ls (rest.map (z_v ad))) rfl (k ad H locs cells slots ls (rel.stk z_okt))
    · cases hi
  | false =>
    rw [h7] at hi hg
    simp only [cond_false] at hi hg
    cases h1 : Nat.ble f.1 1 with
    | false => rw [h1] at hi; cases hi
    | true =>
      rw [h1] at hi
      simp only [cond_true] at hi
      obtain ⟨hmi, hmr⟩ := hms h1
      split at hi
      · next a rest hdrop =>
        unfold z_call at hi
        try dsimp only at hi
        cases hi
        obtain ⟨⟨hlen, hv0⟩, hsem, hcs, q1, q2, q3, q4⟩ := hP
        try dsimp only at hlen hsem hcs q1 q2 q3 q4
        intro ad H locs cells slots ls rel
        have hn0 : sl0.1 + cells = h.1 + 1000 := rel.2.2.2.2.2.2.1.1
        have hs0 : sl0.2 + slots = h.2.1 + 6000 := rel.2.2.2.2.2.2.1.2.1
        obtain ⟨hF1, hF2, hF3, hF4, hF5⟩ := F.2.2.2.2.2.2.2.2.2.2.2
        have hsub : ∀ w ∈ (Value.ref a :: rest), w ∈ sk := fun w hw => List.mem_of_mem_drop (by rw [hdrop]; exact hw)
        have hrest : ∀ w ∈ rest, w ∈ sk := fun w hw => hsub w (List.mem_cons_of_mem _ hw)
        have hargs : ∀ w ∈ (Value.ref a :: (sk.take (z_np f.2.1)).reverse), z_okv h.1 w := fun w hw => by
          rcases List.mem_cons.mp hw with q | q
          · rw [q]; exact rel.2.2.2.2.2.1.2.1 _ (hsub _ List.mem_cons_self)
          · exact rel.2.2.2.2.2.1.2.1 w (List.mem_of_mem_take (List.mem_reverse.mp q))
        have hM := hS f.2.1 _ h o.2.2.1 o.2.2.2.1 hsem hargs rel.2.2.2.2.2.1.2.2 l D tc ad H.size
        have hu := z_sem_ok hsem
        obtain ⟨u1, u2, u3, u4, u5⟩ := z_mg hu
        have hstk : ((sk.take (z_np f.2.1)).reverse.map (z_v ad)).reverse ++ .ref (ad a) :: rest.map (z_v ad) = sk.map (z_v ad) := by
          have := z_take hlen (z_v ad)
          rw [hdrop] at this
          exact this
        have hnl : ((sk.take (z_np f.2.1)).reverse.map (z_v ad)).length = z_np f.2.1 := by
          rw [List.length_map, List.length_reverse, List.length_take]
          omega
        cases hz : Nat.beq f.1 0 with
        | true =>
          rw [hz] at hg
          simp only [cond_true, Bool.and_eq_true, decide_eq_true_eq] at hg
          have cb := z_callB (mc := o.2.2.2.1.1 - h.1) (ms := o.2.2.2.1.2.1 - h.2.1) F hu (z_W_mem hg.1)
          rw [hmr] at cb
          refine z_goon (y' := f.2.1) (as := (sk.take (z_np f.2.1)).reverse) F rel hrest q1 q2 rfl rfl (va_runI (b := ad a) (As := (sk.take (z_np f.2.1)).reverse.map (z_v ad)) ⟨F.1, F.2.1, F.2.2.1, F.2.2.2.1, hts⟩ hM ⟨cb, hg.2, hts _ (z_W_mem hmi)⟩ ⟨z_blind, z_preA F rel _⟩ rfl hnl rel.2.2.2.2.1.1 hstk.symm (lv_room (by rw [z_csum]; exact hcs)) hd ⟨by omega, by omega⟩) k
        | false =>
          rw [hz] at hg
          simp only [cond_false] at hg
          have h11 : Nat.beq f.1 1 = true := by
            have h3 := Nat.le_of_ble_eq_true h1
            have h4 : f.1 ≠ 0 := fun q => by rw [q] at hz; exact absurd hz (by decide)
            have h5 : f.1 = 1 := by omega
            rw [h5]
            rfl
          rw [h11] at hg
          simp only [cond_true, Bool.and_eq_true, decide_eq_true_eq] at hg
          have cb : va_CN R s args (z_own y) i (z_mn f.2.1) "FedClocks" (z_mc f.2.1) (z_ml f.2.1) (z_mr f.2.1) (z_ws f.2.1) (z_rm d (o.2.2.2.1.1 - h.1) (o.2.2.2.1.2.1 - h.2.1)) (o.2.2.2.1.1 - h.1) (o.2.2.2.1.2.1 - h.2.1) (z_np f.2.1) :=
            va_cnB (z_np f.2.1) hts (z_ws_in (fun _ h => h) u2) rfl rfl rfl (F.2.2.2.2.2.2.2.1.2.2.2.2.2.2 _ hg.1) (hts _ u3) u4 (z_rmok F u5)
          rw [hmr] at cb
          refine z_goon (y' := f.2.1) (as := (sk.take (z_np f.2.1)).reverse) F rel hrest q1 q2 rfl rfl (va_runIN (host := "FedClocks") (b := ad a) (As := (sk.take (z_np f.2.1)).reverse.map (z_v ad)) ⟨F.1, F.2.1, F.2.2.1, F.2.2.2.1, hts⟩ hM ⟨cb, hg.2, hts _ (z_W_mem hmi)⟩ ⟨z_blind, z_preA F rel _⟩ rfl hnl rel.2.2.2.2.1.1 hstk.symm (lv_room (by rw [z_csum]; exact hcs)) hd ⟨by omega, by omega⟩) k
      · cases hi
end ZC
