/-! EACH INSTRUCTION: a step over places is a step of the machine -/
theorem z_cl_at {ci : Nat} (h : ci ≤ 12) : z_cl[ci]? = some ((z_cls ci).1, (z_cls ci).2.1, (z_cls ci).2.2) := by
  rcases (show ci = 0 ∨ ci = 1 ∨ ci = 2 ∨ ci = 3 ∨ ci = 4 ∨ ci = 5 ∨ ci = 6 ∨ ci = 7 ∨ ci = 8 ∨ ci = 9 ∨ ci = 10 ∨ ci = 11 ∨ ci = 12 by omega) with rfl | rfl | rfl | rfl | rfl | rfl | rfl | rfl | rfl | rfl | rfl | rfl | rfl <;> rfl
def z_uw : Bool := (List.range 13).all (fun ci => (List.range (z_cls ci).2.2).all (fun j => z_W (z_lp ci j) (u_lay (z_cls ci).1 (z_cls ci).2.1 j)))
set_option maxRecDepth 100000 in
theorem z_uw_ok : z_uw = true := by decide +kernel
theorem z_uws {ci : Nat} (h : ci ≤ 12) : ∀ w ∈ u_ws (z_cls ci).1 (z_cls ci).2.1 (z_cls ci).2.2, w ∈ z_G := by
  intro w hw
  unfold u_ws at hw
  obtain ⟨j, hj, rfl⟩ := List.mem_map.mp hw
  have h1 := List.all_eq_true.mp z_uw_ok ci (List.mem_range.mpr (by omega))
  exact z_W_mem (List.all_eq_true.mp h1 j hj)
def z_ipk : Bool := (List.range 13).all (fun ci => z_W (z_ip ci).1 (.instantiable (z_cls ci).1 (z_cls ci).2.2) && z_W (z_ip ci).2 (.initialized (z_cls ci).1))
set_option maxRecDepth 100000 in
theorem z_ipk_ok : z_ipk = true := by decide +kernel
theorem z_ips {ci : Nat} (h : ci ≤ 12) : Cond.instantiable (z_cls ci).1 (z_cls ci).2.2 ∈ z_G ∧ Cond.initialized (z_cls ci).1 ∈ z_G := by
  have h1 := List.all_eq_true.mp z_ipk_ok ci (List.mem_range.mpr (by omega))
  rw [Bool.and_eq_true] at h1
  exact ⟨z_W_mem h1.1, z_W_mem h1.2⟩
def z_ftk : Bool := (List.range 13).all (fun ci => (List.range (z_cls ci).2.2).all (fun j => decide (parseFieldDescriptor ((z_cls ci).2.1 j).2.2.1 = some (z_cty ci j)) && (List.range (z_cls ci).2.2).all (fun i => Nat.beq i j || decide (((z_cls ci).2.1 j).2.1 ≠ ((z_cls ci).2.1 i).2.1))))
set_option maxRecDepth 100000 in
theorem z_ftk_ok : z_ftk = true := by decide +kernel
theorem z_fty {ci : Nat} (h : ci ≤ 12) : ∀ k, k < (z_cls ci).2.2 → parseFieldDescriptor ((z_cls ci).2.1 k).2.2.1 = some (z_cty ci k) := fun k hk => by
  have h1 := List.all_eq_true.mp (List.all_eq_true.mp z_ftk_ok ci (List.mem_range.mpr (by omega))) k (List.mem_range.mpr hk)
  rw [Bool.and_eq_true, decide_eq_true_eq] at h1
  exact h1.1
theorem z_fnm {ci : Nat} (h : ci ≤ 12) : ∀ a, a < (z_cls ci).2.2 → ∀ b, b < (z_cls ci).2.2 → a ≠ b → ((z_cls ci).2.1 a).2.1 ≠ ((z_cls ci).2.1 b).2.1 := fun a ha b hb hab => by
  have h1 := List.all_eq_true.mp (List.all_eq_true.mp z_ftk_ok ci (List.mem_range.mpr (by omega))) a (List.mem_range.mpr ha)
  rw [Bool.and_eq_true] at h1
  have h2 := List.all_eq_true.mp h1.2 b (List.mem_range.mpr hb)
  rw [Bool.or_eq_true, decide_eq_true_eq] at h2
  rcases h2 with h2 | h2
  · exact absurd (Nat.eq_of_beq_eq_true h2).symm hab
  · exact h2
theorem z_cellP {o : z_O} {h : z_H} {i : Nat} {e : z_E} {P : Prop} (hc : z_cell o h i = (e, P)) (hP : P) : h.2.2 i = e ∧ i < h.1 := by
  unfold z_cell at hc
  split at hc
  · cases hc; exact hP
  · cases hc; exact ⟨rfl, hP⟩
section ZS
variable {zn : Bool} {X : z_X} {d y : Nat} {p : Program} {l : Launch} {e : Env} {R : Room} {s : State} {m : MethodId} {args : Array Value} {below : List Frame} {meth : Method} {c : Code} {Q : State → Prop} {D : va_G} {tc : Nat → ClassId} {A : Nat → Prop} {ad0 : Nat → Nat} {n0 : Nat} {sl0 : Nat × Nat} {B : Nat × Nat}
variable {o : z_O} {pc : Nat} {lv : List (Option Value)} {sk : List Value} {h : z_H} {st' : z_S} {P : Prop}
theorem zs_push {v : Value} {len : Nat} (hv : ∀ ad n, z_v ad v = v ∧ z_okv n v)
    (row : ∀ {H : Heap} {locs : List Loc} {cells slots : Nat} {ls : Array Slot} {rest : List Value}, W p l e R s m args below meth c H locs cells slots Q (F0 m (pc + len) ls (v :: rest)) → W p l e R s m args below meth c H locs cells slots Q (F0 m pc ls rest))
    (hi : z_push (pc, lv, sk, h) len v = some (st', P)) (k : z_Go y p l e R s m args below meth c Q D tc A ad0 n0 sl0 st') : z_Go y p l e R s m args below meth c Q D tc A ad0 n0 sl0 (pc, lv, sk, h) := by
  unfold z_push at hi
  try dsimp only at hi
  cases hi
  intro ad H locs cells slots ls rel
  have := k ad H locs cells slots ls (rel.stk (fun q => z_okp (hv ad _).2 q))
  simp only [List.map_cons, (hv ad 0).1] at this
  exact row this
theorem zs_ild {len i : Nat}
    (row : ∀ {H : Heap} {locs : List Loc} {cells slots : Nat} {ls : Array Slot} {rest : List Value} {x : Int32}, ls[i]? = some (.val (.int x)) → W p l e R s m args below meth c H locs cells slots Q (F0 m (pc + len) ls (.int x :: rest)) → W p l e R s m args below meth c H locs cells slots Q (F0 m pc ls rest))
    (hi : z_ild (pc, lv, sk, h) len i = some (st', P)) (k : z_Go y p l e R s m args below meth c Q D tc A ad0 n0 sl0 st') : z_Go y p l e R s m args below meth c Q D tc A ad0 n0 sl0 (pc, lv, sk, h) := by
  unfold z_ild at hi
  try dsimp only at hi
  split at hi
  · next x hx =>
    unfold z_push at hi
    try dsimp only at hi
    cases hi
    intro ad H locs cells slots ls rel
    exact row (rel.2.2.2.2.1.2.2 i _ hx) (k ad H locs cells slots ls (rel.stk (fun q => z_okp trivial q)))
  · cases hi
theorem zs_lld {len i : Nat}
    (row : ∀ {H : Heap} {locs : List Loc} {cells slots : Nat} {ls : Array Slot} {rest : List Value} {x : Int64}, ls[i]? = some (.val (.long x)) → W p l e R s m args below meth c H locs cells slots Q (F0 m (pc + len) ls (.long x :: rest)) → W p l e R s m args below meth c H locs cells slots Q (F0 m pc ls rest))
    (hi : z_lld (pc, lv, sk, h) len i = some (st', P)) (k : z_Go y p l e R s m args below meth c Q D tc A ad0 n0 sl0 st') : z_Go y p l e R s m args below meth c Q D tc A ad0 n0 sl0 (pc, lv, sk, h) := by
  unfold z_lld at hi
  try dsimp only at hi
  split at hi
  · next x hx =>
    unfold z_push at hi
    try dsimp only at hi
    cases hi
    intro ad H locs cells slots ls rel
    exact row (rel.2.2.2.2.1.2.2 i _ hx) (k ad H locs cells slots ls (rel.stk (fun q => z_okp trivial q)))
  · cases hi
theorem zs_ald {len i : Nat}
    (row : ∀ {H : Heap} {locs : List Loc} {cells slots : Nat} {ls : Array Slot} {rest : List Value} {x : Nat}, ls[i]? = some (.val (.ref x)) → W p l e R s m args below meth c H locs cells slots Q (F0 m (pc + len) ls (.ref x :: rest)) → W p l e R s m args below meth c H locs cells slots Q (F0 m pc ls rest))
    (hi : z_ald (pc, lv, sk, h) len i = some (st', P)) (k : z_Go y p l e R s m args below meth c Q D tc A ad0 n0 sl0 st') : z_Go y p l e R s m args below meth c Q D tc A ad0 n0 sl0 (pc, lv, sk, h) := by
  unfold z_ald at hi
  try dsimp only at hi
  split at hi
  · next x hx =>
    unfold z_push at hi
    try dsimp only at hi
    cases hi
    intro ad H locs cells slots ls rel
    exact row (rel.2.2.2.2.1.2.2 i _ hx) (k ad H locs cells slots ls (rel.stk (fun q => z_okp (rel.2.2.2.2.2.1.1 _ (List.mem_of_getElem? hx)) q)))
  · cases hi
theorem zs_ist {len i : Nat}
    (row : ∀ {H : Heap} {locs : List Loc} {cells slots : Nat} {ls : Array Slot} {rest : List Value} {x : Int32} {l0 : List (Nat × Value)}, lv_has ls (z_ml y) l0 → (∀ ls' : Array Slot, lv_has ls' (z_ml y) ((i, .int x) :: l0.filter (fun q => !(q.1 == i) && !(q.1 + 1 == i && q.2.category == 2))) → W p l e R s m args below meth c H locs cells slots Q (F0 m (pc + len) ls' rest)) → W p l e R s m args below meth c H locs cells slots Q (F0 m pc ls (.int x :: rest)))
    (hi : z_ist (pc, lv, sk, h) len i = some (st', P)) (k : z_Go y p l e R s m args below meth c Q D tc A ad0 n0 sl0 st') : z_Go y p l e R s m args below meth c Q D tc A ad0 n0 sl0 (pc, lv, sk, h) := by
  unfold z_ist at hi
  try dsimp only at hi
  split at hi
  · next _ x r =>
    cases hi
    intro ad H locs cells slots ls rel
    exact row (z_lok_has rel.2.2.2.2.1) (fun ls' h' => k ad H locs cells slots ls' (rel.loc (z_lok_st1 (ls := ls) rfl h') (fun _ => trivial) z_okt))
  · cases hi
theorem zs_lst {len i : Nat}
    (row : ∀ {H : Heap} {locs : List Loc} {cells slots : Nat} {ls : Array Slot} {rest : List Value} {x : Int64} {l0 : List (Nat × Value)}, lv_has ls (z_ml y) l0 → (∀ ls' : Array Slot, lv_has ls' (z_ml y) ((i, .long x) :: l0.filter (fun q => !(q.1 == i) && (!(q.1 == i + 1) && !(q.1 + 1 == i && q.2.category == 2)))) → W p l e R s m args below meth c H locs cells slots Q (F0 m (pc + len) ls' rest)) → W p l e R s m args below meth c H locs cells slots Q (F0 m pc ls (.long x :: rest)))
    (hi : z_lst (pc, lv, sk, h) len i = some (st', P)) (k : z_Go y p l e R s m args below meth c Q D tc A ad0 n0 sl0 st') : z_Go y p l e R s m args below meth c Q D tc A ad0 n0 sl0 (pc, lv, sk, h) := by
  unfold z_lst at hi
  try dsimp only at hi
  split at hi
  · next _ x r =>
    cases hi
    intro ad H locs cells slots ls rel
    exact row (z_lok_has rel.2.2.2.2.1) (fun ls' h' => k ad H locs cells slots ls' (rel.loc (z_lok_st2 (ls := ls) rfl h') (fun _ => trivial) z_okt))
  · cases hi
theorem zs_ast {len i : Nat}
    (row : ∀ {H : Heap} {locs : List Loc} {cells slots : Nat} {ls : Array Slot} {rest : List Value} {x : Nat} {l0 : List (Nat × Value)}, lv_has ls (z_ml y) l0 → (∀ ls' : Array Slot, lv_has ls' (z_ml y) ((i, .ref x) :: l0.filter (fun q => !(q.1 == i) && !(q.1 + 1 == i && q.2.category == 2))) → W p l e R s m args below meth c H locs cells slots Q (F0 m (pc + len) ls' rest)) → W p l e R s m args below meth c H locs cells slots Q (F0 m pc ls (.ref x :: rest)))
    (hi : z_ast (pc, lv, sk, h) len i = some (st', P)) (k : z_Go y p l e R s m args below meth c Q D tc A ad0 n0 sl0 st') : z_Go y p l e R s m args below meth c Q D tc A ad0 n0 sl0 (pc, lv, sk, h) := by
  unfold z_ast at hi
  try dsimp only at hi
  split at hi
  · next _ x r =>
    cases hi
    intro ad H locs cells slots ls rel
    exact row (z_lok_has rel.2.2.2.2.1) (fun ls' h' => k ad H locs cells slots ls' (rel.loc (v := .ref x) (z_lok_st1 (ls := ls) rfl h') z_okh z_okt))
  · cases hi
theorem zs_iinc {i : Nat} {n : Int}
    (row : ∀ {H : Heap} {locs : List Loc} {cells slots : Nat} {ls : Array Slot} {rest : List Value} {x : Int32} {l0 : List (Nat × Value)} {k0 : Nat}, lv_has ls (z_ml y) l0 → l0[k0]? = some (i, .int x) → (∀ ls' : Array Slot, lv_has ls' (z_ml y) ((i, .int (x + Int32.ofInt n)) :: l0.filter (fun q => !(q.1 == i) && !(q.1 + 1 == i && q.2.category == 2))) → W p l e R s m args below meth c H locs cells slots Q (F0 m (pc + 3) ls' rest)) → W p l e R s m args below meth c H locs cells slots Q (F0 m pc ls rest))
    (hi : z_iinc (pc, lv, sk, h) i n = some (st', P)) (k : z_Go y p l e R s m args below meth c Q D tc A ad0 n0 sl0 st') : z_Go y p l e R s m args below meth c Q D tc A ad0 n0 sl0 (pc, lv, sk, h) := by
  unfold z_iinc at hi
  try dsimp only at hi
  split at hi
  · next x hx =>
    cases hi
    intro ad H locs cells slots ls rel
    obtain ⟨k0, hk0⟩ := List.mem_iff_getElem?.mp (z_ll_mem (ad := ad) hx)
    exact row (z_lok_has rel.2.2.2.2.1) hk0 (fun ls' h' => k ad H locs cells slots ls' (rel.loc (v := .int (x + Int32.ofInt n)) (z_lok_st1 (ls := ls) rfl h') (fun _ => trivial) id))
  · cases hi
theorem zs_ii {f : Int32 → Int32 → Int32} {P0 : Int32 → Prop}
    (row : ∀ {H : Heap} {locs : List Loc} {cells slots : Nat} {ls : Array Slot} {rest : List Value} {a b : Int32}, P0 b → W p l e R s m args below meth c H locs cells slots Q (F0 m (pc + 1) ls (.int (f a b) :: rest)) → W p l e R s m args below meth c H locs cells slots Q (F0 m pc ls (.int b :: .int a :: rest)))
    (hi : z_ii (pc, lv, sk, h) f P0 = some (st', P)) (hP : P) (k : z_Go y p l e R s m args below meth c Q D tc A ad0 n0 sl0 st') : z_Go y p l e R s m args below meth c Q D tc A ad0 n0 sl0 (pc, lv, sk, h) := by
  unfold z_ii at hi
  try dsimp only at hi
  split at hi
  · next _ b a r =>
    cases hi
    intro ad H locs cells slots ls rel
    exact row hP (k ad H locs cells slots ls (rel.stk (fun q => z_okp trivial (z_okt (z_okt q)))))
  · cases hi
theorem zs_jj {f : Int64 → Int64 → Int64} {P0 : Int64 → Prop}
    (row : ∀ {H : Heap} {locs : List Loc} {cells slots : Nat} {ls : Array Slot} {rest : List Value} {a b : Int64}, P0 b → W p l e R s m args below meth c H locs cells slots Q (F0 m (pc + 1) ls (.long (f a b) :: rest)) → W p l e R s m args below meth c H locs cells slots Q (F0 m pc ls (.long b :: .long a :: rest)))
    (hi : z_jj (pc, lv, sk, h) f P0 = some (st', P)) (hP : P) (k : z_Go y p l e R s m args below meth c Q D tc A ad0 n0 sl0 st') : z_Go y p l e R s m args below meth c Q D tc A ad0 n0 sl0 (pc, lv, sk, h) := by
  unfold z_jj at hi
  try dsimp only at hi
  split at hi
  · next _ b a r =>
    cases hi
    intro ad H locs cells slots ls rel
    exact row hP (k ad H locs cells slots ls (rel.stk (fun q => z_okp trivial (z_okt (z_okt q)))))
  · cases hi
theorem zs_ji {f : Int64 → Int32 → Int64}
    (row : ∀ {H : Heap} {locs : List Loc} {cells slots : Nat} {ls : Array Slot} {rest : List Value} {a : Int64} {b : Int32}, W p l e R s m args below meth c H locs cells slots Q (F0 m (pc + 1) ls (.long (f a b) :: rest)) → W p l e R s m args below meth c H locs cells slots Q (F0 m pc ls (.int b :: .long a :: rest)))
    (hi : z_ji (pc, lv, sk, h) f = some (st', P)) (k : z_Go y p l e R s m args below meth c Q D tc A ad0 n0 sl0 st') : z_Go y p l e R s m args below meth c Q D tc A ad0 n0 sl0 (pc, lv, sk, h) := by
  unfold z_ji at hi
  try dsimp only at hi
  split at hi
  · next _ b a r =>
    cases hi
    intro ad H locs cells slots ls rel
    exact row (k ad H locs cells slots ls (rel.stk (fun q => z_okp trivial (z_okt (z_okt q)))))
  · cases hi
theorem zs_lc
    (row : ∀ {H : Heap} {locs : List Loc} {cells slots : Nat} {ls : Array Slot} {rest : List Value} {a b : Int64}, W p l e R s m args below meth c H locs cells slots Q (F0 m (pc + 1) ls (.int (lg_cmp a b) :: rest)) → W p l e R s m args below meth c H locs cells slots Q (F0 m pc ls (.long b :: .long a :: rest)))
    (hi : z_lc (pc, lv, sk, h) = some (st', P)) (k : z_Go y p l e R s m args below meth c Q D tc A ad0 n0 sl0 st') : z_Go y p l e R s m args below meth c Q D tc A ad0 n0 sl0 (pc, lv, sk, h) := by
  unfold z_lc at hi
  try dsimp only at hi
  split at hi
  · next _ b a r =>
    cases hi
    intro ad H locs cells slots ls rel
    exact row (k ad H locs cells slots ls (rel.stk (fun q => z_okp trivial (z_okt (z_okt q)))))
  · cases hi
theorem zs_i1 {f : Int32 → Value} (hf : ∀ ad n x, z_v ad (f x) = f x ∧ z_okv n (f x))
    (row : ∀ {H : Heap} {locs : List Loc} {cells slots : Nat} {ls : Array Slot} {rest : List Value} {a : Int32}, W p l e R s m args below meth c H locs cells slots Q (F0 m (pc + 1) ls (f a :: rest)) → W p l e R s m args below meth c H locs cells slots Q (F0 m pc ls (.int a :: rest)))
    (hi : z_i1 (pc, lv, sk, h) f = some (st', P)) (k : z_Go y p l e R s m args below meth c Q D tc A ad0 n0 sl0 st') : z_Go y p l e R s m args below meth c Q D tc A ad0 n0 sl0 (pc, lv, sk, h) := by
  unfold z_i1 at hi
  try dsimp only at hi
  split at hi
  · next _ a r =>
    cases hi
    intro ad H locs cells slots ls rel
    have := k ad H locs cells slots ls (rel.stk (fun q => z_okp (hf ad _ a).2 (z_okt q)))
    simp only [List.map_cons, (hf ad 0 a).1] at this
    exact row this
  · cases hi
theorem zs_j1 {f : Int64 → Value} (hf : ∀ ad n x, z_v ad (f x) = f x ∧ z_okv n (f x))
    (row : ∀ {H : Heap} {locs : List Loc} {cells slots : Nat} {ls : Array Slot} {rest : List Value} {a : Int64}, W p l e R s m args below meth c H locs cells slots Q (F0 m (pc + 1) ls (f a :: rest)) → W p l e R s m args below meth c H locs cells slots Q (F0 m pc ls (.long a :: rest)))
    (hi : z_j1 (pc, lv, sk, h) f = some (st', P)) (k : z_Go y p l e R s m args below meth c Q D tc A ad0 n0 sl0 st') : z_Go y p l e R s m args below meth c Q D tc A ad0 n0 sl0 (pc, lv, sk, h) := by
  unfold z_j1 at hi
  try dsimp only at hi
  split at hi
  · next _ a r =>
    cases hi
    intro ad H locs cells slots ls rel
    have := k ad H locs cells slots ls (rel.stk (fun q => z_okp (hf ad _ a).2 (z_okt q)))
    simp only [List.map_cons, (hf ad 0 a).1] at this
    exact row this
  · cases hi
theorem zs_if0 {off : Int} {c0 : Int32 → Prop}
    (row : ∀ {H : Heap} {locs : List Loc} {cells slots : Nat} {ls : Array Slot} {rest : List Value} {a : Int32}, (c0 a → W p l e R s m args below meth c H locs cells slots Q (F0 m (z_tgt pc off) ls rest)) → (¬ c0 a → W p l e R s m args below meth c H locs cells slots Q (F0 m (pc + 3) ls rest)) → W p l e R s m args below meth c H locs cells slots Q (F0 m pc ls (.int a :: rest)))
    (hi : z_if0 (pc, lv, sk, h) o.1 off c0 = some (st', P)) (hP : P) (k : z_Go y p l e R s m args below meth c Q D tc A ad0 n0 sl0 st') : z_Go y p l e R s m args below meth c Q D tc A ad0 n0 sl0 (pc, lv, sk, h) := by
  unfold z_if0 at hi
  try dsimp only at hi
  split at hi
  · next _ a r =>
    cases hb : o.1 with
    | true =>
      rw [hb] at hi
      cases hi
      intro ad H locs cells slots ls rel
      exact row (fun _ => k ad H locs cells slots ls (rel.stk z_okt)) (fun q => absurd hP q)
    | false =>
      rw [hb] at hi
      cases hi
      intro ad H locs cells slots ls rel
      exact row (fun q => absurd q hP) (fun _ => k ad H locs cells slots ls (rel.stk z_okt))
  · cases hi
theorem zs_if2 {off : Int} {c0 : Int32 → Int32 → Prop}
    (row : ∀ {H : Heap} {locs : List Loc} {cells slots : Nat} {ls : Array Slot} {rest : List Value} {a b : Int32}, (c0 a b → W p l e R s m args below meth c H locs cells slots Q (F0 m (z_tgt pc off) ls rest)) → (¬ c0 a b → W p l e R s m args below meth c H locs cells slots Q (F0 m (pc + 3) ls rest)) → W p l e R s m args below meth c H locs cells slots Q (F0 m pc ls (.int b :: .int a :: rest)))
    (hi : z_if2 (pc, lv, sk, h) o.1 off c0 = some (st', P)) (hP : P) (k : z_Go y p l e R s m args below meth c Q D tc A ad0 n0 sl0 st') : z_Go y p l e R s m args below meth c Q D tc A ad0 n0 sl0 (pc, lv, sk, h) := by
  unfold z_if2 at hi
  try dsimp only at hi
  split at hi
  · next _ b a r =>
    cases hb : o.1 with
    | true =>
      rw [hb] at hi
      cases hi
      intro ad H locs cells slots ls rel
      exact row (fun _ => k ad H locs cells slots ls (rel.stk (fun q => z_okt (z_okt q)))) (fun q => absurd hP q)
    | false =>
      rw [hb] at hi
      cases hi
      intro ad H locs cells slots ls rel
      exact row (fun q => absurd q hP) (fun _ => k ad H locs cells slots ls (rel.stk (fun q => z_okt (z_okt q))))
  · cases hi
end ZS
