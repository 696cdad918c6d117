/-! WHAT TIES the machine to the places -/
def z_strs : List (String × Nat × Nat) := [("FedClocks$HouseReader", 74, 0), ("FedClocks$HouseReader", 98, 1), ("FedClocks$HouseReader", 109, 2), ("FedClocks$TasteReader", 82, 3), ("FedClocks", 163, 4), ("FedClocksModel", 26, 5), ("FedClocksModel", 265, 0), ("FedClocksModel", 271, 1), ("FedClocksModel", 273, 2), ("FedClocksModel", 32, 3)]
def z_txt : List String := ["s", "rhfmtkz", "eb", "fhskdp", "no such CLOCK, or nothing such of it", "y"]
def z_stn : List String := ["ROOM_LEAST", "ROOM_MOST", "CLOCK_ELSE", "CLOCK_LEAST", "CLOCK_MOST", "CLOCK_ROWS", "PERSON_LEAST", "PERSON_MOST"]
/-- the tables' words on arrays of references: [[I, and of Tastes -/
def z_aoa (U : State) : Prop := (Cond.arrayOver (.array .int)).before #[] U = true ∧ va_AO "FedClocks$Taste" U
theorem z_idx (vm : Vm) (comp : ClassId) : (vm.bare.classes.findIdx? fun (x : Class) => match x.kind with | .array component _ => component == comp | _ => false) = (vm.classes.findIdx? fun (x : Class) => match x.kind with | .array component _ => component == comp | _ => false) := by
  simp only [Vm.bare, Array.findIdx?_map]
  rfl
theorem z_aoa.moved {u U : State} (hvm : u.vm.Alike U.vm) (h : z_aoa u) : z_aoa U := by
  refine ⟨?_, h.2.moved hvm⟩
  obtain ⟨comp, c, k, h1, h2, h3, h4, h5⟩ := arrayOverA_spec h.1
  obtain ⟨k', hk', he⟩ := hvm.2.2 _ _ h3
  have hi : (U.vm.classes.findIdx? fun (x : Class) => match x.kind with | .array component _ => component == comp | _ => false) = some c := by
    rw [← z_idx]
    first | rw [hvm.bare_eq] | rw [← hvm.bare_eq]
    rw [z_idx]
    exact h2
  have hkind : k'.kind = .array comp (.array .int) := by rw [he]; exact h4
  have f1 : U.vm.findClass (FieldType.array .int).toString = some comp := by rw [hvm.findClass]; exact h1
  have f2 : U.vm.findClass ("[" ++ (FieldType.array .int).toString) = some c := by rw [hvm.findClass]; exact h5
  unfold Cond.before Cond.holds
  simp only [Cond.value]
  rw [f1, Option.bind_some]
  refine (congrArg (fun o : Option Nat => (o.bind (fun c => (U.vm.classes[c]?).map fun (k : Class) => match k.kind with | .array _ ty => decide (ty = FieldType.array .int) && decide (U.vm.findClass ("[" ++ (FieldType.array .int).toString) = some c) | _ => false) == some true)) hi).trans ?_
  simp [hk', hkind, f2]
def z_nests : List (String × Nat × MethodName) := [("FedClocks", 40, ⟨"FedClocks$Plan", "<init>", "()V"⟩), ("FedClocks", 60, ⟨"FedClocks$Past", "<init>", "()V"⟩), ("FedClocks", 67, ⟨"FedClocks$Crowd", "<init>", "()V"⟩), ("FedClocks", 9, ⟨"FedClocks$Tape", "<init>", "()V"⟩), ("FedClocks$HouseReader", 11, ⟨"FedClocks$Plan", "<init>", "()V"⟩), ("FedClocks$Ears", 38, ⟨"FedClocks", "power", "(II)I"⟩), ("FedClocks$Ears", 46, ⟨"FedClocks", "digits", "(III)I"⟩), ("FedClocks$Future", 79, ⟨"FedClocks", "digits", "(III)I"⟩), ("FedClocks$Search", 56, ⟨"FedClocks", "power", "(II)I"⟩), ("FedClocks$Search", 68, ⟨"FedClocks", "digits", "(III)I"⟩)]
def z_nst (U : State) : Prop := ∀ q ∈ z_nests, va_Nw (.methodLinkNest q.1 q.2.1 q.2.2 "FedClocks") U
def z_ro (zn : Bool) (ad : Nat → Nat) (A : Nat → Prop) (U : State) (H : Heap) : Prop :=
  vk_S 6 (z_byt.map List.length) z_byt (fun k => ad (z_RO + k)) (fun k => ad (z_RO + k + 100)) A U H ∧
  (∀ q ∈ z_strs, vk_R q.1 q.2.1 (z_txt.getD q.2.2 "") (ad (z_RO + q.2.2)) U) ∧
  (∀ k, k < 8 → va_Z "FedClocks$HouseReader" (z_stn.getD k "") "[I" (.ref (ad (z_RO + 200 + k))) A U H ∧ va_T .int (ad (z_RO + 200 + k)) (z_sta.getD k []).length (fun j => .int ((z_sta.getD k []).getD j 0)) A U H) ∧
  va_Z "java/lang/String" "COMPACT_STRINGS" "Z" (.int 1) A U H ∧
  va_Z "jdk/internal/util/Preconditions" "SIOOBE_FORMATTER" "Ljava/util/function/BiFunction;" (bif zn then .null else .ref (ad (z_RO + 400))) A U H ∧ z_aoa U ∧ z_nst U
theorem z_ro.warm {zn : Bool} {ad : Nat → Nat} {A : Nat → Prop} {s U : State} {H : Heap} (hW : s.WarmedH U.vm) (h : z_ro zn ad A s H) : z_ro zn ad A U H :=
  ⟨h.1.moved hW.alike, fun q hq => (h.2.1 q hq).warm hW, fun k hk => ⟨(h.2.2.1 k hk).1.moved hW.alike, (h.2.2.1 k hk).2.moved hW.alike⟩, h.2.2.2.1.moved hW.alike, h.2.2.2.2.1.moved hW.alike, h.2.2.2.2.2.1.moved hW.alike, fun q hq => va_Nw.warmM hW (h.2.2.2.2.2.2 q hq)⟩
theorem z_ro.same {zn : Bool} {ad : Nat → Nat} {A : Nat → Prop} {s U : State} {H : Heap} (hv : U.vm = s.vm) (h : z_ro zn ad A s H) : z_ro zn ad A U H := by
  have ha : s.vm.Alike U.vm := by rw [hv]; exact Vm.Alike.refl _
  exact ⟨h.1.moved ha, fun q hq => (h.2.1 q hq).same hv, fun k hk => ⟨(h.2.2.1 k hk).1.moved ha, (h.2.2.1 k hk).2.moved ha⟩, h.2.2.2.1.moved ha, h.2.2.2.2.1.moved ha, h.2.2.2.2.2.1.moved ha, fun q hq => va_Nw.same rfl hv.symm (h.2.2.2.2.2.2 q hq)⟩
theorem z_ro.kept {zn : Bool} {ad : Nat → Nat} {A : Nat → Prop} {U : State} {H H1 : Heap} (h : z_ro zn ad A U H) (hq : ∀ a : Nat, a < H.size → ¬ A a → H1[a]? = H[a]?) : z_ro zn ad A U H1 :=
  ⟨h.1.kept hq, h.2.1, fun k hk => ⟨(h.2.2.1 k hk).1.kept hq, (h.2.2.1 k hk).2.kept hq⟩, h.2.2.2.1.kept hq, h.2.2.2.2.1.kept hq, h.2.2.2.2.2⟩
theorem z_ro.narrow {zn : Bool} {ad : Nat → Nat} {A B : Nat → Prop} {U : State} {H : Heap} (h : z_ro zn ad A U H) (hAB : ∀ q, B q → A q) : z_ro zn ad B U H :=
  ⟨h.1.narrow hAB, h.2.1, fun k hk => ⟨(h.2.2.1 k hk).1.narrow hAB, (h.2.2.1 k hk).2.narrow hAB⟩, h.2.2.2.1.narrow hAB, h.2.2.2.2.1.narrow hAB, h.2.2.2.2.2⟩
theorem z_ro.ad {zn : Bool} {ad ad' : Nat → Nat} {A : Nat → Prop} {U : State} {H : Heap} (h : z_ro zn ad A U H) (hs : ∀ i, z_RO ≤ i → ad' i = ad i) : z_ro zn ad' A U H := by
  have e1 : (fun k => ad' (z_RO + k)) = fun k => ad (z_RO + k) := funext fun k => hs _ (Nat.le_add_right _ _)
  have e2 : (fun k => ad' (z_RO + k + 100)) = fun k => ad (z_RO + k + 100) := funext fun k => hs _ (by omega)
  refine ⟨by rw [e1, e2]; exact h.1, fun q hq => by rw [hs _ (Nat.le_add_right _ _)]; exact h.2.1 q hq, fun k hk => by rw [hs _ (by omega)]; exact h.2.2.1 k hk, h.2.2.2.1, ?_⟩
  rw [hs _ (Nat.le_add_right _ _)]
  exact h.2.2.2.2
/-- what is known of classes -/
def z_kn (D : va_G) (U : State) : Prop := ∀ (c : Nat) (q : vw_C), z_cl[c]? = some q → u_Kn U q.1 q.2.1 q.2.2 (D.1 c) (D.2 c)
def z_AT (tc : Nat → ClassId) (t : Nat) (U : State) : Prop := ArrOfT U (tc t) (z_ty t) ∧ va_RA U (tc t) (z_ty t)
def z_ka (tc : Nat → ClassId) (h : z_H) (U : State) : Prop := ∀ k, k < h.1 → ∀ (t : Nat) (a : vp_A), h.2.2 k = .inl (t, a) → z_AT tc t U
def z_TC (tc : Nat → ClassId) (U : State) : Prop := ∀ (t : Nat) (c : ClassId), U.vm.findClass ("[" ++ (z_ty t).toString) = some c → c = tc t
theorem z_kn.moved {D : va_G} {u U : State} (hvm : u.vm.Alike U.vm) (h : z_kn D u) : z_kn D U := fun c q hq => u_Kn_moved hvm (h c q hq)
theorem z_ka.moved {tc : Nat → ClassId} {h : z_H} {u U : State} (hvm : u.vm.Alike U.vm) (hk : z_ka tc h u) : z_ka tc h U := fun k hk1 t a e => ⟨arrOfT_moved hvm (hk k hk1 t a e).1, (hk k hk1 t a e).2.moved hvm⟩
theorem z_TC.moved {tc : Nat → ClassId} {u U : State} (hvm : u.vm.Alike U.vm) (h : z_TC tc u) : z_TC tc U := fun t c e => h t c (by rw [← e, hvm.findClass])
theorem z_TCq {tc : Nat → ClassId} {U : State} (h : z_TC tc U) {t : Nat} {cA : ClassId} (hr : va_RA U cA (z_ty t)) : cA = tc t := by
  refine h t cA ?_
  unfold z_ty at hr ⊢
  split at hr <;> first | exact hr | (obtain ⟨_, _, _, _, _, h4⟩ := hr; exact h4)
theorem z_K1 {D : va_G} {tc : Nat → ClassId} {U : State} (h : z_kn D U) {t : Nat} (ha : z_AT tc t U) : va_K D z_cl [(tc t, z_ty t)] U := ⟨h, fun k q hq => by
  have h0 : k < 1 := (List.getElem?_eq_some_iff.mp hq).1
  rw [show k = 0 by omega] at hq
  cases hq
  exact ha⟩
theorem z_K0 {D : va_G} {U : State} (h : z_kn D U) : va_K D z_cl [] U := ⟨h, fun k q hq => by simp at hq⟩
/-- what doesn't change while a method runs -/
def z_Fix (zn : Bool) (X : z_X) (d y : Nat) (p : Program) (R : Room) (s : State) (m : MethodId) (args : Array Value) (meth : Method) (c : Code) (D : va_G) (tc : Nat → ClassId) (A : Nat → Prop) (ad0 : Nat → Nat) (n0 : Nat) (sl0 : Nat × Nat) (B : Nat × Nat) : Prop :=
  p.tables.exec = Jvm.exec ∧ c.code = z_mc y ∧ c.maxLocals = z_ml y ∧ s.vm.findClass (z_mn y).cls = some m.cls ∧ (∀ w ∈ z_G, w.before args s = true) ∧ (∀ q, s.heap.size ≤ q → A q) ∧ ((z_mn y).name = "<init>" → meth.name = "<init>") ∧
  z_ro zn ad0 A s s.heap ∧ z_TC tc s ∧ z_kn D s ∧ (X.2 = zn ∧ ∀ x, X.1 = some x → va_X (ad0 (z_RO + 300)) x.1 x.2 s s.heap ∧ ad0 (z_RO + 300) < s.heap.size ∧ ¬ A (ad0 (z_RO + 300))) ∧
  (B.1 < z_RO ∧ B.1 + 1000 ≤ sl0.1 + R.cells ∧ B.2 + 6000 ≤ sl0.2 + R.slots ∧ d + 5 ≤ R.frames ∧ 40 * d + 440 ≤ R.locals)
/-- a state of the machine, a state over places -/
def z_Rel (y : Nat) (s : State) (D : va_G) (tc : Nat → ClassId) (A : Nat → Prop) (ad0 : Nat → Nat) (n0 : Nat) (sl0 : Nat × Nat) (ad : Nat → Nat) (st : z_S) (H : Heap) (locs : List Loc) (cells slots : Nat) (ls : Array Slot) : Prop :=
  va_P D z_cl (z_w ad tc st.2.2.2) H ∧ va_D A (z_w ad tc st.2.2.2) ∧ va_S A s.heap H locs ∧ z_ka tc st.2.2.2 s ∧ z_lok ad ls (z_ml y) st.2.1 ∧ z_okS st ∧ (sl0.1 + cells = st.2.2.2.1 + 1000 ∧ sl0.2 + slots = st.2.2.2.2.1 + 6000 ∧ n0 ≤ st.2.2.2.1) ∧ ∀ i, i < n0 ∨ z_RO ≤ i → ad i = ad0 i
/-- from every machine's state tied to st the machine comes to Q -/
def z_Go (y : Nat) (p : Program) (l : Launch) (e : Env) (R : Room) (s : State) (m : MethodId) (args : Array Value) (below : List Frame) (meth : Method) (c : Code) (Q : State → Prop) (D : va_G) (tc : Nat → ClassId) (A : Nat → Prop) (ad0 : Nat → Nat) (n0 : Nat) (sl0 : Nat × Nat) (st : z_S) : Prop :=
  ∀ (ad : Nat → Nat) (H : Heap) (locs : List Loc) (cells slots : Nat) (ls : Array Slot), z_Rel y s D tc A ad0 n0 sl0 ad st H locs cells slots ls → W p l e R s m args below meth c H locs cells slots Q (F0 m st.1 ls (st.2.2.1.map (z_v ad)))
theorem z_Rel.stk {y : Nat} {s : State} {D : va_G} {tc : Nat → ClassId} {A : Nat → Prop} {ad0 : Nat → Nat} {n0 : Nat} {sl0 : Nat × Nat} {ad : Nat → Nat} {pc pc' : Nat} {lv : List (Option Value)} {sk sk' : List Value} {h : z_H} {H : Heap} {locs : List Loc} {cells slots : Nat} {ls : Array Slot}
    (r : z_Rel y s D tc A ad0 n0 sl0 ad (pc, lv, sk, h) H locs cells slots ls) (hs : (∀ v ∈ sk, z_okv h.1 v) → ∀ v ∈ sk', z_okv h.1 v) : z_Rel y s D tc A ad0 n0 sl0 ad (pc', lv, sk', h) H locs cells slots ls := by
  obtain ⟨h1, h2, h3, h4, h5, h6, h7⟩ := r
  exact ⟨h1, h2, h3, h4, h5, ⟨h6.1, hs h6.2.1, h6.2.2⟩, h7⟩
theorem z_Rel.loc {y : Nat} {s : State} {D : va_G} {tc : Nat → ClassId} {A : Nat → Prop} {ad0 : Nat → Nat} {n0 : Nat} {sl0 : Nat × Nat} {ad : Nat → Nat} {pc pc' : Nat} {lv : List (Option Value)} {sk sk' : List Value} {h : z_H} {H : Heap} {locs : List Loc} {cells slots i : Nat} {v : Value} {ls ls' : Array Slot}
    (r : z_Rel y s D tc A ad0 n0 sl0 ad (pc, lv, sk, h) H locs cells slots ls) (hl : z_lok ad ls' (z_ml y) (z_set lv i v)) (hv : (∀ v ∈ sk, z_okv h.1 v) → z_okv h.1 v) (hs : (∀ v ∈ sk, z_okv h.1 v) → ∀ v ∈ sk', z_okv h.1 v) : z_Rel y s D tc A ad0 n0 sl0 ad (pc', z_set lv i v, sk', h) H locs cells slots ls' := by
  obtain ⟨h1, h2, h3, h4, h5, h6, h7⟩ := r
  refine ⟨h1, h2, h3, h4, hl, ⟨fun w hw => ?_, hs h6.2.1, h6.2.2⟩, h7⟩
  rcases z_set_mem hw with e | e
  · rw [e]; exact hv h6.2.1
  · exact h6.1 w e
/-- a cell is written: one of an array stays one of the same array class -/
theorem z_Rel.hup {y : Nat} {s : State} {D : va_G} {tc : Nat → ClassId} {A : Nat → Prop} {ad0 : Nat → Nat} {n0 : Nat} {sl0 : Nat × Nat} {ad : Nat → Nat} {pc pc' : Nat} {lv : List (Option Value)} {sk sk' : List Value} {h : z_H} {H H1 : Heap} {locs locs1 : List Loc} {cells slots a : Nat} {e : z_E} {ls : Array Slot}
    (r : z_Rel y s D tc A ad0 n0 sl0 ad (pc, lv, sk, h) H locs cells slots ls) (ha : a < h.1) (hP : va_P D z_cl ((z_w ad tc h).set a (ad a, z_e ad tc e)) H1) (hD : va_D A ((z_w ad tc h).set a (ad a, z_e ad tc e))) (hS : va_S A s.heap H1 locs1)
    (hk : ∀ (t : Nat) (x : vp_A), e = .inl (t, x) → ∃ x', h.2.2 a = .inl (t, x')) (he : (∀ v ∈ sk, z_okv h.1 v) → z_oke h.1 (h.2.2 a) → z_oke h.1 e) (hs : (∀ v ∈ sk, z_okv h.1 v) → ∀ v ∈ sk', z_okv h.1 v) : z_Rel y s D tc A ad0 n0 sl0 ad (pc', lv, sk', z_hup h a e) H1 locs1 cells slots ls := by
  obtain ⟨h1, h2, h3, h4, h5, h6, h7⟩ := r
  have ew : z_w ad tc (z_hup h a e) = (z_w ad tc h).set a (ad a, z_e ad tc e) := z_w_set ha e
  refine ⟨?_, ?_, hS, ?_, h5, ⟨h6.1, hs h6.2.1, ?_⟩, h7⟩
  · show va_P D z_cl (z_w ad tc (z_hup h a e)) H1
    rw [ew]; exact hP
  · show va_D A (z_w ad tc (z_hup h a e))
    rw [ew]; exact hD
  · intro k hk1 t x ex
    have ex1 : va_up h.2.2 a e k = .inl (t, x) := ex
    by_cases e1 : k = a
    · subst e1
      simp only [va_up, if_true] at ex1
      obtain ⟨x', hx'⟩ := hk t x ex1
      exact h4 k hk1 t x' hx'
    · simp only [va_up, if_neg e1] at ex1
      exact h4 k hk1 t x ex1
  · intro k hk1
    show z_oke h.1 (va_up h.2.2 a e k)
    by_cases e1 : k = a
    · subst e1
      simp only [va_up, if_true]
      exact he h6.2.1 (h6.2.2 k hk1)
    · simp only [va_up, if_neg e1]
      exact h6.2.2 k hk1
theorem z_ok1 {n : Nat} {a b : Value} {r : List Value} (hb : z_okv n b) (h : ∀ v ∈ a :: r, z_okv n v) : ∀ v ∈ b :: r, z_okv n v := fun v hv => by
  rcases List.mem_cons.mp hv with e | e
  · rw [e]; exact hb
  · exact h v (List.mem_cons_of_mem _ e)
theorem z_okp {n : Nat} {b : Value} {r : List Value} (hb : z_okv n b) (h : ∀ v ∈ r, z_okv n v) : ∀ v ∈ b :: r, z_okv n v := fun v hv => by
  rcases List.mem_cons.mp hv with e | e
  · rw [e]; exact hb
  · exact h v e
theorem z_okt {n : Nat} {a : Value} {r : List Value} (h : ∀ v ∈ a :: r, z_okv n v) : ∀ v ∈ r, z_okv n v := fun v hv => h v (List.mem_cons_of_mem _ hv)
theorem z_okh {n : Nat} {a : Value} {r : List Value} (h : ∀ v ∈ a :: r, z_okv n v) : z_okv n a := h a List.mem_cons_self
/-! what the tables must say of an instruction -/
def z_own (y : Nat) : String := (z_mn y).cls
def z_fl (y i : Nat) (f : z_I) : Bool := Nat.ble f.1 12 && Nat.ble (f.2.1 + 1) (z_cls f.1).2.2 && z_W f.2.2 (.fieldLink (z_own y) i ((z_cls f.1).2.1 f.2.1).1 ((z_cls f.1).2.1 f.2.1).2.1 ((z_cls f.1).2.1 f.2.1).2.2.1)
def z_tok (pc : Nat) (off : Int) : Bool := decide ((pc : Int) + off = (z_tgt pc off : Int))
def z_ml1 (y i : Nat) : Bool := Nat.ble (i + 1) (z_ml y)
def z_ml2 (y i : Nat) : Bool := Nat.ble (i + 2) (z_ml y)
def z_good1 (y pc : Nat) (x : z_F) : Bool := match x.1 with
  | .getfield i => (bif Nat.ble x.2.2.1 12 then z_fl y i x.2.2 else bif Nat.beq x.2.2.1 50 then
      (bif Nat.beq x.2.2.2.1 0 then z_W x.2.2.2.2 (.fieldLink (z_own y) i "java/lang/String" "value" "[B") else bif Nat.beq x.2.2.2.1 1 then z_W x.2.2.2.2 (.fieldLink (z_own y) i "java/lang/String" "coder" "B") else true) else true)
  | .putfield i => (bif Nat.ble x.2.2.1 12 then z_fl y i x.2.2 && (bif ((z_cls x.2.2.1).2.1 x.2.2.2.1).2.2.2 then decide ((z_mn y).name = "<init>") && decide (((z_cls x.2.2.1).2.1 x.2.2.2.1).1 = z_own y) else true) else true)
  | .new i => (bif Nat.ble x.2.2.1 12 then z_W x.2.2.2.2 (.classLink (z_own y) i (z_cls x.2.2.1).1) else true)
  | .newarray a => (bif Nat.ble x.2.2.1 3 then decide (newarray.typeOf a = z_ty x.2.2.1) && z_W x.2.2.2.2 (.arrayClass (z_ty x.2.2.1)) else true)
  | .anewarray i => z_W x.2.2.2.2 (.classLink (z_own y) i "FedClocks$Taste")
  | .multianewarray i k => z_W x.2.2.2.2 (.classLink (z_own y) i ("[" ++ (FieldType.array .int).toString)) && Nat.beq k 2
  | .invokestatic i => (bif Nat.beq x.2.2.1 0 then z_W x.2.2.2.2 (.methodLink (z_own y) i (z_mn x.2.2.2.1))
      else bif Nat.beq x.2.2.1 1 then decide ((z_own y, i, z_mn x.2.2.2.1) ∈ z_nests) else bif Nat.beq x.2.2.1 20 then z_W x.2.2.2.2 (.methodLink (z_own y) i Lib.Math.max.name) else bif Nat.beq x.2.2.1 21 then z_W x.2.2.2.2 (.methodLink (z_own y) i Lib.Math.min.name)
      else bif Nat.beq x.2.2.1 22 then z_W x.2.2.2.2 (.methodLink (z_own y) i Lib.MathLoose.max_long.x) else bif Nat.beq x.2.2.1 23 then z_W x.2.2.2.2 (.methodLink (z_own y) i Lib.MathLoose.min_long.x) else bif Nat.beq x.2.2.1 8 then z_W x.2.2.2.2 (.methodLink (z_own y) i arraycopyName) else true)
  | .invokevirtual i => (bif Nat.beq x.2.2.1 0 then z_W x.2.2.2.2 (.methodLink (z_own y) i (z_mn x.2.2.2.1)) else true)
  | .invokespecial i => (bif Nat.beq x.2.2.1 7 then z_W x.2.2.2.2 (.methodLink (z_own y) i Lib.objectInit) else bif Nat.beq x.2.2.1 0 then z_W x.2.2.2.2 (.methodLink (z_own y) i (z_mn x.2.2.2.1)) && decide ((z_mn x.2.2.2.1).name = "<init>") else bif Nat.beq x.2.2.1 1 then decide ((z_own y, i, z_mn x.2.2.2.1) ∈ z_nests) && decide ((z_mn x.2.2.2.1).name = "<init>") else true)
  | .ldc i => (bif Nat.beq x.2.2.1 0 then (match z_gw x.2.2.2.2.1 x.2.2.2.2.2 with
      | some (.constant o j v) => z_W x.2.2.2.2 (.constant o j v) && decide (o = z_own y) && decide (j = i)
      | _ => true) else bif Nat.beq x.2.2.1 1 then decide ((z_own y, i, x.2.2.2.1) ∈ z_strs) else true)
  | .ldc_w i => (bif Nat.beq x.2.2.1 0 then (match z_gw x.2.2.2.2.1 x.2.2.2.2.2 with
      | some (.constant o j v) => z_W x.2.2.2.2 (.constant o j v) && decide (o = z_own y) && decide (j = i)
      | _ => true) else bif Nat.beq x.2.2.1 1 then decide ((z_own y, i, x.2.2.2.1) ∈ z_strs) else true)
  | .ldc2_w i => (bif Nat.beq x.2.2.1 0 then (match z_gw x.2.2.2.2.1 x.2.2.2.2.2 with
      | some (.constantLong o j v) => z_W x.2.2.2.2 (.constantLong o j v) && decide (o = z_own y) && decide (j = i)
      | _ => true) else true)
  | .getstatic i => (bif Nat.beq x.2.2.1 50 then z_W x.2.2.2.2 (.fieldLink (z_own y) i "java/lang/String" "COMPACT_STRINGS" "Z") else bif Nat.beq x.2.2.1 51 then z_W x.2.2.2.2 (.fieldLink (z_own y) i "jdk/internal/util/Preconditions" "SIOOBE_FORMATTER" "Ljava/util/function/BiFunction;") else bif Nat.ble x.2.2.1 7 && Nat.beq x.2.2.2.1 1 then z_W x.2.2.2.2 (.fieldLink (z_own y) i "FedClocks$HouseReader" (z_stn.getD x.2.2.1 "") "[I") else true)
  | .istore_n k => z_ml1 y k
  | .istore i => z_ml1 y i
  | .astore_n k => z_ml1 y k
  | .astore i => z_ml1 y i
  | .lstore_n k => z_ml2 y k
  | .lstore i => z_ml2 y i
  | .iinc i _ => z_ml1 y i
  | .ifCond _ off => z_tok pc off
  | .if_icmp _ off => z_tok pc off
  | .goto off => z_tok pc off
  | .ifnonnull off => z_tok pc off
  | .tableswitch d _ _ offs => z_tok pc d && offs.toList.all (fun o => z_tok pc o)
  | .lookupswitch d ps => z_tok pc d && ps.toList.all (fun o => z_tok pc o.2) && (ps.toList.zip (ps.toList.drop 1)).all (fun (a, next) => a.1 < next.1)
  | _ => true
/-- how long an instruction is: as the rows say it -/
def z_il (i : Instr) : Nat := match i with
  | .bipush _ => 2
  | .sipush _ => 3
  | .iload _ => 2
  | .lload _ => 2
  | .aload _ => 2
  | .istore _ => 2
  | .lstore _ => 2
  | .astore _ => 2
  | .iinc _ _ => 3
  | .ifCond _ _ => 3
  | .if_icmp _ _ => 3
  | .goto _ => 3
  | .ifnonnull _ => 3
  | .getfield _ => 3
  | .putfield _ => 3
  | .new _ => 3
  | .newarray _ => 2
  | .checkcast _ => 3
  | .anewarray _ => 3
  | .multianewarray _ _ => 4
  | .invokestatic _ => 3
  | .invokevirtual _ => 3
  | .invokespecial _ => 3
  | .ldc _ => 2
  | .ldc_w _ => 3
  | .ldc2_w _ => 3
  | .getstatic _ => 3
  | .tableswitch _ _ _ _ => 0
  | .lookupswitch _ _ => 0
  | _ => 1
def z_good (y pc : Nat) (x : z_F) : Bool := decide (decode (z_mc y) pc = .ok (x.1, x.2.1)) && (Nat.beq (z_il x.1) 0 || Nat.beq x.2.1 (z_il x.1)) && z_good1 y pc x
def z_goodAt (y : Nat) : Bool := (List.range (z_end y)).all (fun pc => match z_fetch y pc with
  | some x => z_good y pc x
  | none => true)
/-- of a method -/
def z_mgood (y : Nat) : Bool := plainName (z_mn y).cls && z_W (z_mp y).1 (.code (z_mn y) (z_mc y) (z_ml y) (z_mr y)) && z_W (z_mp y).2.1 (.initialized (z_mn y).cls) &&
  decide ((z_mn y).cls ≠ "java/lang/invoke/MethodHandle" ∧ (z_mn y).cls ≠ "java/lang/invoke/VarHandle" ∧ (parseMethodDescriptor (z_mn y).desc).map (fun d => d.parameters.length) = some (z_np y)) && Nat.ble (z_ml y) 21 && Nat.ble (z_as (List.replicate (z_np y) (.int 0))).length 30
def z_mstat (y : Nat) : Bool := z_W (z_mp y).2.2.1 (.static (z_mn y))
def z_minst (y : Nat) : Bool := z_W (z_mp y).2.2.1 (.instanceMethod (z_mn y))
def z_mvirt (y : Nat) : Bool := z_minst y && z_W (z_mp y).2.2.2 (.selects (z_mn y).cls (z_mn y) (z_mn y))
