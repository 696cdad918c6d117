/-! clock: the exception's constructor. As the library's ctorThrowS goes, but the class's own constructor calls by another link, and less is said of the cell -/
def zx_N : String := "java/util/NoSuchElementException"
def zx_R : String := "java/lang/RuntimeException"
def zx_w1 : Cond := .code (Bundle.initS "java/util/NoSuchElementException") prog_32_method_4_code 2 none
def zx_w2 : Cond := .methodLink "java/util/NoSuchElementException" 13 (Bundle.initS "java/lang/RuntimeException")
def zx_own : List Cond := (Bundle.ownAtoms "FedClocks" 165 "java/util/NoSuchElementException" ["java/lang/RuntimeException", "java/lang/Exception"]).filter (fun w => decide (w ≠ .code (Bundle.initS "java/util/NoSuchElementException") Bundle.six 2 none) && decide (w ≠ .methodLink "java/util/NoSuchElementException" 7 (Bundle.initS "java/lang/RuntimeException"))) ++ [zx_w1, zx_w2]
def zx_at : List Cond := zx_own.filter vx_no
/-- those that stay though they are not good words -/
def zx_bad : List Cond := zx_at.filter (fun w => !goodWord w)
set_option maxRecDepth 100000 in
theorem zx_sub1 : ∀ w ∈ Bundle.throwableAtoms, w ∈ zx_own := by decide +kernel
set_option maxRecDepth 100000 in
theorem zx_sub2 : ∀ w ∈ Bundle.throwableSAtoms, w ∈ zx_own := by decide +kernel
set_option maxRecDepth 100000 in
theorem zx_sub3 : ∀ w ∈ Bundle.passSAtoms "java/util/NoSuchElementException" "java/lang/RuntimeException" 13 prog_32_method_4_code, w ∈ zx_own := by decide +kernel
set_option maxRecDepth 100000 in
theorem zx_sub4 : ∀ w ∈ Bundle.chainSAtoms "java/lang/RuntimeException" ["java/lang/Exception"], w ∈ zx_own := by decide +kernel
theorem zx_dec : decode prog_32_method_4_code 0 = .ok (.aload_n 0, 1) ∧ decode prog_32_method_4_code 1 = .ok (.aload_n 1, 1) ∧ decode prog_32_method_4_code 2 = .ok (.invokespecial 13, 3) ∧ decode prog_32_method_4_code 5 = .ok (.return_, 1) := by decide +kernel
theorem zx_fit : Bundle.fit "java/util/NoSuchElementException" = true ∧ Bundle.fit "java/lang/RuntimeException" = true ∧ ∀ n ∈ (["java/lang/Exception"] : List String), Bundle.fit n = true := by decide +kernel
set_option maxRecDepth 100000 in
theorem zx_mem : (∀ w ∈ [Cond.instantiable "java/util/NoSuchElementException" 6, .castable "java/util/NoSuchElementException" "java/util/NoSuchElementException", .selects "java/util/NoSuchElementException" Bundle.tFill0 Bundle.tFill0, .selects "java/util/NoSuchElementException" Bundle.tFill Bundle.tFill, .lays "java/util/NoSuchElementException" Bundle.tN "cause" "Ljava/lang/Throwable;", .lays "java/util/NoSuchElementException" Bundle.tN "stackTrace" Bundle.steD, .lays "java/util/NoSuchElementException" Bundle.tN "suppressedExceptions" Bundle.listD, .lays "java/util/NoSuchElementException" Bundle.tN "detailMessage" "Ljava/lang/String;", .isRef (.static Bundle.tN "UNASSIGNED_STACK" Bundle.steD), .isRef (.static Bundle.tN "SUPPRESSED_SENTINEL" Bundle.listD), .fieldLink Bundle.tN 198 Bundle.tN "backtrace" "Ljava/lang/Object;", .lays Bundle.tN Bundle.tN "backtrace" "Ljava/lang/Object;", .lays "java/util/NoSuchElementException" Bundle.tN "backtrace" "Ljava/lang/Object;", .methodLink "FedClocks" 165 (Bundle.initS "java/util/NoSuchElementException"), .instanceMethod (Bundle.initS "java/util/NoSuchElementException"), zx_w1], w ∈ zx_own) := by decide +kernel
set_option maxHeartbeats 4000000 in
theorem zx_ctor {p : Program} {l : Launch} {e : Env} {R : Room} {s : State} {m₀ : MethodId} {args : Array Value} {below : List Frame} {meth : Method} {c : Code} {W : State} {locs : List Loc} {cells slots : Nat}
    (X : Stand p l e R s m₀ args below meth c W locs cells slots) (hexec : p.tables.exec = Jvm.exec) (htr : e.platform.stackTraces = false) (hown : s.vm.findClass "FedClocks" = some m₀.cls)
    (h : ∀ w ∈ zx_own, w.before args s = true) (hlocs : ∀ x ∈ locs, ∀ cell, s.heap[x.base]? = some cell → cell.vm.isStatics = false)
    {a : Addr} {cX : ClassId} {kX : Class} (hfoundX : s.vm.findClass "java/util/NoSuchElementException" = some cX) (hkX : s.vm.classes[cX]? = some kX) (hcell : W.heap[a]? = some (freshCell cX kX)) (hnew : s.heap.size ≤ a)
    {msg : Value} (hmsg : msg.isRef = true) {g : JFrame} (hg : g.method = m₀) (hsize : g.locals.size = c.maxLocals) (hlocked : g.locked = none) (hentered : g.entered = []) {rest : List Value} (hstack : g.stack = msg :: .ref a :: .ref a :: rest)
    (hd6 : decode c.code g.pc = .ok (.invokespecial 165, 3)) (hd9 : decode c.code (g.pc + 3) = .ok (.athrow, 1)) (hout : ∀ x ∈ c.exceptionTable.toList, covers x (g.pc + 3) = false)
    (hRframes : 2 + 3 < R.frames) (hRlocals : 2 * g.monitorRoom + ((Value.ref a :: rest).map fun v => v.category).sum + (13 * 3 + 42) ≤ R.locals) (hlocks : meth.locks = false) :
    ∃ U : State, Steps p.tables e below (W.setTop g) U ∧ U.status = .running ∧ Ended U below (.threw a) ∧ s.WarmedH U.vm ∧ s.sameButNew ({ U with vm := s.vm } : State) locs cells slots ∧
      ∃ ce, U.heap[a]? = some ce ∧ ce.vm = .none ∧ s.vm.findClass "java/util/NoSuchElementException" = some ce.cls := by
  have hpf : e.platform.frameOwnsMonitors = true ∧ e.platform.finalization = false ∧ e.platform.magicAccessors = ({} : Platform).magicAccessors := by rw [X.admits.platform]; exact ⟨rfl, rfl, rfl⟩
  obtain ⟨howns, hfin, hpl⟩ := hpf
  have w9 := zx_mem
  simp only [List.forall_mem_cons, List.not_mem_nil, false_imp_iff, implies_true, and_true] at w9
  obtain ⟨mI, mCa, mS0, mSF, mlC, mlS, mlP, mlM, mU, mN, mk198, mlB, mlXB, mLink, mInst, mCode⟩ := w9
  obtain ⟨T, Z0, L, -, Y⟩ := ThrowableC.of_atoms (args := args) howns hfin hpl (fun x hx => h x (zx_sub1 x hx))
  obtain ⟨Z, M, LZ, LM, hnZ⟩ := Init0T.ofS_atoms (args := args) hpl L Y (fun x hx => h x (zx_sub2 x hx))
  obtain ⟨P0, L0, hP0m, hP0s⟩ := PassC.ofS_atoms (args := args) (s := s) hpl (Bundle.fit_spec zx_fit.1).1 (Bundle.fit_spec zx_fit.2.1).2 zx_dec.1 zx_dec.2.1 zx_dec.2.2.1 zx_dec.2.2.2 (fun x hx => h x (zx_sub3 x hx))
  obtain ⟨P1, Ps, hlen, L1, hL, hP1m, hlink1, hlink⟩ := Bundle.chainS (args := args) hpl hnZ ["java/lang/Exception"] "java/lang/RuntimeException" zx_fit.2.1 zx_fit.2.2 (fun x hx => h x (zx_sub4 x hx))
  have hlink0 : P0.sup = P1.m := Option.some.inj (hP0s.symm.trans hP1m)
  have hlen1 : Ps.length = 1 := hlen
  have hfound : s.vm.findClass "java/util/NoSuchElementException" = some P0.m.cls := findClass_of_methodNamed hP0m
  cases Option.some.inj (hfoundX.symm.trans hfound)
  obtain ⟨c1, kX', hc1, hk, hord, -, -, hn6⟩ := Cond.instantiable_spec (h _ mI)
  cases Option.some.inj (hc1.symm.trans hfound)
  cases Option.some.inj (hkX.symm.trans hk)
  have hsel : ∀ {t : MethodName} {y : MethodId}, Cond.selects "java/util/NoSuchElementException" t t ∈ zx_own → s.methodNamed? t = some y → (t.cls ≠ "java/lang/invoke/MethodHandle" ∧ t.cls ≠ "java/lang/invoke/VarHandle") → selectMethod e.platform s.vm P0.m.cls y = .method y := by
    intro t y hm hy hn
    obtain ⟨c2, r2, m2, q1, q2, q3, q4, -⟩ := Cond.selects_spec (h _ hm)
    cases Option.some.inj (q1.symm.trans hfound)
    cases Option.some.inj (q2.symm.trans (State.methodFound?_of_named hy hn))
    cases Option.some.inj (q3.symm.trans hy)
    rw [Launch.admits_selectMethod X.admits]; exact q4
  obtain ⟨cellS0, hcS0, hiss⟩ := Y.statics
  obtain ⟨u0, hu0⟩ := Cond.staticRefV Y.unassigned L.unassignedStatic L.statics hcS0 hiss (h _ mU)
  obtain ⟨sen, hsen⟩ := Cond.staticRefV Y.sentinel L.sentinelStatic L.statics hcS0 hiss (h _ mN)
  obtain ⟨ci198, i198, fB, hk198, hg198, ha198, hsB, -, hnB, htB, hffB⟩ := Cond.ownField (t := .object "java/lang/Object") Y.found L.cls (by decide +kernel) (h _ mk198) (h _ mlB) e.platform hpl
  obtain ⟨cellS, hcS', heS, -, hkeep⟩ := X.same.2.2.2.2.2 T.aS cellS0 hcS0
  have hout' : ∀ i, (⟨T.aS, i⟩ : Loc) ∉ locs := fun i hmem => by
    have q := hlocs _ hmem cellS0 hcS0
    rw [hiss] at q; cases q
  have hknownS : cellS.vm ≠ .unknown := by
    rw [heS]; intro hu
    rw [show cellS0.vm = .unknown from hu] at hiss
    cases hiss
  have hneS : T.aS ≠ a := Nat.ne_of_lt (Nat.lt_of_lt_of_le (Array.getElem?_eq_some_iff.mp hcS0).1 hnew)
  obtain ⟨iM, hffM⟩ := Y.msg
  obtain ⟨tyC, dC, hdC, hdnC⟩ := Cond.laysAt hfound hk Y.cause (h _ mlC)
  obtain ⟨tyS, dS, hdS, hdnS⟩ := Cond.laysAt hfound hk Y.stack (h _ mlS)
  obtain ⟨tyP, dP, hdP, hdnP⟩ := Cond.laysAt hfound hk Y.supp (h _ mlP)
  obtain ⟨tyM, dM, hdM, hdnM⟩ := Cond.laysAt hfound hk hffM (h _ mlM)
  obtain ⟨tyB, dB, hdB, hdnB⟩ := Cond.laysAt hfound hk hffB (h _ mlXB)
  have bC := Cond.laysApart hdB hdC hdnB hdnC (by rw [hnB, Y.causeName]; decide)
  have bS := Cond.laysApart hdB hdS hdnB hdnS (by rw [hnB, Y.stackName]; decide)
  have bP := Cond.laysApart hdB hdP hdnB hdnP (by rw [hnB, Y.suppName]; decide)
  have hskip : SkipFacts T e.platform s (fun u => u) u0 ((preparedCellV T.toThrowableT (freshCell P0.m.cls kX) a u0 sen).withEntry W.cur) :=
    ⟨{ ci198 := ci198, i198 := i198, fBack := fB }, ⟨hk198, hg198, ha198, hsB⟩, by
      have q := fresh_default (c := P0.m.cls) tyB
      rw [htB] at q
      simpa [preparedCellV, Cell.setSlot, Cell.withEntry, Array.getElem?_setIfInBounds, bC, bS, bP, bC.symm, bS.symm, bP.symm, defaultValue] using q, fun _ _ => rfl⟩
  obtain ⟨tm, methC, cdC, kC, vm₁, hnC, -, -, -, -, -, -, -, hW₁, st1⟩ := Steps.initColdS (tb := p.tables) (e := e) (below := below) (s := s) (U := W) X.here hexec X.warmed hpl hown (t := Bundle.initS "java/util/NoSuchElementException") rfl rfl (Bundle.fit_spec zx_fit.1).2
    (h _ mLink) (h _ mInst) (bytes := prog_32_method_4_code) (maxL := 2) (h _ mCode)
    (f := g) hg (a := a) (msg := msg) (rest := .ref a :: rest) hstack hd6
  cases Option.some.inj (hnC.symm.trans hP0m)
  have X₁ := X.noted hW₁
  obtain ⟨vm₂, X₂, st2⟩ := X₁.ctorMessageOffV hexec (g := { g with stack := .ref a :: rest }) hg hsize T L Z LZ M LM (P0 :: P1 :: Ps)
    (fun P hP => by
      rcases List.mem_cons.mp hP with rfl | hP
      · exact L0
      · rcases List.mem_cons.mp hP with rfl | hP
        · exact L1
        · exact hL P hP) ⟨hlink0, hlink1, hlink⟩ (u0 := u0) (sen := sen) (self := a) hmsg (cell := freshCell P0.m.cls kX) (cellS := cellS)
    hcell (fun _ => by simp) (by simp) rfl rfl (hsel mS0 Y.fill0 (by decide)) (hsel mSF Y.fill (by decide)) (show W.heap[T.aS]? = some cellS from hcS') hneS hknownS (by rw [hkeep _ (hout' _)]; exact hu0) (by rw [hkeep _ (hout' _)]; exact hsen)
    (Takes.of_laid hk hord tyC (by rw [Y.causeType]; rfl)) (Takes.of_laid hk hord tyS (by rw [Y.stackType]; exact fits_refV_array _ u0)) (Takes.of_laid hk hord tyP (by rw [Y.suppType]; exact fits_refV_object _ sen))
    (Takes.of_laid hk hord tyM (by rw [Y.msgType]; exact fits_refV_object _ ⟨msg, hmsg⟩)) Y.objLocals hskip htr [] hd6
    (by simp only [List.length_cons, hlen1]; omega) (by simp only [List.length_cons, hlen1]; exact hRlocals)
  obtain ⟨hwalk, hrun, hended, hWU, hsame⟩ := X₂.athrowLeaves hexec (g := { g with stack := .ref a :: rest, pc := g.pc + 3 }) hg hlocked hentered hout (a := a) (rest := rest) rfl hd9
  have hlt : a < ((W.setVm vm₁).setVm vm₂).heap.size := (Array.getElem?_eq_some_iff.mp hcell).1
  have hU := heapAt_setCell_self (s := (W.setVm vm₁).setVm vm₂) (plainBareV T.toThrowableT (freshCell P0.m.cls kX) a u0 sen msg) hlt
  refine ⟨_, st1 _ (fun acts => ?_), hrun, hended, hWU, hsame.weaken (fun y hy hlt' => ?_) (Nat.le_refl _) (Nat.le_refl _), _, hU, rfl, hfound⟩
  · rw [doInvoke_state]
    exact st2 _ hwalk
  · rcases List.mem_append.mp hy with h1 | h1
    · exact h1
    · exfalso
      have hb : y.base = a := by
        simp only [List.mem_cons, List.not_mem_nil, or_false] at h1
        rcases h1 with rfl | rfl | rfl | rfl | rfl <;> rfl
      rw [hb] at hlt'
      exact Nat.not_lt.mpr hnew hlt'
set_option maxHeartbeats 4000000 in
theorem zx_throw {p : Program} {l : Launch} {e : Env} {R : Room} {s : State} {m : MethodId} {args : Array Value} {below : List Frame} {meth : Method} {c : Code} {H : Heap} {locs : List Loc} {cells slots : Nat} {free : Addr → Prop} {ls : Array Slot} {rest : List Value} {Qc : Array Value → State → Outcome → State → Prop} {XC : String → State → State → Prop} {cc : ByteArray} {pc : Nat} (hexec : p.tables.exec = Jvm.exec) (hb : c.code = cc) (hl : l.stackTraces = false) {text : String} {ik is mc ms sa : Nat} {A : Nat → Prop}
    (hown : s.vm.findClass "FedClocks" = some m.cls)
    (hk : (Cond.classLink "FedClocks" ik "java/util/NoSuchElementException").before args s = true) (hini : (Cond.initialized "java/util/NoSuchElementException").before args s = true) (hstr : vk_R "FedClocks" is text sa s) (hat : ∀ w ∈ zx_at, w.before args s = true)
    (hgood : ∀ w ∈ Cond.classLink "FedClocks" ik "java/util/NoSuchElementException" :: Cond.initialized "java/util/NoSuchElementException" :: zx_at, vx_ot w = true)
    (hU : vx_Zq Bundle.tN "UNASSIGNED_STACK" Bundle.steD A s s.heap) (hN : vx_Zq Bundle.tN "SUPPRESSED_SENTINEL" Bundle.listD A s s.heap) (hS : va_S A s.heap H locs) (hsize : ls.size = c.maxLocals)
    (d0 : decode cc pc = .ok (.new ik, 3)) (d3 : decode cc (pc + 3) = .ok (.dup, 1)) (d4 : decode cc (pc + 4) = .ok (.ldc is, 2)) (d6 : decode cc (pc + 6) = .ok (.invokespecial 165, 3)) (d9 : decode cc (pc + 9) = .ok (.athrow, 1))
    (hout : ∀ x ∈ c.exceptionTable.toList, covers x (pc + 9) = false)
    (hRframes : 2 + 3 < R.frames) (hRlocals : (rest.map fun v => v.category).sum + (13 * 3 + 43) ≤ R.locals) (hRcells : cells + 1 ≤ R.cells) (hRslots : slots + 6 ≤ R.slots) (hlocks : meth.locks = false)
    (hx : ∀ t : State, s.vm.Alike t.vm → H.size ≤ t.heap.size → (∀ q : Nat, q < H.size → t.heap[q]? = H[q]?) → XC "java/util/NoSuchElementException" s t)
    (hf : ∀ z ∈ locs, free z.base) (hc : cells + 1 ≤ mc) (hs : slots + 6 ≤ ms) :
    W p l e R s m args below meth c H locs cells slots (vx_MQ below Qc XC args s mc ms free) (F0 m pc ls rest) := by
  intro T hT X
  have htr : e.platform.stackTraces = false := (show e.platform.stackTraces = l.stackTraces by rw [X.admits.platform]).trans hl
  have Y := vx_rebase X (R' := { frames := R.frames, locals := R.locals, cells := 1, slots := 6 }) (Nat.le_refl _) (Nat.le_refl _) hRcells hRslots
  obtain ⟨s', hA⟩ : ∃ z, z = (T.setVm s.vm).setFrames (.invoking m args :: below) := ⟨_, rfl⟩
  rw [← hA] at Y
  have hvm : s'.vm = s.vm := by rw [hA]; rfl
  have hhp : s'.heap = H := by rw [hA]; exact hT
  have hW0 : s.WarmedH s'.vm := by rw [hvm]; exact State.WarmedH.refl s
  have hat' : ∀ w ∈ zx_at, w.before args s' = true := fun w hw => vx_ot_at hW0 hvm.symm (hgood w (List.mem_cons_of_mem _ (List.mem_cons_of_mem _ hw))) (hat w hw)
  have hk' : (Cond.classLink "FedClocks" ik "java/util/NoSuchElementException").before args s' = true := vx_ot_at hW0 hvm.symm (hgood _ List.mem_cons_self) hk
  have hini' : (Cond.initialized "java/util/NoSuchElementException").before args s' = true := vx_ot_at hW0 hvm.symm (hgood _ (List.mem_cons_of_mem _ List.mem_cons_self)) hini
  have hU' : vx_Zq Bundle.tN "UNASSIGNED_STACK" Bundle.steD A s' s'.heap := by rw [hhp]; exact vx_Zq.moved hW0.alike (hU.kept hS.2.1)
  have hN' : vx_Zq Bundle.tN "SUPPRESSED_SENTINEL" Bundle.listD A s' s'.heap := by rw [hhp]; exact vx_Zq.moved hW0.alike (hN.kept hS.2.1)
  have h : ∀ w ∈ zx_own, w.before args s' = true := vx_own hat' (vx_isRefq hU'.1) (vx_isRefq hN'.1) hU'.2.word hN'.2.word
  have hown' : s'.vm.findClass "FedClocks" = some m.cls := by rw [hvm]; exact hown
  have hins : (Cond.instantiable "java/util/NoSuchElementException" 6).before args s' = true := h _ (by decide +kernel)
  obtain ⟨vm₁, cX, kX, hfX, hkX, -, -, X₁, st1⟩ := Y.newCold hexec (own := "FedClocks") (C := "java/util/NoSuchElementException") (index := ik) (n := 6) hown' hk' hins hini'
    (g := F0 m pc ls rest) rfl (by rw [hb]; exact d0) (Nat.le_refl _) (Nat.le_refl _)
  generalize hT1 : (T.setVm vm₁).pushCell { cls := cX, slots := kX.instanceTypes.map defaultValue, vm := .none } = T1 at X₁ st1
  have hcat : (Value.ref T.heap.size).category = 1 := rfl
  have hcellA : T1.heap[T.heap.size]? = some (freshCell cX kX) := by rw [← hT1]; exact State.heap_pushCell_size _ _
  have d3' : decode c.code (pc + 3) = .ok (.dup, 1) := by rw [hb]; exact d3
  have d4' : decode c.code (pc + 4) = .ok (.ldc is, 2) := by rw [hb]; exact d4
  have hstr' : vk_R "FedClocks" is text sa s' := vk_R.warm hW0 hstr
  obtain ⟨U, hsteps, hrun, hend, hW, hsame, ce, hce, hOv, hOc⟩ := zx_ctor X₁ hexec htr hown' h (fun x hx => nomatch hx) hfX hkX hcellA (by rw [hhp, hT]; exact Nat.le_refl _) (msg := .ref sa) rfl
    (g := { method := m, pc := pc + 6, locals := ls, stack := .ref sa :: .ref T.heap.size :: .ref T.heap.size :: rest, locked := none }) rfl hsize rfl rfl (rest := rest) rfl
    (by rw [hb]; exact d6) (by rw [hb]; exact d9) hout hRframes (by simp only [List.map_cons, List.sum_cons, hcat]; omega) hlocks
  obtain ⟨f1, f2⟩ := vx_frame hsame
  rw [hhp] at f1 f2
  have hWs : s.WarmedH U.vm := State.WarmedH.trans hW0 hW
  have hcl : s.vm.findClass "java/util/NoSuchElementException" = some ce.cls := by
    have h9 := hOc
    rw [hvm] at h9
    exact h9
  have hall : s.sameButNew ({ U with vm := s.vm } : State) locs mc ms := by
    subst hA
    obtain ⟨e1, e2⟩ := hsame
    rw [State.setFrames_setFrames] at e1
    have h2 : (T.setVm s.vm).sameButNew ({ U with vm := s.vm } : State) [] (0 + 1) (0 + 6) := ⟨e1, e2⟩
    have h3 := X.same.trans h2
    rw [List.append_nil] at h3
    exact h3.mono hc hs
  refine ⟨U, ?_, .threw T.heap.size, hrun, hend, Or.inr ⟨T.heap.size, rfl, "java/util/NoSuchElementException", ce, locs, hx U hWs.alike f1 (fun q hq => f2 q hq (fun z hz => nomatch hz)), hce, hOv, hcl, hWs, hall, hf⟩⟩
  refine st1 _ ?_
  show Steps p.tables e below (T1.setTop { method := m, pc := pc + 3, locals := ls, stack := .ref T.heap.size :: rest, locked := none }) _
  jvm_step X₁.here [X₁.here.top, hexec, d3', Value.category]
  exact X₁.ldcString hexec (own := "FedClocks") (text := text) (index := is) (a := sa) hown' hstr'.1 hstr'.2
    (g := { method := m, pc := pc + 4, locals := ls, stack := .ref T.heap.size :: .ref T.heap.size :: rest, locked := none }) rfl d4' _ hsteps
def z_thr (zn : Bool) (d : Nat) (args : List Value) (h h' : z_H) : Prop := h'.1 < z_RO ∧ (z_as args).length ≤ z_ml 132 ∧ ∃ (os : List z_O) (lv : List (Option Value)) (P : Prop), z_path (z_sem zn d) (none, zn) (h'.1, h'.2.1) 132 os (0, z_args (z_ml 132) args, [], h) = some ((18, lv, [], h'), P) ∧ P
def z_TU (A : Nat → Prop) (U : State) (H : Heap) : Prop := (∀ w ∈ zx_bad, ∀ a : Array Value, w.before a U = true) ∧ vx_Zq Bundle.tN "UNASSIGNED_STACK" Bundle.steD A U H ∧ vx_Zq Bundle.tN "SUPPRESSED_SENTINEL" Bundle.listD A U H
def z_PcX (zn : Bool) (D : va_G) (tc : Nat → ClassId) (ad : Nat → Nat) (sz : Nat) (args : List Value) (h : z_H) : Array Value → State → Prop := fun a U => z_Pc zn D tc ad sz args h a U ∧ z_TU (va_A (z_w ad tc h) sz) U U.heap
def z_XC (D : va_G) (tc : Nat → ClassId) (A : Nat → Prop) (ad : Nat → Nat) (n : Nat) (h' : z_H) : String → State → State → Prop := fun E st t => E = "java/util/NoSuchElementException" ∧ ∃ ad' : Nat → Nat, z_B D tc A ad n h' ad' t ∧ va_F A st t
set_option maxRecDepth 100000 in
theorem zx_all : ∀ w ∈ Cond.classLink "FedClocks" 161 "java/util/NoSuchElementException" :: Cond.initialized "java/util/NoSuchElementException" :: zx_at, (w ∈ z_G ∨ w ∈ zx_bad) ∧ vx_ot w = true := by decide +kernel
set_option maxRecDepth 100000 in
theorem zx_bad_tbl : ∀ w ∈ zx_bad, w ∈ lw_tbl ∧ w.onTables = true ∧ w.keepsFace = true := by decide +kernel
/-- such a word stays under warmer tables -/
theorem zx_warm {s U : State} {args a' : Array Value} (hW : s.WarmedH U.vm) {w : Cond} (h1 : w.onTables = true) (h2 : w.keepsFace = true) (h : w.before args s = true) : w.before a' U = true := by
  have h3 := Cond.before_shiftedFace (State.Shifted.of_warmed hW) w h2 h
  exact va_tabs h1 (u := s.setVm U.vm) rfl h3
theorem zx_d : decode (z_mc 132) 18 = .ok (.new 161, 3) ∧ decode (z_mc 132) (18 + 3) = .ok (.dup, 1) ∧ decode (z_mc 132) (18 + 4) = .ok (.ldc 163, 2) ∧ decode (z_mc 132) (18 + 6) = .ok (.invokespecial 165, 3) ∧ decode (z_mc 132) (18 + 9) = .ok (.athrow, 1) := by decide +kernel
theorem zx_c : (z_mn 132).cls = "FedClocks" := by decide +kernel
theorem z_sndX (zn : Bool) (d : Nat) {args : List Value} {h h' : z_H} (hsem : z_thr zn (d + 1) args h h') (ha : ∀ w ∈ args, z_okv h.1 w) (ho : ∀ k, k < h.1 → z_oke h.1 (h.2.2 k)) (hu : z_useok 132 = true) (l : Launch) (hfl : l.stackTraces = false) (D : va_G) (tc : Nat → ClassId) (ad : Nat → Nat) (sz : Nat) :
    vx_Met l (z_mn 132) (z_ws 132) (z_rm (d + 2) (h'.1 - h.1 + 1) (h'.2.1 - h.2.1 + 6)) (z_PcX zn D tc ad sz args h) (fun _ _ _ _ => False) (z_XC D tc (va_A (z_w ad tc h) sz) ad h.1 h') (h'.1 - h.1 + 1) (h'.2.1 - h.2.1 + 6) (va_A (z_w ad tc h) sz) := by
  obtain ⟨hlt, hlen, os, lv, P, hpath, hP⟩ := hsem
  obtain ⟨u1, u2, u3, u4, u5⟩ := z_mg hu
  unfold z_useok at hu
  rw [Bool.and_eq_true, Bool.and_eq_true] at hu
  refine vx_ofW (cc := z_mc 132) (maxL := z_ml 132) (ret := z_mr 132) u1 rfl ?_
  intro p e s m args' below meth c s₁ B hml htab hv
  obtain ⟨⟨rfl, hsz, hP0, hkn, hka, hD0, hTC, hro⟩, hTU⟩ := hv
  have hx := B.exec
  have hb := B.bytes
  have hr := B.returns
  have hts := atoms_spec (ws := z_ws 132) B.pre
  have hown : s.vm.findClass (z_mn 132).cls = some m.cls := findClass_of_methodNamed B.named
  have hlocks := B.notSynchronized
  have hin : meth.name = (z_mn 132).name := (name_of_methodNamed B.named B.method).1
  subst hsz
  have hD := hD0.self (sz := s.heap.size)
  have F : z_Fix zn (none, zn) (d + 1) 132 p (headSpec (z_ws 132) (z_rm (d + 2) (h'.1 - h.1 + 1) (h'.2.1 - h.2.1 + 6))).room s m (args.map (z_v ad)).toArray meth c D tc (va_A (z_w ad tc h) s.heap.size) ad h.1 (h.1 + 1000, h.2.1 + 6000) (h'.1, h'.2.1) :=
    ⟨hx, hb, hml, hown, fun w hw => hts w (List.mem_cons_of_mem _ hw), fun q hq => Or.inr hq, fun q => hin.trans q, hro, hTC, hkn, ⟨rfl, fun x hx => by cases hx⟩, hlt, by show h'.1 + 1000 ≤ h.1 + 1000 + (h'.1 - h.1 + 1); omega, by show h'.2.1 + 6000 ≤ h.2.1 + 6000 + (h'.2.1 - h.2.1 + 6); omega, by show d + 1 + 5 ≤ d + 2 + 4; omega, by show 40 * (d + 1) + 440 ≤ 40 * (d + 2) + 400; exact z_arith2 (d + 1)⟩
  have hl := lv_entry (args.map (z_v ad)) (n := z_ml 132) (by rw [z_sl_len]; exact hlen)
  rw [lg_entry_eq]
  generalize (lg_sl (args.map (z_v ad)) ++ List.replicate (z_ml 132 - (lg_sl (args.map (z_v ad))).length) Slot.unset).toArray = ls at hl ⊢
  refine zs_path (sl0 := (h.1 + 1000, h.2.1 + 6000)) F (z_snd zn (d + 1)) hu.2.1 hu.2.2 os _ _ P hpath hP ?_ ad s.heap [] 0 0 ls ⟨hP0, hD, va_S.rf, hka, ⟨hl.1, hl.2.1, fun i w hi => hl.2.2 (i, z_v ad w) (z_args_at hi)⟩, ⟨fun w hw => ha w (z_args_mem hw), (fun w hw => nomatch hw), ho⟩, ⟨Nat.add_zero _, Nat.add_zero _, Nat.le_refl _⟩, fun i _ => rfl⟩
  intro ad' H locs cells slots ls rel
  have hn0 : h.1 + 1000 + cells = h'.1 + 1000 := rel.2.2.2.2.2.2.1.1
  have hs0 : h.2.1 + 6000 + slots = h'.2.1 + 6000 := rel.2.2.2.2.2.2.1.2.1
  have hG : ∀ w ∈ Cond.classLink "FedClocks" 161 "java/util/NoSuchElementException" :: Cond.initialized "java/util/NoSuchElementException" :: zx_at, w.before (args.map (z_v ad)).toArray s = true := fun w hw => (zx_all w hw).1.elim (fun q => hts w (List.mem_cons_of_mem _ q)) (fun q => hTU.1 w q _)
  exact zx_throw (ik := 161) (is := 163) (sa := ad (z_RO + 4)) (A := va_A (z_w ad tc h) s.heap.size) hx hb hfl (by rw [← zx_c]; exact hown)
    (hG _ List.mem_cons_self) (hG _ (List.mem_cons_of_mem _ List.mem_cons_self)) (hro.2.1 ("FedClocks", 163, 4) (by decide)) (fun w hw => hG w (List.mem_cons_of_mem _ (List.mem_cons_of_mem _ hw))) (fun w hw => (zx_all w hw).2)
    hTU.2.1 hTU.2.2 rel.2.2.1 (rel.2.2.2.2.1.1.trans hml.symm) zx_d.1 zx_d.2.1 zx_d.2.2.1 zx_d.2.2.2.1 zx_d.2.2.2.2 (fun x hx => absurd (htab x hx) id)
    (by show 2 + 3 < d + 2 + 4; omega) (by show 0 + (13 * 3 + 43) ≤ 40 * (d + 2) + 400; omega) (by show cells + 1 ≤ h'.1 - h.1 + 1; omega) (by show slots + 6 ≤ h'.2.1 - h.2.1 + 6; omega) hlocks
    (fun t h1 h2 h3 => ⟨rfl, ad', ⟨rel.1.kept (fun k q hk => h3 _ (rel.1 k q hk).lt), rel.2.2.2.1.moved h1, rel.2.1, rel.2.2.2.2.2.2.2, rel.2.2.2.2.2.1.2.2⟩, ⟨Nat.le_trans rel.2.2.1.1 h2, fun q hq hA => (h3 q (Nat.lt_of_lt_of_le hq rel.2.2.1.1)).trans (rel.2.2.1.2.1 q hq hA)⟩⟩)
    rel.2.2.1.2.2 (by omega) (by omega)
