/-! THE CLAIM OUT OF ONE WALK OF THE LAW'S BODY. Your part is whole_start (and what it stands on); all else here is the same for every law, but numbers. -/
def R_law : String := "FedClocksLaw"
def lw_P (b : Addr) (xs : List Int32) (args : Array Value) (s : State) : Prop := args = #[.ref b] ∧ s.IntsAt b xs ∧ xs.length ≤ 6 ∧ (Jvm.Cond.and given_1 narrow_1).before args s = true
def lw_Q (_ : Array Value) (s : State) (o : Outcome) (t : State) : Prop := o = .returned (some (.int 1)) ∧ Framed s o t [] 600002 7302231
def lw_Z (below : List Frame) (a : Array Value) (s : State) : State → Prop := fun t => ∃ o, t.status = .running ∧ Ended t below o ∧ lw_Q a s o t
/-- the law's own end, with 1 on the stack, nothing written that was there before, its room as the claim has it -/
theorem lw_ret {p : Program} {l : Launch} {e : Env} {s : State} {m : MethodId} {below : List Frame} {meth : Method} {c : Code} {b : Nat} (hx : p.tables.exec = Jvm.exec) (hb : c.code = code) (hr : meth.sig.returnType = ret) (hlocks : meth.locks = false) {pc : Nat} {H : Heap} {ls : Array Slot} (hdg : decode code pc = .ok (.ireturn, 1)) : W p l e room_1 s m #[Value.ref b] below meth c H [] 600002 7302231 (lw_Z below #[Value.ref b] s) (F0 m pc ls [.int 1]) := by
  intro T hT X
  obtain ⟨fs, hret, hrun, hended, hW, hframe⟩ := X.leave (v := some (.int 1)) (hlocks := hlocks) (fun h => by rw [hr] at h; cases h)
  have hmeth' : T.vm.method? m = some meth := X.method'
  refine ⟨T.setFrames fs, ?_, .returned (some (.int 1)), hrun, hended, rfl, ⟨_, rfl⟩, hW, hframe⟩
  jvm_step X.here [X.here.top, hx, hb, hdg, hmeth', hr, ret, narrow_b1]
  (try refine ⟨rfl, ?_⟩); (try refine ⟨rfl, ?_⟩)
  first | (intro acts; rw [hret _ acts rfl rfl rfl]) | rw [hret _ _ rfl rfl rfl]
  exact Steps.refl _
/-- what holds at the law's entry: the machine, the code, the tables' words (any of lw_tbl by 'hts w (by decide +kernel)'), the script of L ints xs at the cell b, what the Statement gives of the start (any of its parts by flat_of_before) -/
def lw_At (p : Program) (s : State) (m : MethodId) (meth : Method) (c : Code) (b L : Nat) (xs : Nat → Int32) : Prop :=
  p.tables.exec = Jvm.exec ∧ c.code = code ∧ meth.sig.returnType = ret ∧ c.maxLocals = 7 ∧ s.vm.findClass R_law = some m.cls ∧ (∀ w ∈ lw_tbl, w.before #[Value.ref b] s = true) ∧ va_X b L xs s s.heap ∧ b < s.heap.size ∧ meth.locks = false ∧ (Jvm.Cond.and given_1 narrow_1).before #[Value.ref b] s = true
/-! THE CLAIM: from the entry, by what the law does over places -/
theorem zl_go {zn : Bool} {d : Nat} {p : Program} {l : Launch} {e : Env} {s : State} {m : MethodId} {below : List Frame} {meth : Method} {c : Code} {b : Nat} {Q : State → Prop} {D : va_G} {tc : Nat → ClassId} {ad0 : Nat → Nat} {X : z_X}
    (F : z_Fix zn X d 1 p room_1 s m #[Value.ref b] meth c D tc (fun q => s.heap.size ≤ q) ad0 0 (1000, 6000) (200, 40000)) {st st2 : z_S} (hr : z_reach (z_sem zn d) X (200, 40000) 1 st st2) (k : z_Go 1 p l e room_1 s m #[Value.ref b] below meth c Q D tc (fun q => s.heap.size ≤ q) ad0 0 (1000, 6000) st2) :
    z_Go 1 p l e room_1 s m #[Value.ref b] below meth c Q D tc (fun q => s.heap.size ≤ q) ad0 0 (1000, 6000) st := by
  obtain ⟨os, P, h1, h2⟩ := hr
  exact zs_path F (z_snd zn d) zl_all zl_mc os st st2 P h1 h2 k
/-- the law's end; behind an exception its counts are one cell and six slots more -/
theorem zl_end {p : Program} {l : Launch} {e : Env} {s : State} {m : MethodId} {below : List Frame} {meth : Method} {c : Code} {b : Nat} {D : va_G} {tc : Nat → ClassId} {ad0 : Nat → Nat} {lv : List (Option Value)} {h : z_H} {a1 a2 : Nat} (hx : p.tables.exec = Jvm.exec) (hb : c.code = code) (hr : meth.sig.returnType = ret) (hlocks : meth.locks = false)
    (ha : 900 ≤ a1 ∧ 5000 ≤ a2) (hn : h.1 ≤ 200 ∧ h.2.1 ≤ 40000) (hd : decode code 1722 = .ok (.ireturn, 1)) : z_Go 1 p l e room_1 s m #[Value.ref b] below meth c (lw_Z below #[Value.ref b] s) D tc (fun q => s.heap.size ≤ q) ad0 0 (a1, a2) (1722, lv, [.int (Int32.ofInt 1)], h) := by
  intro ad H locs cells slots ls rel
  have h1 : a1 + cells = h.1 + 1000 := rel.2.2.2.2.2.2.1.1
  have h2 : a2 + slots = h.2.1 + 6000 := rel.2.2.2.2.2.2.1.2.1
  obtain ⟨ha1, ha2⟩ := ha
  obtain ⟨hn1, hn2⟩ := hn
  refine va_forget (fun q hq => rel.2.2.1.2.2 q hq) ?_
  refine W.widen (k := 600002) (n := 7302231) (by omega) (by omega) ?_
  exact lw_ret hx hb hr hlocks hd
theorem zl_room : (2048 : Nat) = room_1.frames ∧ (600002 : Nat) = room_1.cells ∧ (7302231 : Nat) = room_1.slots ∧ (84000 : Nat) = room_1.locals := ⟨rfl, rfl, rfl, rfl⟩
set_option maxRecDepth 100000 in
theorem zl_init : (z_mn 1).name ≠ "<init>" := by decide +kernel
theorem zl_own : (z_mn 1).cls = R_law := by decide +kernel
theorem zl_d22 : decode code 1722 = .ok (.ireturn, 1) := by decide +kernel
/-- all but clock -/
theorem zl_start {p : Program} {e : Env} {s : State} {m : MethodId} {below : List Frame} {meth : Method} {c : Code} (l : Launch) {b L : Nat} {xs : Nat → Int32} (hL : L ≤ 6) (C0 : lw_At p s m meth c b L xs)
    (hclock : ∀ (zn : Bool) (D : va_G) (tc : Nat → ClassId) (ad0 : Nat → Nat), L = 6 → z_Fix zn (some (6, xs), zn) 14 1 p room_1 s m #[Value.ref b] meth c D tc (fun q => s.heap.size ≤ q) ad0 0 (1000, 6000) (200, 40000) → z_Go 1 p l e room_1 s m #[Value.ref b] below meth c (lw_Z below #[Value.ref b] s) D tc (fun q => s.heap.size ≤ q) ad0 0 (1000, 6000) (380, [some (.ref (z_RO + 300)), some (.ref 0), some (.ref 79), some (.ref 106), some (.int (Int32.ofInt 0)), none, none], [], zh40)) :
    W p l e room_1 s m #[Value.ref b] below meth c s.heap [] 0 0 (lw_Z below #[Value.ref b] s) (entryFrame m ([Value.ref b] : List Value).toArray 7) := by
  obtain ⟨hx, hb, hr, hml, hown, hts, hX, hbl, hlocks, hgv⟩ := C0
  obtain ⟨zn, D, tc, ad0, hro, hTC, hkn, hb3⟩ := z_start0 hts hgv
  have F : z_Fix zn (some (L, xs), zn) 14 1 p room_1 s m #[Value.ref b] meth c D tc (fun q => s.heap.size ≤ q) ad0 0 (1000, 6000) (200, 40000) :=
    ⟨hx, hb, hml, by rw [zl_own]; exact hown, fun w hw => hts w (List.mem_filter.mp hw).1, fun q hq => hq, fun q => absurd q zl_init, hro, hTC, hkn, ⟨rfl, fun x hx => by
      cases hx
      rw [hb3]
      exact ⟨hX, hbl, Nat.not_le.mpr hbl⟩⟩, by decide, by rw [← zl_room.2.1]; decide, by rw [← zl_room.2.2.1]; decide, by rw [← zl_room.1]; decide, by rw [← zl_room.2.2.2]; decide⟩
  have hl := lv_entry (([.ref (z_RO + 300)] : List Value).map (z_v ad0)) (n := 7) (by rw [z_sl_len]; decide)
  have e0 : ([.ref (z_RO + 300)] : List Value).map (z_v ad0) = [Value.ref b] := by
    show [Value.ref (ad0 (z_RO + 300))] = _
    rw [hb3]
  have go : z_Go 1 p l e room_1 s m #[Value.ref b] below meth c (lw_Z below #[Value.ref b] s) D tc (fun q => s.heap.size ≤ q) ad0 0 (1000, 6000) (0, z_args 7 [.ref (z_RO + 300)], [], zh0) := by
    by_cases h6 : L = 6
    · subst h6
      refine zl_go F (zl_pre zn 4 xs) ?_
      generalize hq : ((xs (Int32.ofInt 0).toNatClampNeg) &&& ((Int8.ofInt 63).toInt32)) = x
      by_cases h4 : x.toInt = 4
      · exact zl_go F (zsw_4 zn 4 xs h4) (hclock zn D tc ad0 rfl F)
      · obtain ⟨lv, h, r, b1, b2⟩ := zl_case zn 4 xs x h4
        exact zl_go F r (zl_end hx hb hr hlocks ⟨by decide, by decide⟩ ⟨b1, b2⟩ zl_d22)
    · exact zl_go F (zl_short zn 4 xs (show L < 6 by omega)) (zl_end hx hb hr hlocks ⟨by decide, by decide⟩ ⟨Nat.le_of_ble_eq_true rfl, Nat.le_of_ble_eq_true rfl⟩ zl_d22)
  rw [e0] at hl
  rw [lg_entry_eq]
  generalize (lg_sl [Value.ref b] ++ List.replicate (7 - (lg_sl [Value.ref b]).length) Slot.unset).toArray = ls at hl ⊢
  have w0 : z_w ad0 tc zh0 = [] := rfl
  have fP : va_P D z_cl (z_w ad0 tc zh0) s.heap := by
    rw [w0]; intro k q hq; simp at hq
  have fD : va_D (fun q => s.heap.size ≤ q) (z_w ad0 tc zh0) := by
    rw [w0]; exact ⟨fun i j p q hp => by simp at hp, fun k q hq => by simp at hq⟩
  have fo : z_okS (0, z_args 7 [.ref (z_RO + 300)], [], zh0) := ⟨fun w hw => by
    have := z_args_mem hw
    rw [List.mem_singleton.mp this]
    exact Or.inr (Nat.le_add_right _ _), (fun w hw => nomatch hw), fun k hk => absurd hk (Nat.not_lt_zero k)⟩
  exact go ad0 s.heap [] 0 0 ls ⟨fP, fD, va_S.rf, fun k hk => absurd hk (Nat.not_lt_zero k), ⟨hl.1, hl.2.1, fun i w hi => hl.2.2 (i, z_v ad0 w) (by have h9 := z_args_at (ad := ad0) hi; rw [e0] at h9; exact h9)⟩, fo, ⟨Nat.add_zero _, Nat.add_zero _, Nat.le_refl _⟩, fun i _ => rfl⟩
