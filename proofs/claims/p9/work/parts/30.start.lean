/-! FROM THE ENTRY (wip/tools/gw/tail10.py) -/
theorem zl_end {p : Program} {l : Launch} {e : Env} {s : State} {m : MethodId} {below : List Frame} {meth : Method} {c : Code} {b : Nat} {D : va_G} {tc : Nat → ClassId} {ad0 : Nat → Nat} (hx : p.tables.exec = Jvm.exec) (hb : c.code = code) (hr : meth.sig.returnType = ret) (hlocks : meth.locks = false) (hd : decode code 1694 = .ok (.ireturn, 1)) :
    ∀ (lv : List (Option Value)) (h : z_H) (a1 a2 : Nat), 400 ≤ a1 → 2000 ≤ a2 → h.1 ≤ 200 → h.2.1 ≤ 200000 → z_Go 1 p l e room_1 s m #[Value.ref b] below meth c (lw_Z below #[Value.ref b] s) D tc (fun q => s.heap.size ≤ q) ad0 0 (a1, a2) (1694, lv, [.int (Int32.ofInt 1)], h) := by
  intro lv h a1 a2 ha1 ha2 hn1 hn2 ad H locs cells slots ls rel
  have h1 : a1 + cells = h.1 + 1000 := rel.2.2.2.2.2.2.1.1
  have h2 : a2 + slots = h.2.1 + 6000 := rel.2.2.2.2.2.2.1.2.1
  refine va_forget (fun q hq => rel.2.2.1.2.2 q hq) ?_
  refine W.widen (k := 601024) (n := 7293034) (by omega) (by omega) ?_
  exact lw_ret hx hb hr hlocks hd
theorem zl_room : (2048 : Nat) = room_1.frames ∧ (601024 : Nat) = room_1.cells ∧ (7293034 : Nat) = room_1.slots ∧ (84000 : Nat) = room_1.locals := ⟨rfl, rfl, rfl, rfl⟩
set_option maxRecDepth 100000 in
theorem zl_init : (z_mn 1).name ≠ "<init>" := by decide +kernel
theorem zl_own : (z_mn 1).cls = R_law := by decide +kernel
theorem zl_dend : decode code 1694 = .ok (.ireturn, 1) := by decide +kernel
theorem zl_off {l : Launch} (h : l.flags = flags0) : l.stackTraces = false := by
  unfold Launch.stackTraces
  rw [h]
  decide
set_option maxRecDepth 100000 in
set_option maxHeartbeats 4000000 in
theorem zl_pre (zn : Bool) (d L : Nat) (xs : Nat → Int32) : z_reach (z_sem zn (d + 10)) (some (L, xs), zn) (200, 200000) 1 (0, z_args 7 [.ref (z_RO + 300)], [], zhS) (23, zfr 0 none none, [], zh40) := by
  refine ⟨[zo, zo, zc (none) zh35, zo, zo, zo, zc (none) zh38, zo, zo, zo, zo, zo, zo], _, rfl, ?_⟩
  exact ⟨⟨(Nat.le_of_ble_eq_true rfl), (Nat.le_of_ble_eq_true rfl)⟩, trivial, ⟨⟨(Nat.le_of_ble_eq_true rfl), rfl⟩, zq36 zn (d + 7), (Nat.le_of_ble_eq_true rfl), (Nat.le_of_ble_eq_true rfl), (Nat.le_of_ble_eq_true rfl), (Nat.le_of_ble_eq_true rfl), (Nat.le_of_ble_eq_true rfl)⟩, trivial, ⟨(Nat.le_of_ble_eq_true rfl), (Nat.le_of_ble_eq_true rfl)⟩, trivial, ⟨⟨(Nat.le_of_ble_eq_true rfl), rfl⟩, zq39 zn (d + 9), (Nat.le_of_ble_eq_true rfl), (Nat.le_of_ble_eq_true rfl), (Nat.le_of_ble_eq_true rfl), (Nat.le_of_ble_eq_true rfl), (Nat.le_of_ble_eq_true rfl)⟩, trivial, trivial, ⟨(by decide +kernel), (Nat.le_of_ble_eq_true rfl), (Nat.le_of_ble_eq_true rfl)⟩, trivial, trivial, trivial, trivial⟩
theorem zOP0 : zOP (107, 35862) zm0 0 := ⟨zI0, zH0, zJ0, zRT_0⟩
set_option maxHeartbeats 4000000 in
/-- YOUR PART: from the entry, for every script of at most 3072 ints, the law comes to its end with true -/
theorem whole_start {p : Program} {e : Env} {s : State} {m : MethodId} {below : List Frame} {meth : Method} {c : Code} (l : Launch) (hflags : l.flags = flags0) {b L : Nat} {xs : Nat → Int32} (hL : L ≤ 3072) (C0 : lw_At p s m meth c b L xs) : W p l e room_1 s m #[Value.ref b] below meth c s.heap [] 0 0 (lw_Z below #[Value.ref b] s) (entryFrame m ([Value.ref b] : List Value).toArray 7) := by
  obtain ⟨hx, hb, hr, hml, hown, hts, hX, hbl, hlocks, hgv⟩ := C0
  obtain ⟨zn, D, tc, ad0, hro, hTC, hkn, hb3⟩ := z_start0 hts hgv
  have hF : ∀ a1 a2 : Nat, 400 ≤ a1 → 2000 ≤ a2 → z_Fix zn (some (L, xs), zn) 63 1 p room_1 s m #[Value.ref b] meth c D tc (fun q => s.heap.size ≤ q) ad0 0 (a1, a2) (200, 200000) := fun a1 a2 h1 h2 =>
    ⟨hx, hb, hml, by rw [zl_own]; exact hown, fun w hw => hts w (List.mem_filter.mp hw).1, fun q hq => hq, fun q => absurd q zl_init, hro, hTC, hkn, ⟨rfl, fun x hx => by
      cases hx
      rw [hb3]
      exact ⟨hX, hbl, Nat.not_le.mpr hbl⟩⟩, by decide, by rw [← zl_room.2.1]; show 200 + 1000 ≤ a1 + 601024; omega, by rw [← zl_room.2.2.1]; show 200000 + 6000 ≤ a2 + 7293034; omega, by rw [← zl_room.1]; decide, by rw [← zl_room.2.2.2]; decide⟩
  have hl := lv_entry (([.ref (z_RO + 300)] : List Value).map (z_v ad0)) (n := 7) (by rw [z_sl_len]; decide)
  have e0 : ([.ref (z_RO + 300)] : List Value).map (z_v ad0) = [Value.ref b] := by
    show [Value.ref (ad0 (z_RO + 300))] = _
    rw [hb3]
  have go : z_Go 1 p l e room_1 s m #[Value.ref b] below meth c (lw_Z below #[Value.ref b] s) D tc (fun q => s.heap.size ≤ q) ad0 0 (1000, 6000) (0, z_args 7 [.ref (z_RO + 300)], [], zhS) := by
    refine zlg (hF 1000 6000 (by omega) (by omega)) (zl_pre zn 53 L xs) ?_
    rw [zh40_zk]
    exact zl_loop hF (zl_off hflags) (z_TU0 hts hgv) hL (zl_end hx hb hr hlocks zl_dend) 512 0 0 none none (107, 35862) zm0 1000 6000 (by omega) (by omega) (by omega) (by omega) (by decide) (by decide) (by show ((35862 : Nat) : Int) ≤ 35862 + 47 * 0; omega) (by omega) (by omega) zOP0
  rw [e0] at hl
  rw [lg_entry_eq]
  generalize (lg_sl [Value.ref b] ++ List.replicate (7 - (lg_sl [Value.ref b]).length) Slot.unset).toArray = ls at hl ⊢
  have w0 : z_w ad0 tc zhS = [] := rfl
  have fP : va_P D z_cl (z_w ad0 tc zhS) s.heap := by
    rw [w0]; intro k q hq; simp at hq
  have fD : va_D (fun q => s.heap.size ≤ q) (z_w ad0 tc zhS) := by
    rw [w0]; exact ⟨fun i j p q hp => by simp at hp, fun k q hq => by simp at hq⟩
  have fo : z_okS (0, z_args 7 [.ref (z_RO + 300)], [], zhS) := ⟨fun w hw => by
    have := z_args_mem hw
    rw [List.mem_singleton.mp this]
    exact Or.inr (Nat.le_add_right _ _), (fun w hw => nomatch hw), fun k hk => absurd hk (Nat.not_lt_zero k)⟩
  exact go ad0 s.heap [] 0 0 ls ⟨fP, fD, va_S.rf, fun k hk => absurd hk (Nat.not_lt_zero k), ⟨hl.1, hl.2.1, fun i w hi => hl.2.2 (i, z_v ad0 w) (by have h9 := z_args_at (ad := ad0) hi; rw [e0] at h9; exact h9)⟩, fo, ⟨Nat.add_zero _, Nat.add_zero _, Nat.le_refl _⟩, fun i _ => rfl⟩
