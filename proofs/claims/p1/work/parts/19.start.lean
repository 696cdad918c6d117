/-! the claim's start -/
theorem zl_off {l : Launch} (h : l.flags = flags0) : l.stackTraces = false := by
  unfold Launch.stackTraces
  rw [h]
  decide
theorem zl_p380 (zn : Bool) (d : Nat) (xs : Nat → Int32) : z_reach (z_sem zn d) (some (6, xs), zn) (200, 40000) 1 (380, [some (.ref (z_RO + 300)), some (.ref 0), some (.ref 79), some (.ref 106), some (.int (Int32.ofInt 0)), none, none], [], zh40) (394, [some (.ref (z_RO + 300)), some (.ref 0), some (.ref 79), some (.ref 106), some (.int (Int32.ofInt 0)), none, none], [.ref 106, .int (xs (Int32.ofInt 0 + Int32.ofInt 2).toNatClampNeg), .int (xs (Int32.ofInt 0 + Int32.ofInt 1).toNatClampNeg), .ref 0], zh40) := by
  refine ⟨[zo, zo, zo, zo, zo, zo, zo, zo, zo, zo, zo, zo], _, rfl, ?_⟩
  exact ⟨trivial, trivial, trivial, trivial, trivial, z6i1, trivial, trivial, trivial, trivial, z6i2, trivial, trivial⟩
theorem zl_isc (zn : Bool) (d : Nat) (a1 : Int32) : z_sem zn (d + 1) 150 [.ref 0, .int a1] zh40 (some (.int (Int32.ofInt 0))) zh40 := by
  have hA := Int32.le_toInt a1
  have hB := Int32.toInt_lt a1
  by_cases h1 : a1.toInt ≤ -1
  · exact zq231 zn d a1 (by omega) (by omega)
  · by_cases h2 : a1.toInt ≤ 0
    · exact zq225 zn d a1 (by omega) (by omega)
    · exact zq219 zn d a1 (by omega) (by omega)
theorem zl_thr (zn : Bool) (d : Nat) (w1 w2 : Int32) : z_thr zn (d + 1) [.ref 0, .int w1, .int w2] zh40 zh40 := by
  refine ⟨Nat.le_of_ble_eq_true rfl, Nat.le_of_ble_eq_true rfl, [zo, zo, zc (some (.int (Int32.ofInt 0))) zh40, zt], _, _, rfl, ?_⟩
  exact ⟨trivial, trivial, ⟨⟨(Nat.le_of_ble_eq_true rfl), (Nat.le_of_ble_eq_true rfl)⟩, zl_isc zn d w1, (Nat.le_of_ble_eq_true rfl), (Nat.le_of_ble_eq_true rfl), (Nat.le_of_ble_eq_true rfl), (Nat.le_of_ble_eq_true rfl), (Nat.le_of_ble_eq_true rfl)⟩, rfl, trivial⟩
set_option maxHeartbeats 4000000 in
/-- YOUR PART: from the entry, for every script of at most 6 ints, the law comes to its end with true -/
theorem whole_start {p : Program} {e : Env} {s : State} {m : MethodId} {below : List Frame} {meth : Method} {c : Code} (l : Launch) (hflags : l.flags = flags0) {b L : Nat} {xs : Nat → Int32} (hL : L ≤ 6) (C0 : lw_At p s m meth c b L xs) : W p l e room_1 s m #[Value.ref b] below meth c s.heap [] 0 0 (lw_Z below #[Value.ref b] s) (entryFrame m ([Value.ref b] : List Value).toArray 7) := by
  have C1 := C0
  obtain ⟨hx, hb, hr, hml, hown, hts, hX, hbl, hlocks, hgv⟩ := C1
  refine zl_start l hL C0 (fun zn D tc ad0 hL6 F => ?_)
  subst hL6
  refine zl_go F (zl_p380 zn 14 xs) ?_
  refine z_clockgo (d := 11) F ⟨by decide, by decide⟩ (zl_off hflags) (z_TU0 hts hgv) (zl_thr zn 11 _ _) ?_
  obtain ⟨lv, h, r, b1, b2⟩ := zop_clock zn 4 xs
  have F1 : z_Fix zn (some (6, xs), zn) 14 1 p room_1 s m #[Value.ref b] meth c D tc (fun q => s.heap.size ≤ q) ad0 0 (999, 5994) (200, 40000) := by
    obtain ⟨f1, f2, f3, f4, f5, f6, f7, f8, f9, f10, f11, f12, f13, f14, f15, f16⟩ := F
    exact ⟨f1, f2, f3, f4, f5, f6, f7, f8, f9, f10, f11, f12, by rw [← zl_room.2.1]; decide, by rw [← zl_room.2.2.1]; decide, f15, f16⟩
  obtain ⟨os, P, h1, h2⟩ := r
  exact zs_path F1 (z_snd zn 14) zl_all zl_mc os _ _ P h1 h2 (zl_end hx hb hr hlocks ⟨by decide, by decide⟩ ⟨b1, b2⟩ zl_d22)
