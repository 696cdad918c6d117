/-! THE CLAIM OUT OF ONE WALK OF THE LAW'S BODY. Your part is whole_start (and what it stands on); all else here is the same for every law, but numbers. -/
def R_law : String := "FedClocksLaw"
def lw_P (b : Addr) (xs : List Int32) (args : Array Value) (s : State) : Prop := args = #[.ref b] ∧ s.IntsAt b xs ∧ xs.length ≤ 3072 ∧ (Jvm.Cond.and given_1 narrow_1).before args s = true
def lw_Q (_ : Array Value) (s : State) (o : Outcome) (t : State) : Prop := o = .returned (some (.int 1)) ∧ Framed s o t [] 601024 7293034
def lw_Z (below : List Frame) (a : Array Value) (s : State) : State → Prop := fun t => ∃ o, t.status = .running ∧ Ended t below o ∧ lw_Q a s o t
/-- the law's own end, with 1 on the stack, nothing written that was there before, its room as the claim has it -/
theorem lw_ret {p : Program} {l : Launch} {e : Env} {s : State} {m : MethodId} {below : List Frame} {meth : Method} {c : Code} {b : Nat} (hx : p.tables.exec = Jvm.exec) (hb : c.code = code) (hr : meth.sig.returnType = ret) (hlocks : meth.locks = false) {pc : Nat} {H : Heap} {ls : Array Slot} (hdg : decode code pc = .ok (.ireturn, 1)) : W p l e room_1 s m #[Value.ref b] below meth c H [] 601024 7293034 (lw_Z below #[Value.ref b] s) (F0 m pc ls [.int 1]) := by
  intro T hT X
  obtain ⟨fs, hret, hrun, hended, hW, hframe⟩ := X.leave (v := some (.int 1)) (hlocks := hlocks) (fun h => by rw [hr] at h; cases h)
  have hmeth' : T.vm.method? m = some meth := X.method'
  refine ⟨T.setFrames fs, ?_, .returned (some (.int 1)), hrun, hended, rfl, ⟨_, rfl⟩, hW, hframe⟩
  jvm_step X.here [X.here.top, hx, hb, hdg, hmeth', hr, ret, narrow_b1]
  (try refine ⟨rfl, ?_⟩); (try refine ⟨rfl, ?_⟩)
  first | (intro acts; rw [hret _ acts rfl rfl rfl]) | rw [hret _ _ rfl rfl rfl]
  exact Steps.refl _
/-- what holds at the law's entry: the machine, the code, the tables' words (any of lw_tbl by 'hts w (by decide +kernel)'), the script of L ints xs at the cell b, what the Statement gives of the start (any of its parts by flat_of_before) -/
def lw_At (p : Program) (s : State) (m : MethodId) (meth : Method) (c : Code) (b L : Nat) (xs : Nat → Int32) : Prop :=
  p.tables.exec = Jvm.exec ∧ c.code = code ∧ meth.sig.returnType = ret ∧ c.maxLocals = 7 ∧ s.vm.findClass R_law = some m.cls ∧ (∀ w ∈ lw_tbl, w.before #[Value.ref b] s = true) ∧ va_X b L xs s s.heap ∧ b < s.heap.size ∧ meth.locks = false ∧ (Jvm.Cond.and given_1 narrow_1).before #[Value.ref b] s = true
/-! THE LAW'S LOOP (wip/tools/gw/tail10.py) -/
theorem zlg {zn : Bool} {p : Program} {l : Launch} {e : Env} {R : Room} {s : State} {m : MethodId} {args : Array Value} {below : List Frame} {meth : Method} {c : Code} {Q : State → Prop} {D : va_G} {tc : Nat → ClassId} {A : Nat → Prop} {ad0 : Nat → Nat} {n0 : Nat} {d : Nat} {X : z_X} {a B : Nat × Nat} (F : z_Fix zn X d 1 p R s m args meth c D tc A ad0 n0 a B) {st st2 : z_S} (hr : z_reach (z_sem zn d) X B 1 st st2) (k : z_Go 1 p l e R s m args below meth c Q D tc A ad0 n0 a st2) : z_Go 1 p l e R s m args below meth c Q D tc A ad0 n0 a st := by
  obtain ⟨os, P, h1, h2⟩ := hr
  exact zs_path F (z_snd zn d) zl_all zl_mc os st st2 P h1 h2 k
set_option maxRecDepth 100000 in
set_option maxHeartbeats 4000000 in
/-- clock, which may throw -/
theorem zl_c4 {zn : Bool} {L : Nat} {xs : Nat → Int32} {p : Program} {l : Launch} {e : Env} {R : Room} {s : State} {m : MethodId} {args : Array Value} {below : List Frame} {meth : Method} {c : Code} {Q : State → Prop} {D : va_G} {tc : Nat → ClassId} {A : Nat → Prop} {ad0 : Nat → Nat} {n0 : Nat} (hF : ∀ a1 a2 : Nat, 400 ≤ a1 → 2000 ≤ a2 → z_Fix zn (some (L, xs), zn) 63 1 p R s m args meth c D tc A ad0 n0 (a1, a2) (200, 200000)) (hfl : l.stackTraces = false) (hTU : z_TU A s s.heap) (i t : Int) (h0 : 0 ≤ i) (hi : i + 6 ≤ L) (hL : L ≤ 3072) (ht : 0 ≤ t ∧ t ≤ 40000) (o5 o6 : Option Value) {cc : Nat × Nat} {mm : zM} (hN : 107 ≤ cc.1) (hC : cc.1 ≤ 123) (hc2 : cc.2 ≤ 190000) (hV : zOP cc mm t) {a1 a2 : Nat} (ha : 401 ≤ a1 ∧ 2006 ≤ a2)
    (k : ∀ (m2 : zM) (o5' o6' : Option Value) (b1 b2 : Nat), (a1 ≤ b1 + 1 ∧ b1 ≤ a1 ∧ a2 ≤ b2 + 6 ∧ b2 ≤ a2) → zOP cc m2 (t + 60) → z_Go 1 p l e R s m args below meth c Q D tc A ad0 n0 (b1, b2) (1687, zfr i o5' o6', [], zk cc m2)) :
    z_Go 1 p l e R s m args below meth c Q D tc A ad0 n0 (a1, a2) (380, zfr i o5 o6, [], zk cc mm) := by
  obtain ⟨hI, hH, hJ, hK⟩ := hV
  have hRO : z_RO = 1000000 := rfl
  have hC' : cc.1 < z_RO := by omega
  have ix : ∀ k : Int, (0 ≤ k ∧ k ≤ 5) → vp_in (Int32.ofInt i + Int32.ofInt k) L := fun k hk => zx_ix h0 hk hi (by omega) rfl
  obtain ⟨w1, e1⟩ : ∃ q, q = (xs ((Int32.ofInt i + Int32.ofInt 1).toNatClampNeg)).toInt := ⟨_, rfl⟩
  have r1 : -2147483648 ≤ w1 ∧ w1 ≤ 2147483647 := by rw [e1]; exact ⟨Int32.le_toInt _, Int32.toInt_le _⟩
  have s1 : xs ((Int32.ofInt i + Int32.ofInt 1).toNatClampNeg) = Int32.ofInt w1 := by rw [e1]; exact zx_self _
  obtain ⟨w2, e2⟩ : ∃ q, q = (xs ((Int32.ofInt i + Int32.ofInt 2).toNatClampNeg)).toInt := ⟨_, rfl⟩
  have r2 : -2147483648 ≤ w2 ∧ w2 ≤ 2147483647 := by rw [e2]; exact ⟨Int32.le_toInt _, Int32.toInt_le _⟩
  have s2 : xs ((Int32.ofInt i + Int32.ofInt 2).toNatClampNeg) = Int32.ofInt w2 := by rw [e2]; exact zx_self _
  have p1 : z_reach (z_sem zn 63) (some (L, xs), zn) (200, 200000) 1 (380, zfr i o5 o6, [], zk cc mm) (394, zfr i o5 o6, [.ref 106, .int (Int32.ofInt w2), .int (Int32.ofInt w1), .ref 0], zk cc mm) := by
    rw [← s1, ← s2]
    exact ⟨[zo, zo, zo, zo, zo, zo, zo, zo, zo, zo, zo, zo], _, rfl, ⟨trivial, trivial, trivial, trivial, trivial, ix 1 (by omega), trivial, trivial, trivial, trivial, ix 2 (by omega), trivial, trivial⟩⟩
  refine zlg (hF a1 a2 (by omega) (by omega)) p1 ?_
  by_cases h : 0 ≤ w1 ∧ w1 < mm 17 185 ∧ 0 ≤ w2 ∧ w2 ≤ 12
  · have n10 : (0 : Int) ≤ mm 17 185 ∧ mm 17 185 ≤ 10 := zr_c hI zS_17
    obtain ⟨r, hr, hp⟩ := S_L_clockA zn 60 hN hC' w1 w2 mm hI r1 r2 ⟨h.1, h.2.1, by omega⟩ ⟨h.2.2.1, h.2.2.2⟩
    refine z_clockgoA (d := 60) (hF a1 a2 (by omega) (by omega)) ⟨by show cc.1 ≤ 200; omega, by show cc.2 ≤ 200000; omega⟩ ⟨by show 106 < cc.1; omega, hC'⟩ hfl hTU hp rfl rfl ?_
    obtain ⟨m1, hm1⟩ : ∃ q, q = zm_up mm 106 0 r := ⟨_, rfl⟩
    rw [← hm1]
    have hI1 : zI cc mm m1 := by rw [hm1]; exact zI_up hI (by unfold zOk; omega) (show (-9223372036854775808 : Int) ≤ r ∧ r ≤ 9223372036854775807 by omega)
    have k1 : zH (t + 60) m1 := by rw [hm1]; exact zH_le (zH_up hH (Or.inl (by unfold zQ; omega))) (by omega)
    obtain ⟨hJ1, hI1'⟩ := zV_class hJ hI1
    have p3 : z_reach (z_sem zn 63) (some (L, xs), zn) (200, 200000) 1 (397, zfr i o5 o6, [.int (Int32.ofInt 0)], zk cc m1) (412, zfr i (some (.int (Int32.ofInt 0))) o6, [.int (Int32.ofInt w2), .int (Int32.ofInt w1), .ref 79], zk cc m1) := by
      rw [← s1, ← s2]
      exact ⟨[zo, zo, zo, zo, zo, zo, zo, zo, zo, zo, zo, zo], _, rfl, ⟨trivial, trivial, trivial, trivial, trivial, trivial, ix 1 (by omega), trivial, trivial, trivial, trivial, ix 2 (by omega), trivial⟩⟩
    obtain ⟨v2, m2, hs2, hJ2, -⟩ := S_X12_clock zn 61 hN hC' w1 w2 m1 hJ1 r1 r2
    have p4 : z_reach (z_sem zn 63) (some (L, xs), zn) (200, 200000) 1 (412, zfr i (some (.int (Int32.ofInt 0))) o6, [.int (Int32.ofInt w2), .int (Int32.ofInt w1), .ref 79], zk cc m1) (1687, zfr i (some (.int (Int32.ofInt 0))) (some (.int (Int32.ofInt v2))), [], zk cc m2) :=
      ⟨[zc (some (.int (Int32.ofInt v2))) (zk cc m2), zo, zo], _, rfl, ⟨⟨(Nat.lt_of_lt_of_le (Nat.le_of_ble_eq_true rfl) hN), (Nat.le_of_ble_eq_true rfl)⟩, hs2, (Nat.le_of_ble_eq_true rfl), Nat.le_refl _, Nat.le_refl _, by show cc.1 ≤ 200; omega, by show cc.2 ≤ 200000; omega⟩, trivial, trivial, trivial⟩
    have hJ3 : zJ m1 (t + 60) 0 m2 := zJ_le hJ2 (by omega)
    obtain ⟨y1, y2, y3⟩ := zV_model (t1 := t + 60) hI1' k1 (by omega) hJ3
    exact zlg (hF a1 a2 (by omega) (by omega)) (p3.trans p4) (k m2 _ _ a1 a2 ⟨by omega, by omega, by omega, by omega⟩ ⟨y1, y2, y3, zV_rt hI hK hI1 hJ3⟩)
  · obtain ⟨b1, rfl⟩ : ∃ b1, a1 = b1 + 1 := ⟨a1 - 1, by omega⟩
    obtain ⟨b2, rfl⟩ : ∃ b2, a2 = b2 + 6 := ⟨a2 - 6, by omega⟩
    refine z_clockgo (d := 60) (hF (b1 + 1) (b2 + 6) (by omega) (by omega)) ⟨by show cc.1 + 1 ≤ 200; omega, by show cc.2 + 6 ≤ 200000; omega⟩ ⟨_, rfl⟩ ⟨by show 106 < cc.1; omega, hC'⟩ hfl hTU (S_X11_clockT zn 60 hN hC' w1 w2 mm hI r1 r2 h) ?_
    obtain ⟨m1, hm1⟩ : ∃ q, q = mm := ⟨_, rfl⟩
    have hI1 : zI cc mm m1 := by rw [hm1]; exact hI
    have k1 : zH (t + 60) m1 := by rw [hm1]; exact zH_le hH (by omega)
    obtain ⟨hJ1, hI1'⟩ := zV_class hJ hI1
    rw [← hm1]
    have p3 : z_reach (z_sem zn 63) (some (L, xs), zn) (200, 200000) 1 (397, zfr i o5 o6, [.int (Int32.ofInt 1)], zk cc m1) (412, zfr i (some (.int (Int32.ofInt 1))) o6, [.int (Int32.ofInt w2), .int (Int32.ofInt w1), .ref 79], zk cc m1) := by
      rw [← s1, ← s2]
      exact ⟨[zo, zo, zo, zo, zo, zo, zo, zo, zo, zo, zo, zo], _, rfl, ⟨trivial, trivial, trivial, trivial, trivial, trivial, ix 1 (by omega), trivial, trivial, trivial, trivial, ix 2 (by omega), trivial⟩⟩
    obtain ⟨v2, m2, hs2, hJ2, -⟩ := S_X12_clock zn 61 hN hC' w1 w2 m1 hJ1 r1 r2
    have p4 : z_reach (z_sem zn 63) (some (L, xs), zn) (200, 200000) 1 (412, zfr i (some (.int (Int32.ofInt 1))) o6, [.int (Int32.ofInt w2), .int (Int32.ofInt w1), .ref 79], zk cc m1) (1687, zfr i (some (.int (Int32.ofInt 1))) (some (.int (Int32.ofInt v2))), [], zk cc m2) :=
      ⟨[zc (some (.int (Int32.ofInt v2))) (zk cc m2), zo, zo], _, rfl, ⟨⟨(Nat.lt_of_lt_of_le (Nat.le_of_ble_eq_true rfl) hN), (Nat.le_of_ble_eq_true rfl)⟩, hs2, (Nat.le_of_ble_eq_true rfl), Nat.le_refl _, Nat.le_refl _, by show cc.1 ≤ 200; omega, by show cc.2 ≤ 200000; omega⟩, trivial, trivial, trivial⟩
    have hJ3 : zJ m1 (t + 60) 0 m2 := zJ_le hJ2 (by omega)
    obtain ⟨y1, y2, y3⟩ := zV_model (t1 := t + 60) hI1' k1 (by omega) hJ3
    exact zlg (hF b1 b2 (by omega) (by omega)) (p3.trans p4) (k m2 _ _ b1 b2 ⟨by omega, by omega, by omega, by omega⟩ ⟨y1, y2, y3, zV_rt hI hK hI1 hJ3⟩)
set_option maxRecDepth 100000 in
set_option maxHeartbeats 4000000 in
/-- the loop, n operations at most -/
theorem zl_loop {zn : Bool} {L : Nat} {xs : Nat → Int32} {p : Program} {l : Launch} {e : Env} {R : Room} {s : State} {m : MethodId} {args : Array Value} {below : List Frame} {meth : Method} {c : Code} {Q : State → Prop} {D : va_G} {tc : Nat → ClassId} {A : Nat → Prop} {ad0 : Nat → Nat} {n0 : Nat} (hF : ∀ a1 a2 : Nat, 400 ≤ a1 → 2000 ≤ a2 → z_Fix zn (some (L, xs), zn) 63 1 p R s m args meth c D tc A ad0 n0 (a1, a2) (200, 200000)) (hfl : l.stackTraces = false) (hTU : z_TU A s s.heap) (hL : L ≤ 3072) (hend : ∀ (lv : List (Option Value)) (h : z_H) (a1 a2 : Nat), 400 ≤ a1 → 2000 ≤ a2 → h.1 ≤ 200 → h.2.1 ≤ 200000 → z_Go 1 p l e R s m args below meth c Q D tc A ad0 n0 (a1, a2) (1694, lv, [.int (Int32.ofInt 1)], h)) :
    ∀ (n : Nat) (i t : Int) (o5 o6 : Option Value) (cc : Nat × Nat) (mm : zM) (a1 a2 : Nat), 0 ≤ i → i ≤ (L : Int) + 5 → (L : Int) ≤ i + 5 + 6 * n → t = 10 * i → 107 ≤ cc.1 → cc.1 ≤ 123 → (cc.2 : Int) ≤ 35862 + 47 * i → (6000 : Int) ≤ 6 * a1 + i → (6000 : Int) ≤ a2 + i → zOP cc mm t →
    z_Go 1 p l e R s m args below meth c Q D tc A ad0 n0 (a1, a2) (23, zfr i o5 o6, [], zk cc mm) := by
  intro n
  induction n with
  | zero =>
    intro i t o5 o6 cc mm a1 a2 h0 h1 h2 h3 h4 h5 h6 h7 h8 hV
    refine zlg (hF a1 a2 (by omega) (by omega)) (zl_out zn 63 L xs (200, 200000) i o5 o6 (zk cc mm) h0 (by omega) (by omega) hL) ?_
    exact hend _ _ a1 a2 (by omega) (by omega) (by show cc.1 ≤ 200; omega) (by show cc.2 ≤ 200000; omega)
  | succ n ih =>
    intro i t o5 o6 cc mm a1 a2 h0 h1 h2 h3 h4 h5 h6 h7 h8 hV
    have hRO : z_RO = 1000000 := rfl
    by_cases hi : i + 6 ≤ L
    · refine zlg (hF a1 a2 (by omega) (by omega)) (zl_head zn 63 L xs (200, 200000) i o5 o6 (zk cc mm) h0 hi hL) ?_
      generalize ((xs (Int32.ofInt i).toNatClampNeg) &&& ((Int8.ofInt 63).toInt32)) = x
      by_cases hx : x.toInt = 4
      · refine zlg (hF a1 a2 (by omega) (by omega)) (zsw_4 zn 63 L xs (200, 200000) i o5 o6 (zk cc mm) hx) ?_
        refine zl_c4 hF hfl hTU i t h0 hi hL ⟨by omega, by omega⟩ o5 o6 h4 h5 (by omega) hV ⟨by omega, by omega⟩ (fun m2 o5' o6' b1 b2 hb hV2 => ?_)
        refine zlg (hF b1 b2 (by omega) (by omega)) (zl_next zn 63 L xs (200, 200000) i o5' o6' (zk cc m2)) ?_
        exact ih (i + 6) (t + 60) o5' o6' cc m2 b1 b2 (by omega) (by omega) (by omega) (by omega) h4 h5 (by omega) (by omega) (by omega) hV2
      · obtain ⟨c1, m2, o5', o6', hc1, hr, hV2⟩ := zl_any zn 3 L xs (200, 200000) i t h0 hi hL ⟨by omega, by omega⟩ o5 o6 h4 (by omega) ⟨Nat.le_refl _, by show cc.2 + 282 ≤ 200000; omega⟩ hV hx
        refine zlg (hF a1 a2 (by omega) (by omega)) hr ?_
        refine zlg (hF a1 a2 (by omega) (by omega)) (zl_next zn 63 L xs (200, 200000) i o5' o6' (zk c1 m2)) ?_
        exact ih (i + 6) (t + 60) o5' o6' c1 m2 a1 a2 (by omega) (by omega) (by omega) (by omega) hc1.1 hc1.2.1 (by omega) (by omega) (by omega) hV2
    · refine zlg (hF a1 a2 (by omega) (by omega)) (zl_out zn 63 L xs (200, 200000) i o5 o6 (zk cc mm) h0 hi (by omega) hL) ?_
      exact hend _ _ a1 a2 (by omega) (by omega) (by show cc.1 ≤ 200; omega) (by show cc.2 ≤ 200000; omega)
