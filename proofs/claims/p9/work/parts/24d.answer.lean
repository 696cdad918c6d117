/-! the law's own clock where FedClocks.clock answers -/
set_option maxRecDepth 100000 in
theorem zy_d18 : decode (z_mc 0) 18 = .ok (.ireturn, 1) := by decide +kernel
set_option maxRecDepth 100000 in
set_option maxHeartbeats 4000000 in
theorem zy_metA (zn : Bool) (d : Nat) {h h' : z_H} {w1 w2 : Int32} {r0 : Int} (hp : ∃ os lv P, z_path (z_sem zn (d + 2)) (none, zn) (h'.1, h'.2.1) 0 os (0, z_args (z_ml 0) [.ref 0, .int w1, .int w2, .ref 106], [], h) = some ((18, lv, [.int (Int32.ofInt r0)], h'), P) ∧ P) (h1 : h'.1 = h.1) (h2 : h'.2.1 = h.2.1) (l : Launch) (hfl : l.stackTraces = false) (D : va_G) (tc : Nat → ClassId) (ad : Nat → Nat) (sz : Nat) (h106 : 106 < h.1) (hlt : h.1 < z_RO) (ho : ∀ k, k < h.1 → z_oke h.1 (h.2.2 k)) :
    vx_Met l (z_mn 0) zy_ws (z_rm (d + 3) 0 0) (z_PcX zn D tc ad sz [.ref 0, .int w1, .int w2, .ref 106] h) (z_Qc D tc (va_A (z_w ad tc h) sz) ad h.1 (some (.int (Int32.ofInt r0))) h') (fun _ _ _ => False) 0 0 (va_A (z_w ad tc h) sz) := by
  refine vx_ofWH (cc := z_mc 0) (maxL := z_ml 0) (ret := z_mr 0) (hh := zy_hh) zy_plain rfl ?_
  intro p e s m args' below meth c s₁ B hml hv
  obtain ⟨⟨rfl, hsz, hP0, hkn, hka, hD0, hTC, hro⟩, hTU⟩ := hv
  have hx := B.exec
  have hb := B.bytes
  have hr := B.returns
  have hts := atoms_spec (ws := zy_ws) B.pre
  have hown : s.vm.findClass (z_mn 0).cls = some m.cls := findClass_of_methodNamed B.named
  have hlocks := B.notSynchronized
  have hin : meth.name = (z_mn 0).name := (name_of_methodNamed B.named B.method).1
  subst hsz
  have hD := hD0.self (sz := s.heap.size)
  have htab := vx_table (x := z_mn 0) B (hts _ List.mem_cons_self)
  have hz := zy_lt
  have hz0 : 0 < h.1 := by omega
  have hd := zy_d5
  have hG : ∀ w ∈ z_G, w.before (([.ref 0, .int w1, .int w2, .ref 106] : List Value).map (z_v ad)).toArray s = true := fun w hw => hts w (List.mem_cons_of_mem _ hw)
  have F : z_Fix zn (none, zn) (d + 2) 0 p (headSpec zy_ws (z_rm (d + 3) 0 0)).room s m (([.ref 0, .int w1, .int w2, .ref 106] : List Value).map (z_v ad)).toArray meth c D tc (va_A (z_w ad tc h) s.heap.size) ad h.1 (h.1 + 1000, h.2.1 + 6000) (h'.1, h'.2.1) :=
    ⟨hx, hb, hml, hown, hG, fun q hq => Or.inr hq, fun q => hin.trans q, hro, hTC, hkn, ⟨rfl, fun x hx => by cases hx⟩, by show h'.1 < z_RO; omega, by show h'.1 + 1000 ≤ h.1 + 1000 + 0; omega, by show h'.2.1 + 6000 ≤ h.2.1 + 6000 + 0; omega, by show d + 2 + 5 ≤ d + 3 + 4; omega, by show 40 * (d + 2) + 440 ≤ 40 * (d + 3) + 400; exact z_arith2 (d + 2)⟩
  have hl := lv_entry (([.ref 0, .int w1, .int w2, .ref 106] : List Value).map (z_v ad)) (n := z_ml 0) (by rw [z_sl_len]; rw [hd.2.2.2.1]; exact Nat.le_of_ble_eq_true rfl)
  rw [lg_entry_eq]
  generalize (lg_sl (([.ref 0, .int w1, .int w2, .ref 106] : List Value).map (z_v ad)) ++ List.replicate (z_ml 0 - (lg_sl (([.ref 0, .int w1, .int w2, .ref 106] : List Value).map (z_v ad))).length) Slot.unset).toArray = ls at hl ⊢
  have ha : ∀ w ∈ ([.ref 0, .int w1, .int w2, .ref 106] : List Value), z_okv h.1 w := by
    intro w hw
    simp only [List.mem_cons, List.not_mem_nil, or_false] at hw
    rcases hw with rfl | rfl | rfl | rfl
    · exact Or.inl hz0
    · trivial
    · trivial
    · exact Or.inl h106
  obtain ⟨os, lv, P, hpath, hP⟩ := hp
  refine zs_path (sl0 := (h.1 + 1000, h.2.1 + 6000)) F (z_snd zn (d + 2)) zy_ga zy_mcl os _ _ P hpath hP ?_ ad s.heap [] 0 0 ls ⟨hP0, hD, va_S.rf, hka, ⟨hl.1, hl.2.1, fun i w hi => hl.2.2 (i, z_v ad w) (z_args_at hi)⟩, ⟨fun w hw => ha w (z_args_mem hw), (fun w hw => nomatch hw), ho⟩, ⟨Nat.add_zero _, Nat.add_zero _, Nat.le_refl _⟩, fun i _ => rfl⟩
  intro ad3 H3 locs3 cells3 slots3 ls3 rel3
  have hn3 : h.1 + 1000 + cells3 = h'.1 + 1000 := rel3.2.2.2.2.2.2.1.1
  have hs3 : h.2.1 + 6000 + slots3 = h'.2.1 + 6000 := rel3.2.2.2.2.2.2.1.2.1
  have ec : cells3 = 0 := by omega
  have es : slots3 = 0 := by omega
  subst ec; subst es
  exact vx_ret (W.zret (v := Int32.ofInt r0) hx hb (hr.trans hd.2.2.2.2.1) rfl (fun t ht hW => ⟨⟨Int32.ofInt r0, ad3, rfl, rfl, ⟨by rw [ht]; exact rel3.1, rel3.2.2.2.1.moved hW.alike, rel3.2.1, rel3.2.2.2.2.2.2.2, rel3.2.2.2.2.2.1.2.2⟩⟩, rel3.2.2.1.F ht⟩) rel3.2.2.1.2.2 zy_d18)

theorem z_clockgoA {h h' : z_H} {r0 : Int} {a1 a2 : Nat} {zn : Bool} {X : z_X} {d : Nat} {p : Program} {l : Launch} {e : Env} {R : Room} {s : State} {m : MethodId} {args : Array Value} {below : List Frame} {meth : Method} {c : Code} {Q : State → Prop} {D : va_G} {tc : Nat → ClassId} {A : Nat → Prop} {ad0 : Nat → Nat} {n0 : Nat} {B : Nat × Nat} {lv : List (Option Value)} {w1 w2 : Int32}
    (F : z_Fix zn X (d + 3) 1 p R s m args meth c D tc A ad0 n0 (a1, a2) B) (hB : h.1 ≤ B.1 ∧ h.2.1 ≤ B.2) (hh : 106 < h.1 ∧ h.1 < z_RO) (hfl : l.stackTraces = false) (hTU : z_TU A s s.heap) (hp : ∃ os lv P, z_path (z_sem zn (d + 2)) (none, zn) (h'.1, h'.2.1) 0 os (0, z_args (z_ml 0) [.ref 0, .int w1, .int w2, .ref 106], [], h) = some ((18, lv, [.int (Int32.ofInt r0)], h'), P) ∧ P) (e1 : h'.1 = h.1) (e2 : h'.2.1 = h.2.1)
    (k : z_Go 1 p l e R s m args below meth c Q D tc A ad0 n0 (a1, a2) (397, lv, [.int (Int32.ofInt r0)], h')) : z_Go 1 p l e R s m args below meth c Q D tc A ad0 n0 (a1, a2) (394, lv, [.ref 106, .int w2, .int w1, .ref 0], h) := by
  have hMM := fun (ad : Nat → Nat) (sz : Nat) (ho : ∀ k, k < h.1 → z_oke h.1 (h.2.2 k)) => zy_metA zn d hp e1 e2 l hfl D tc ad sz hh.1 hh.2 ho
  intro ad H locs cells slots ls rel
  have hn0 : a1 + cells = h.1 + 1000 := rel.2.2.2.2.2.2.1.1
  have hs0 : a2 + slots = h.2.1 + 6000 := rel.2.2.2.2.2.2.1.2.1
  have hnn : n0 ≤ h.1 := rel.2.2.2.2.2.2.1.2.2
  obtain ⟨hF1, hF2, hF3, hF4, hF5⟩ := F.2.2.2.2.2.2.2.2.2.2.2
  have hF2' : B.1 + 1000 ≤ a1 + R.cells := hF2
  have hF3' : B.2 + 6000 ≤ a2 + R.slots := hF3
  have hfr := z_freeA F rel
  have hts := F.2.2.2.2.1
  have hM := hMM ad H.size rel.2.2.2.2.2.1.2.2
  have hrm := z_rmok (mc := 0) (ms := 0) (k := z_ml 0) F (Nat.le_of_ble_eq_true rfl)
  have hc : vx_CSW R s args (z_mn 1).cls 38 (z_mn 0) (z_mc 0) (z_ml 0) (z_mr 0) zy_hh zy_ws (z_rm (d + 3) 0 0) 0 0 4 :=
    ⟨⟨rfl, rfl, hrm.1, hrm.2, fun w hw a' U hW => by
      have hg : w ∈ z_G := by
        rcases List.mem_cons.mp hw with q | q
        · rw [q]; exact zy_lw.1
        · exact q
      exact word_at hW (good_of_word (z_G_good hg)) (hts w hg), List.mem_cons_self⟩, hts _ zy_lw.1, hts _ zy_lw.2.2.2, ⟨zy_ny.1, zy_ny.2.1⟩, fun sig hsig => by
      have h2 := zy_ny.2.2
      rw [hsig] at h2
      exact (Option.some.inj h2).symm, hts _ zy_lw.2.1, hts _ zy_lw.2.2.1⟩
  have run := vx_runSX (e := e) (hh := zy_hh) (As := ([.ref 0, .int w1, .int w2, .ref 106] : List Value).map (z_v ad)) (rest := []) (g := F0 m 394 ls (([.ref 106, .int w2, .int w1, .ref 0] : List Value).map (z_v ad))) (H := H) (locs := locs) (cells := cells) (slots := slots) (below := below) (meth := meth) ⟨F.1, F.2.1, F.2.2.1, F.2.2.2.1, hts⟩ hM hc ⟨z_blindX, fun U hU hW => ⟨z_preA F rel [.ref 0, .int w1, .int w2, .ref 106] U hU hW, hTU.go rel.2.2.1 hfr hU hW⟩⟩ rfl rfl rel.2.2.2.2.1.1 rfl (lv_room (Nat.le_of_ble_eq_true rfl)) zy_d394 ⟨by omega, by omega⟩
  have run' : va_Run p l e R s m args below meth c H locs cells slots 0 0 (F0 m 394 ls (([.ref 106, .int w2, .int w1, .ref 0] : List Value).map (z_v ad))) [] (z_Qc D tc (va_A (z_w ad tc h) H.size) ad h.1 (some (.int (Int32.ofInt r0))) h' (([.ref 0, .int w1, .int w2, .ref 106] : List Value).map (z_v ad)).toArray) (va_A (z_w ad tc h) H.size) := fun T hT X => by
    rcases run T hT X with q | ⟨q, st0, t, T', L, E, ce, h0, X', hL, e1, e2, hx, -⟩
    · exact q
    · exact absurd hx id
  refine va_calli (a := (([.ref 0, .int w1, .int w2, .ref 106] : List Value).map (z_v ad)).toArray) run' rel.2.2.1 (fun q _ hq => hfr q hq) hfr (fun r' u t H1 locs1 ht hvm hw hB2 hz1 hk1 hS1 => ?_)
  have hw' : r' = Int32.ofInt r0 := hw
  subst hw'
  obtain ⟨hP1, hK1, hD1, hs1, ho1⟩ := hB2
  rw [ht] at hP1
  exact k u H1 locs1 _ _ ls ⟨hP1, hD1.weaken (fun k q _ hq => hfr q.1 hq), hS1, hK1.moved hvm.symm, z_lok_same rel.2.2.2.2.1 hs1 rel.2.2.2.2.2.1.1, ⟨(fun v hv => by show z_okv h'.1 v; rw [e1]; exact rel.2.2.2.2.2.1.1 v hv), (fun w hw => by rw [List.mem_singleton.mp hw]; trivial), ho1⟩, ⟨by show a1 + (cells + 0) = h'.1 + 1000; omega, by show a2 + (slots + 0) = h'.2.1 + 6000; omega, by show n0 ≤ h'.1; omega⟩, fun i hi => (hs1 i (by omega)).trans (rel.2.2.2.2.2.2.2 i hi)⟩
