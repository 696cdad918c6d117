def z_gv : List Cond := flatC (Jvm.Cond.and given_1 narrow_1)
/-! the law's own clock: it calls FedClocks.clock and catches -/
def zy_hh : List (Nat × Nat × Nat × Nat) := [(0, 10, 13, 13)]
def zy_ws : List Cond := Cond.codeWith (z_mn 0) (z_mc 0) (z_ml 0) (z_mr 0) zy_hh :: z_G
theorem zy_plain : plainName (z_mn 0).cls = true := by decide +kernel
theorem zy_own : (z_mn 0).cls = "FedClocksLaw" := by decide +kernel
set_option maxRecDepth 100000 in
theorem zy_ga : z_goodAt 0 = true := by decide +kernel
set_option maxRecDepth 100000 in
theorem zy_mcl : z_mcall 0 = true := by decide +kernel
set_option maxRecDepth 100000 in
theorem zy_v132 : z_mvirt 132 = true := by decide +kernel
set_option maxRecDepth 100000 in
theorem zy_ln : Cond.methodLink (z_own 0) 7 (z_mn 132) ∈ z_G ∧ Cond.classLink "FedClocksLaw" 13 "java/util/NoSuchElementException" ∈ z_G ∧ Cond.castable "java/util/NoSuchElementException" "java/util/NoSuchElementException" ∈ zx_bad := by decide +kernel
theorem zy_d5 : decode (z_mc 0) 5 = .ok (.invokevirtual 7, 3) ∧ decode (z_mc 0) 13 = .ok (.astore 4, 2) ∧ decode (z_mc 0) 16 = .ok (.ireturn, 1) ∧ z_ml 0 = 5 ∧ z_mr 0 = some .int ∧ z_np 132 = 2 := by decide +kernel
theorem z_TU.go {s U : State} {A B : Nat → Prop} {H : Heap} {locs : List Loc} (h : z_TU A s s.heap) (hS : va_S A s.heap H locs) (hAB : ∀ q, B q → A q) (hU : U.heap = H) (hW : s.WarmedH U.vm) : z_TU B U U.heap := by
  rw [hU]
  exact ⟨fun w hw a => zx_warm hW (zx_bad_tbl w hw).2.1 (zx_bad_tbl w hw).2.2 (h.1 w hw #[]), ((h.2.1.kept hS.2.1).narrow hAB).moved hW.alike, ((h.2.2.kept hS.2.1).narrow hAB).moved hW.alike⟩
theorem z_blindX {zn : Bool} {D : va_G} {tc : Nat → ClassId} {ad : Nat → Nat} {sz : Nat} {args : List Value} {h : z_H} : FrameBlind (z_PcX zn D tc ad sz args h) := by
  intro a U g mk q
  exact ⟨z_blind a U g mk q.1, fun w hw a' => va_tabs (u := U) (zx_bad_tbl w hw).2.1 rfl (q.2.1 w hw a'), vx_Zq.moved (Vm.Alike.refl U.vm) q.2.2.1, vx_Zq.moved (Vm.Alike.refl U.vm) q.2.2.2⟩
theorem zy_lt : z_mk 132 ≤ 12 ∧ (z_mn 132).cls = (z_cls (z_mk 132)).1 := by decide +kernel
theorem zy_path {C : z_C} {X : z_X} {B : Nat × Nat} {w1 w2 : Int32} {h : z_H} : z_path C X B 0 [zo, zo, zo, zo, zo] (0, z_args (z_ml 0) [.ref 0, .int w1, .int w2, .ref 106], [], h) = some ((5, z_args (z_ml 0) [.ref 0, .int w1, .int w2, .ref 106], [.int w2, .int w1, .ref 0, .int (Int32.ofInt 0), .ref 106], h), True ∧ True ∧ True ∧ True ∧ True ∧ True) := rfl
set_option maxRecDepth 100000 in
set_option maxHeartbeats 4000000 in
theorem zy_met (zn : Bool) (d : Nat) {h : z_H} {w1 w2 : Int32} (hc0 : ∃ fs, h.2.2 0 = .inr (z_mk 132, fs)) (hthr : z_thr zn (d + 1) [.ref 0, .int w1, .int w2] h h) (l : Launch) (hfl : l.stackTraces = false) (D : va_G) (tc : Nat → ClassId) (ad : Nat → Nat) (sz : Nat) (h106 : 106 < h.1) (hlt : h.1 < z_RO) (ho : ∀ k, k < h.1 → z_oke h.1 (h.2.2 k)) :
    vx_Met l (z_mn 0) zy_ws (z_rm (d + 3) 1 6) (z_PcX zn D tc ad sz [.ref 0, .int w1, .int w2, .ref 106] h) (z_Qc D tc (va_A (z_w ad tc h) sz) ad h.1 (some (.int (Int32.ofInt 1))) h) (fun _ _ _ => False) 1 6 (va_A (z_w ad tc h) sz) := by
  refine vx_ofWH (cc := z_mc 0) (maxL := z_ml 0) (ret := z_mr 0) (hh := zy_hh) zy_plain rfl ?_
  intro p e s m args' below meth c s₁ B hml hv
  obtain ⟨⟨rfl, hsz, hP0, hkn, hka, hD0, hTC, hro⟩, hTU⟩ := hv
  have hx := B.exec
  have hb := B.bytes
  have hr := B.returns
  have hts := atoms_spec (ws := zy_ws) B.pre
  have hown : s.vm.findClass (z_mn 0).cls = some m.cls := findClass_of_methodNamed B.named
  have hlocks := B.notSynchronized
  have hin : meth.name = (z_mn 0).name := (name_of_methodNamed B.named B.method).1
  subst hsz
  have hD := hD0.self (sz := s.heap.size)
  have htab := vx_table (x := z_mn 0) B (hts _ List.mem_cons_self)
  have hz := zy_lt
  have hz0 : 0 < h.1 := by omega
  have hd := zy_d5
  have hpath := @zy_path (z_sem zn (d + 2)) (none, zn) (h.1, h.2.1) w1 w2 h
  have hG : ∀ w ∈ z_G, w.before (([.ref 0, .int w1, .int w2, .ref 106] : List Value).map (z_v ad)).toArray s = true := fun w hw => hts w (List.mem_cons_of_mem _ hw)
  have F : z_Fix zn (none, zn) (d + 2) 0 p (headSpec zy_ws (z_rm (d + 3) 1 6)).room s m (([.ref 0, .int w1, .int w2, .ref 106] : List Value).map (z_v ad)).toArray meth c D tc (va_A (z_w ad tc h) s.heap.size) ad h.1 (h.1 + 1000, h.2.1 + 6000) (h.1, h.2.1) :=
    ⟨hx, hb, hml, hown, hG, fun q hq => Or.inr hq, fun q => hin.trans q, hro, hTC, hkn, ⟨rfl, fun x hx => by cases hx⟩, hlt, by show h.1 + 1000 ≤ h.1 + 1000 + 1; omega, by show h.2.1 + 6000 ≤ h.2.1 + 6000 + 6; omega, by show d + 2 + 5 ≤ d + 3 + 4; omega, by show 40 * (d + 2) + 440 ≤ 40 * (d + 3) + 400; exact z_arith2 (d + 2)⟩
  have F1 : z_Fix zn (none, zn) (d + 2) 0 p (headSpec zy_ws (z_rm (d + 3) 1 6)).room s m (([.ref 0, .int w1, .int w2, .ref 106] : List Value).map (z_v ad)).toArray meth c D tc (va_A (z_w ad tc h) s.heap.size) ad h.1 (h.1 + 999, h.2.1 + 5994) (h.1, h.2.1) :=
    ⟨hx, hb, hml, hown, hG, fun q hq => Or.inr hq, fun q => hin.trans q, hro, hTC, hkn, ⟨rfl, fun x hx => by cases hx⟩, hlt, by show h.1 + 1000 ≤ h.1 + 999 + 1; omega, by show h.2.1 + 6000 ≤ h.2.1 + 5994 + 6; omega, by show d + 2 + 5 ≤ d + 3 + 4; omega, by show 40 * (d + 2) + 440 ≤ 40 * (d + 3) + 400; exact z_arith2 (d + 2)⟩
  have hl := lv_entry (([.ref 0, .int w1, .int w2, .ref 106] : List Value).map (z_v ad)) (n := z_ml 0) (by rw [z_sl_len]; rw [hd.2.2.2.1]; exact Nat.le_of_ble_eq_true rfl)
  rw [lg_entry_eq]
  generalize (lg_sl (([.ref 0, .int w1, .int w2, .ref 106] : List Value).map (z_v ad)) ++ List.replicate (z_ml 0 - (lg_sl (([.ref 0, .int w1, .int w2, .ref 106] : List Value).map (z_v ad))).length) Slot.unset).toArray = ls at hl ⊢
  have ha : ∀ w ∈ ([.ref 0, .int w1, .int w2, .ref 106] : List Value), z_okv h.1 w := by
    intro w hw
    simp only [List.mem_cons, List.not_mem_nil, or_false] at hw
    rcases hw with rfl | rfl | rfl | rfl
    · exact Or.inl hz0
    · trivial
    · trivial
    · exact Or.inl h106
  refine zs_path (sl0 := (h.1 + 1000, h.2.1 + 6000)) F (z_snd zn (d + 2)) zy_ga zy_mcl _ _ _ _ hpath ⟨trivial, trivial, trivial, trivial, trivial, trivial⟩ ?_ ad s.heap [] 0 0 ls ⟨hP0, hD, va_S.rf, hka, ⟨hl.1, hl.2.1, fun i w hi => hl.2.2 (i, z_v ad w) (z_args_at hi)⟩, ⟨fun w hw => ha w (z_args_mem hw), (fun w hw => nomatch hw), ho⟩, ⟨Nat.add_zero _, Nat.add_zero _, Nat.le_refl _⟩, fun i _ => rfl⟩
  intro ad1 H locs cells slots ls rel
  have hn0 : h.1 + 1000 + cells = h.1 + 1000 := rel.2.2.2.2.2.2.1.1
  have hs0 : h.2.1 + 6000 + slots = h.2.1 + 6000 := rel.2.2.2.2.2.2.1.2.1
  have ec : cells = 0 := by omega
  have es : slots = 0 := by omega
  subst ec; subst es
  have hfr := z_freeA F rel
  have hM := z_sndX zn d hthr (fun w hw => ha w (by simp only [List.mem_cons, List.not_mem_nil, or_false] at hw ⊢; rcases hw with q | q | q; exact Or.inl q; exact Or.inr (Or.inl q); exact Or.inr (Or.inr (Or.inl q)))) rel.2.2.2.2.2.1.2.2 zu_X11_clock l hfl D tc ad1 H.size
  simp only [Nat.sub_self, Nat.zero_add] at hM
  obtain ⟨fs, hc0⟩ := hc0
  have hv132 := zy_v132
  unfold z_mvirt z_minst at hv132
  rw [Bool.and_eq_true] at hv132
  have hcell : ∃ cell : Cell, H[ad1 0]? = some cell ∧ cell.vm.isStatics = false ∧ s.vm.findClass (z_mn 132).cls = some cell.cls := by
    rw [hz.2]
    exact va_recv (z_K0 F.2.2.2.2.2.2.2.2.2.1) rel.1 (z_cl_at hz.1) (rel.at0 hz0 hc0)
  have run := vx_runV (e := e) (C := (z_mn 132).cls) (b := ad1 0) (As := ([.int w1, .int w2] : List Value).map (z_v ad1)) (rest := [.int (Int32.ofInt 0), .ref (ad1 106)]) (g := F0 m 5 ls (([.int w2, .int w1, .ref 0, .int (Int32.ofInt 0), .ref 106] : List Value).map (z_v ad1))) (H := H) (locs := locs) (cells := 0) (slots := 0) (below := below) (meth := meth) ⟨F.1, F.2.1, F.2.2.1, F.2.2.2.1, F.2.2.2.2.1⟩ hM ⟨z_callB F zu_X11_clock zy_ln.1, hG _ (z_W_mem hv132.1), hG _ (z_W_mem hv132.2)⟩ ⟨z_blindX, hcell, fun U hU hW => ⟨z_preA F rel [.ref 0, .int w1, .int w2] U hU hW, hTU.go rel.2.2.1 hfr hU hW⟩⟩ rfl (by rw [hd.2.2.2.2.2]; rfl) rel.2.2.2.2.1.1 rfl (lv_room (Nat.le_of_ble_eq_true rfl)) hd.1 ⟨Nat.le_refl _, Nat.le_refl _⟩
  intro T hT X
  rcases run T hT X with ⟨v, st0, t, T', L, g0, g1, g2, g3, g4, g5, g6⟩ | ⟨q, st0, t, T', L, E, ce, h0, X', hL, e1, e2, hxc, hce, hcv, hcl, st⟩
  · exact absurd g5 id
  · obtain ⟨rfl, ad2, hBB, hF9⟩ := hxc
    obtain ⟨hP1, hK1, hD1, hs1, ho1⟩ := hBB
    obtain ⟨k1, k2, k3⟩ := vx_keep h0 e1 rel.2.2.1 (fun q _ hq => hfr q hq) hfr hL hF9
    have hA2 : s.vm.Alike t.vm := by
      have q := X'.warmed.alike
      rw [e2] at q
      exact q
    rw [← e1] at hP1
    have W13 : vx_W p l e (headSpec zy_ws (z_rm (d + 3) 1 6)).room s m (([.ref 0, .int w1, .int w2, .ref 106] : List Value).map (z_v ad)).toArray below meth c T'.heap (locs ++ L) (0 + 1) (0 + 6) (vx_MQ below (z_Qc D tc (va_A (z_w ad tc h) s.heap.size) ad h.1 (some (.int (Int32.ofInt 1))) h) (fun _ _ _ => False) (([.ref 0, .int w1, .int w2, .ref 106] : List Value).map (z_v ad)).toArray s 1 6 (va_A (z_w ad tc h) s.heap.size)) (F0 m 5 ls [.int (Int32.ofInt 0), .ref (ad1 106)]) q := by
      refine vx_catch (own := "FedClocksLaw") (name := "java/util/NoSuchElementException") (E := "java/util/NoSuchElementException") (ce := ce) (by rw [← zy_own]; exact hown) [] _ [] (htab.trans rfl) (fun z hz => nomatch hz) rfl (by decide) (hG _ zy_ln.2.1) (hTU.1 _ zy_ln.2.2 _) (by rw [e1]; exact hce) hcv hcl ?_
      refine lv_astore hx hb hd.2.1 (z_lok_has rel.2.2.2.2.1) (by rw [hd.2.2.2.1]; decide) rfl (fun ls' h' => ?_)
      have rel2 : z_Rel 0 s D tc (va_A (z_w ad tc h) s.heap.size) ad h.1 (h.1 + 999, h.2.1 + 5994) ad2 (15, [], [], h) T'.heap (locs ++ L) 1 6 ls' :=
        ⟨hP1, hD1.weaken (fun k q _ hq => hfr q.1 hq), k3, hK1.moved hA2.symm, ⟨h'.1, h'.2.1, fun i v hi => by simp at hi⟩, ⟨(fun w hw => nomatch hw), (fun w hw => nomatch hw), ho1⟩, ⟨by show h.1 + 999 + 1 = h.1 + 1000; omega, by show h.2.1 + 5994 + 6 = h.2.1 + 6000; omega, Nat.le_refl _⟩, fun i hi => (hs1 i hi).trans (rel.2.2.2.2.2.2.2 i hi)⟩
      refine zs_path F1 (z_snd zn (d + 2)) zy_ga zy_mcl [zo] (15, [], [], h) (16, [], [.int (Int32.ofInt 1)], h) (True ∧ True) rfl ⟨trivial, trivial⟩ ?_ ad2 T'.heap (locs ++ L) 1 6 ls' rel2
      intro ad3 H3 locs3 cells3 slots3 ls3 rel3
      have hn3 : h.1 + 999 + cells3 = h.1 + 1000 := rel3.2.2.2.2.2.2.1.1
      have hs3 : h.2.1 + 5994 + slots3 = h.2.1 + 6000 := rel3.2.2.2.2.2.2.1.2.1
      have ec : cells3 = 1 := by omega
      have es : slots3 = 6 := by omega
      subst ec; subst es
      exact vx_ret (W.zret (v := Int32.ofInt 1) hx hb (hr.trans hd.2.2.2.2.1) rfl (fun t ht hW => ⟨⟨Int32.ofInt 1, ad3, rfl, rfl, ⟨by rw [ht]; exact rel3.1, rel3.2.2.2.1.moved hW.alike, rel3.2.1, rel3.2.2.2.2.2.2.2, rel3.2.2.2.2.2.1.2.2⟩⟩, rel3.2.2.1.F ht⟩) rel3.2.2.1.2.2 hd.2.2.1)
    obtain ⟨t2, a2, b2⟩ := W13 T' rfl X'
    exact ⟨t2, st.trans a2, b2⟩

set_option maxRecDepth 100000 in
theorem zy_lw : Cond.codeWith (z_mn 0) (z_mc 0) (z_ml 0) (z_mr 0) zy_hh ∈ z_G ∧ Cond.methodLink (z_own 1) 38 (z_mn 0) ∈ z_G ∧ Cond.static (z_mn 0) ∈ z_G ∧ Cond.initialized (z_mn 0).cls ∈ z_G := by decide +kernel
theorem zy_ny : (z_mn 0).cls ≠ "java/lang/invoke/MethodHandle" ∧ (z_mn 0).cls ≠ "java/lang/invoke/VarHandle" ∧ (parseMethodDescriptor (z_mn 0).desc).map (fun d => d.parameters.length) = some 4 := by decide +kernel
theorem zy_d394 : decode (z_mc 1) 394 = .ok (.invokestatic 38, 3) := by decide +kernel
set_option maxRecDepth 100000 in
theorem zy_ini : Cond.laysStatic Bundle.tN "UNASSIGNED_STACK" Bundle.steD ∈ lw_tbl ∧ Cond.laysStatic Bundle.tN "SUPPRESSED_SENTINEL" Bundle.listD ∈ lw_tbl ∧ Cond.initialized Bundle.tN ∈ lw_tbl ∧ Cond.isRef (.static Bundle.tN "UNASSIGNED_STACK" Bundle.steD) ∈ z_gv ∧ Cond.isRef (.static Bundle.tN "SUPPRESSED_SENTINEL" Bundle.listD) ∈ z_gv := by decide +kernel
theorem z_TU0 {s : State} {b : Nat} (hts : ∀ w ∈ lw_tbl, w.before #[Value.ref b] s = true) (hgv : (Jvm.Cond.and given_1 narrow_1).before #[Value.ref b] s = true) : z_TU (fun q => s.heap.size ≤ q) s s.heap := by
  have hs : ∀ w ∈ z_gv, w.before #[Value.ref b] s = true := flat_of_before _ hgv
  have hA : ∀ a : Nat, a < s.heap.size → ¬ (fun q => s.heap.size ≤ q) a := fun a h => Nat.not_le.mpr h
  obtain ⟨i1, i2, i3, i4, i5⟩ := zy_ini
  exact ⟨fun w hw a => va_tabs (u := s) (zx_bad_tbl w hw).2.1 rfl (hts w (zx_bad_tbl w hw).1), vx_Zqof (hts _ i1) (hts _ i3) (hs _ i4) hA, vx_Zqof (hts _ i2) (hts _ i3) (hs _ i5) hA⟩
/-- behind the call that caught: one cell and six slots more, paid by the offset -/
theorem z_clockgo {h : z_H} {a1 a2 : Nat} {zn : Bool} {X : z_X} {d : Nat} {p : Program} {l : Launch} {e : Env} {R : Room} {s : State} {m : MethodId} {args : Array Value} {below : List Frame} {meth : Method} {c : Code} {Q : State → Prop} {D : va_G} {tc : Nat → ClassId} {A : Nat → Prop} {ad0 : Nat → Nat} {n0 : Nat} {B : Nat × Nat} {lv : List (Option Value)} {w1 w2 : Int32}
    (F : z_Fix zn X (d + 3) 1 p R s m args meth c D tc A ad0 n0 (a1 + 1, a2 + 6) B) (hB : h.1 + 1 ≤ B.1 ∧ h.2.1 + 6 ≤ B.2) (hc0 : ∃ fs, h.2.2 0 = .inr (z_mk 132, fs)) (hh : 106 < h.1 ∧ h.1 < z_RO) (hfl : l.stackTraces = false) (hTU : z_TU A s s.heap) (hthr : z_thr zn (d + 1) [.ref 0, .int w1, .int w2] h h)
    (k : z_Go 1 p l e R s m args below meth c Q D tc A ad0 n0 (a1, a2) (397, lv, [.int (Int32.ofInt 1)], h)) : z_Go 1 p l e R s m args below meth c Q D tc A ad0 n0 (a1 + 1, a2 + 6) (394, lv, [.ref 106, .int w2, .int w1, .ref 0], h) := by
  have hMM := fun (ad : Nat → Nat) (sz : Nat) (ho : ∀ k, k < h.1 → z_oke h.1 (h.2.2 k)) => zy_met zn d hc0 hthr l hfl D tc ad sz hh.1 hh.2 ho
  intro ad H locs cells slots ls rel
  have hn0 : a1 + 1 + cells = h.1 + 1000 := rel.2.2.2.2.2.2.1.1
  have hs0 : a2 + 6 + slots = h.2.1 + 6000 := rel.2.2.2.2.2.2.1.2.1
  have hnn : n0 ≤ h.1 := rel.2.2.2.2.2.2.1.2.2
  obtain ⟨hF1, hF2, hF3, hF4, hF5⟩ := F.2.2.2.2.2.2.2.2.2.2.2
  have hF2' : B.1 + 1000 ≤ a1 + 1 + R.cells := hF2
  have hF3' : B.2 + 6000 ≤ a2 + 6 + R.slots := hF3
  have hfr := z_freeA F rel
  have hts := F.2.2.2.2.1
  have hM := hMM ad H.size rel.2.2.2.2.2.1.2.2
  have hrm := z_rmok (mc := 1) (ms := 6) (k := z_ml 0) F (Nat.le_of_ble_eq_true rfl)
  have hc : vx_CSW R s args (z_mn 1).cls 38 (z_mn 0) (z_mc 0) (z_ml 0) (z_mr 0) zy_hh zy_ws (z_rm (d + 3) 1 6) 1 6 4 :=
    ⟨⟨rfl, rfl, hrm.1, hrm.2, fun w hw a' U hW => by
      have hg : w ∈ z_G := by
        rcases List.mem_cons.mp hw with q | q
        · rw [q]; exact zy_lw.1
        · exact q
      exact word_at hW (good_of_word (z_G_good hg)) (hts w hg), List.mem_cons_self⟩, hts _ zy_lw.1, hts _ zy_lw.2.2.2, ⟨zy_ny.1, zy_ny.2.1⟩, fun sig hsig => by
      have h2 := zy_ny.2.2
      rw [hsig] at h2
      exact (Option.some.inj h2).symm, hts _ zy_lw.2.1, hts _ zy_lw.2.2.1⟩
  have run := vx_runSX (e := e) (hh := zy_hh) (As := ([.ref 0, .int w1, .int w2, .ref 106] : List Value).map (z_v ad)) (rest := []) (g := F0 m 394 ls (([.ref 106, .int w2, .int w1, .ref 0] : List Value).map (z_v ad))) (H := H) (locs := locs) (cells := cells) (slots := slots) (below := below) (meth := meth) ⟨F.1, F.2.1, F.2.2.1, F.2.2.2.1, hts⟩ hM hc ⟨z_blindX, fun U hU hW => ⟨z_preA F rel [.ref 0, .int w1, .int w2, .ref 106] U hU hW, hTU.go rel.2.2.1 hfr hU hW⟩⟩ rfl rfl rel.2.2.2.2.1.1 rfl (lv_room (Nat.le_of_ble_eq_true rfl)) zy_d394 ⟨by omega, by omega⟩
  have run' : va_Run p l e R s m args below meth c H locs cells slots 1 6 (F0 m 394 ls (([.ref 106, .int w2, .int w1, .ref 0] : List Value).map (z_v ad))) [] (z_Qc D tc (va_A (z_w ad tc h) H.size) ad h.1 (some (.int (Int32.ofInt 1))) h (([.ref 0, .int w1, .int w2, .ref 106] : List Value).map (z_v ad)).toArray) (va_A (z_w ad tc h) H.size) := fun T hT X => by
    rcases run T hT X with q | ⟨q, st0, t, T', L, E, ce, h0, X', hL, e1, e2, hx, -⟩
    · exact q
    · exact absurd hx id
  refine va_calli (a := (([.ref 0, .int w1, .int w2, .ref 106] : List Value).map (z_v ad)).toArray) run' rel.2.2.1 (fun q _ hq => hfr q hq) hfr (fun r' u t H1 locs1 ht hvm hw hB2 hz1 hk1 hS1 => ?_)
  have hw' : r' = Int32.ofInt 1 := hw
  subst hw'
  obtain ⟨hP1, hK1, hD1, hs1, ho1⟩ := hB2
  rw [ht] at hP1
  exact k u H1 locs1 _ _ ls ⟨hP1, hD1.weaken (fun k q _ hq => hfr q.1 hq), hS1, hK1.moved hvm.symm, z_lok_same rel.2.2.2.2.1 hs1 rel.2.2.2.2.2.1.1, ⟨rel.2.2.2.2.2.1.1, (fun w hw => by rw [List.mem_singleton.mp hw]; trivial), ho1⟩, ⟨by show a1 + (cells + 1) = h.1 + 1000; omega, by show a2 + (slots + 6) = h.2.1 + 6000; omega, hnn⟩, fun i hi => (hs1 i (by omega)).trans (rel.2.2.2.2.2.2.2 i hi)⟩
