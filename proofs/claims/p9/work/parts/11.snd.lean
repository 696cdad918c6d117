/-! every method, at every depth: what it does over places is its contract -/
theorem z_sl_len (ad : Nat → Nat) : ∀ vs : List Value, (lg_sl (vs.map (z_v ad))).length = (z_as vs).length
  | [] => rfl
  | v :: vs => by
    have ih := z_sl_len ad vs
    unfold lg_sl at ih ⊢
    rw [List.map_cons, List.flatMap_cons, List.length_append, ih, z_v_cat]
    cases hc : z_c2 v with
    | true =>
      rw [if_pos ((z_c2_iff v).mpr hc)]
      simp only [z_as, hc, cond_true, List.length_cons, List.length_nil]
      omega
    | false =>
      rw [if_neg (fun q => by rw [z_c2_iff, hc] at q; exact absurd q (by decide))]
      simp only [z_as, hc, cond_false, List.length_cons, List.length_nil]
      omega
theorem z_snd (zn : Bool) : ∀ d, z_Snd zn d
  | 0 => fun y args h v h' hs => absurd hs id
  | d + 1 => by
    intro y args h v h' hsem ha ho l D tc ad sz
    obtain ⟨hu, hlt, hlen, os, st, P, hpath, hP, hfin⟩ := hsem
    obtain ⟨u1, u2, u3, u4, u5⟩ := z_mg hu
    unfold z_useok at hu
    rw [Bool.and_eq_true, Bool.and_eq_true] at hu
    refine Met.ofW (cc := z_mc y) (maxL := z_ml y) (ret := z_mr y) u1 rfl ?_
    intro p e s m args' below meth c s₁ B hml hv
    obtain ⟨rfl, hsz, hP0, hkn, hka, hD0, hTC, hro⟩ := hv
    have hx := B.exec
    have hb := B.bytes
    have hr := B.returns
    have hts := atoms_spec (ws := z_ws y) B.pre
    have hown : s.vm.findClass (z_mn y).cls = some m.cls := findClass_of_methodNamed B.named
    have hlocks := B.notSynchronized
    have hin : meth.name = (z_mn y).name := (name_of_methodNamed B.named B.method).1
    subst hsz
    have hD := hD0.self (sz := s.heap.size)
    have F : z_Fix zn (none, zn) d y p (headSpec (z_ws y) (z_rm (d + 1) (h'.1 - h.1) (h'.2.1 - h.2.1))).room s m (args.map (z_v ad)).toArray meth c D tc (va_A (z_w ad tc h) s.heap.size) ad h.1 (h.1 + 1000, h.2.1 + 6000) (h'.1, h'.2.1) :=
      ⟨hx, hb, hml, hown, fun w hw => hts w (List.mem_cons_of_mem _ hw), fun q hq => Or.inr hq, fun q => hin.trans q, hro, hTC, hkn, ⟨rfl, fun x hx => by cases hx⟩, hlt, by show h'.1 + 1000 ≤ h.1 + 1000 + (h'.1 - h.1); omega, by show h'.2.1 + 6000 ≤ h.2.1 + 6000 + (h'.2.1 - h.2.1); omega, by show d + 5 ≤ d + 1 + 4; omega, by show 40 * d + 440 ≤ 40 * (d + 1) + 400; exact z_arith2 d⟩
    have hl := lv_entry (args.map (z_v ad)) (n := z_ml y) (by rw [z_sl_len]; exact hlen)
    rw [lg_entry_eq]
    generalize (lg_sl (args.map (z_v ad)) ++ List.replicate (z_ml y - (lg_sl (args.map (z_v ad))).length) Slot.unset).toArray = ls at hl ⊢
    refine zs_path (sl0 := (h.1 + 1000, h.2.1 + 6000)) F (z_snd zn d) hu.2.1 hu.2.2 os _ st P hpath hP ?_ ad s.heap [] 0 0 ls ⟨hP0, hD, va_S.rf, hka, ⟨hl.1, hl.2.1, fun i w hi => hl.2.2 (i, z_v ad w) (z_args_at hi)⟩, ⟨fun w hw => ha w (z_args_mem hw), (fun w hw => nomatch hw), ho⟩, ⟨Nat.add_zero _, Nat.add_zero _, Nat.le_refl _⟩, fun i _ => rfl⟩
    intro ad' H locs cells slots ls rel
    obtain ⟨pc, lv, sk, h2⟩ := st
    obtain ⟨eh, hfin⟩ := hfin
    dsimp only at eh
    subst eh
    have hn0 : h.1 + 1000 + cells = h2.1 + 1000 := rel.2.2.2.2.2.2.1.1
    have hs0 : h.2.1 + 6000 + slots = h2.2.1 + 6000 := rel.2.2.2.2.2.2.1.2.1
    have ec : cells = h2.1 - h.1 := by omega
    have es : slots = h2.2.1 - h.2.1 := by omega
    rw [ec, es]
    rw [ec, es] at rel
    have hBB : ∀ t : State, t.heap = H → s.WarmedH t.vm → z_B D tc (va_A (z_w ad tc h) s.heap.size) ad h.1 h2 ad' t := fun t ht hW =>
      ⟨by rw [ht]; exact rel.1, rel.2.2.2.1.moved hW.alike, rel.2.1, rel.2.2.2.2.2.2.2, rel.2.2.2.2.2.1.2.2⟩
    have hgd : ∀ (i : Instr) (len : Nat) (f : z_I), z_fetch y pc = some (i, len, f) → z_good y pc (i, len, f) = true := fun i len f hf => by
      have := List.all_eq_true.mp hu.2.1 pc (List.mem_range.mpr (z_fend hf))
      rw [hf] at this
      exact this
    dsimp only at hfin
    split at hfin
    · next len r hf =>
      obtain ⟨rfl, ty, h1, h2⟩ := hfin
      obtain ⟨hd, -, -⟩ := z_len1 (hgd _ _ _ hf) rfl rfl
      exact W.zret (v := r) hx hb (hr.trans h1) h2 (fun t ht hW => ⟨⟨r, ad', rfl, rfl, hBB t ht hW⟩, rel.2.2.1.F ht⟩) rel.2.2.1.2.2 hd
    · next len r hf =>
      obtain ⟨rfl, h1⟩ := hfin
      obtain ⟨hd, -, -⟩ := z_len1 (hgd _ _ _ hf) rfl rfl
      exact W.lret (v := r) hx hb (hr.trans h1) (fun t ht hW => ⟨⟨r, ad', rfl, rfl, hBB t ht hW⟩, rel.2.2.1.F ht⟩) rel.2.2.1.2.2 hd
    · next len i hf =>
      obtain ⟨rfl, hi, h1⟩ := hfin
      obtain ⟨hd, -, -⟩ := z_len1 (hgd _ _ _ hf) rfl rfl
      exact W.aret (v := .ref (ad' i)) hx hb (hr.trans h1) (Or.inr ⟨_, rfl⟩) (Or.inr ⟨_, rfl⟩) (fun t ht hW => ⟨⟨ad', ad' i, rfl, hi, rfl, hBB t ht hW⟩, rel.2.2.1.F ht⟩) rel.2.2.1.2.2 hd
    · next len hf =>
      obtain ⟨rfl, h1⟩ := hfin
      obtain ⟨hd, -, -⟩ := z_len1 (hgd _ _ _ hf) rfl rfl
      exact W.vret hx hb (hr.trans h1) (fun t ht hW => ⟨⟨ad', rfl, trivial, hBB t ht hW⟩, rel.2.2.1.F ht⟩) rel.2.2.1.2.2 hd
    · exact absurd hfin id
