/-! what is made; the rest that calls nothing -/
section ZN
variable {zn : Bool} {X : z_X} {d y : Nat} {p : Program} {l : Launch} {e : Env} {R : Room} {s : State} {m : MethodId} {args : Array Value} {below : List Frame} {meth : Method} {c : Code} {Q : State → Prop} {D : va_G} {tc : Nat → ClassId} {A : Nat → Prop} {ad0 : Nat → Nat} {n0 : Nat} {sl0 : Nat × Nat} {B : Nat × Nat}
variable {o : z_O} {pc : Nat} {lv : List (Option Value)} {sk : List Value} {h : z_H} {st' : z_S} {P : Prop}
theorem z_up_same {ad : Nat → Nat} {n q : Nat} (hn : n < z_RO) : ∀ i, i < n ∨ z_RO ≤ i → va_up ad n q i = ad i := fun i hi => by
  have : i ≠ n := by omega
  simp [va_up, this]
/-- one cell more -/
theorem z_Rel.new {ad : Nat → Nat} {pc' : Nat} {sk' : List Value} {n sl w : Nat} {f : Nat → z_E} {H H1 : Heap} {locs : List Loc} {cells slots q : Nat} {x : z_E} {ls : Array Slot}
    (r : z_Rel y s D tc A ad0 n0 sl0 ad (pc, lv, sk, (n, sl, f)) H locs cells slots ls) (hn : n < z_RO) (hP : va_P D z_cl (z_w ad tc (n, sl, f) ++ [(q, z_e ad tc x)]) H1) (hD : va_D A (z_w ad tc (n, sl, f) ++ [(q, z_e ad tc x)])) (hS : va_S A s.heap H1 locs)
    (hk : ∀ (t : Nat) (a : vp_A), x = .inl (t, a) → z_AT tc t s) (he : z_oke n x) (hs : (∀ v ∈ sk, z_okv n v) → ∀ v ∈ sk', z_okv n v) :
    z_Rel y s D tc A ad0 n0 sl0 (va_up ad n q) (pc', lv, .ref n :: sk', (n + 1, sl + w, va_up f n x)) H1 locs (cells + 1) (slots + w) ls ∧ sk'.map (z_v (va_up ad n q)) = sk'.map (z_v ad) := by
  obtain ⟨h1, h2, h3, h4, h5, h6, ⟨h7, h8, h10⟩, h9⟩ := r
  have hsm := z_up_same (ad := ad) (q := q) hn
  have ew : z_w (va_up ad n q) tc (n + 1, sl + w, va_up f n x) = z_w ad tc (n, sl, f) ++ [(q, z_e ad tc x)] := z_w_push hsm (by simp [va_up]) h6.2.2 he
  refine ⟨⟨?_, ?_, hS, ?_, z_lok_same h5 hsm h6.1, ⟨fun v hv => z_okv_mono (Nat.le_succ n) (h6.1 v hv), ?_, ?_⟩, ⟨?_, ?_, ?_⟩, fun i hi => ?_⟩, List.map_congr_left fun v hv => z_v_same hsm (hs h6.2.1 v hv)⟩
  · show va_P D z_cl (z_w (va_up ad n q) tc (n + 1, sl + w, va_up f n x)) H1
    rw [ew]; exact hP
  · show va_D A (z_w (va_up ad n q) tc (n + 1, sl + w, va_up f n x))
    rw [ew]; exact hD
  · intro k hk1 t a ea
    have ea1 : va_up f n x k = .inl (t, a) := ea
    by_cases e1 : k = n
    · subst e1
      simp only [va_up, if_true] at ea1
      exact hk t a ea1
    · simp only [va_up, if_neg e1] at ea1
      have hk2 : k < n + 1 := hk1
      exact h4 k (show k < n by omega) t a ea1
  · intro v hv
    rcases List.mem_cons.mp hv with e1 | e1
    · rw [e1]; exact Or.inl (Nat.lt_succ_self n)
    · exact z_okv_mono (Nat.le_succ n) (hs h6.2.1 v e1)
  · intro k hk1
    show z_oke (n + 1) (va_up f n x k)
    by_cases e1 : k = n
    · subst e1
      simp only [va_up, if_true]
      exact z_oke_mono (Nat.le_succ _) he
    · simp only [va_up, if_neg e1]
      have hk2 : k < n + 1 := hk1
      exact z_oke_mono (Nat.le_succ _) (h6.2.2 k (show k < n by omega))
  · show sl0.1 + (cells + 1) = n + 1 + 1000
    have : sl0.1 + cells = n + 1000 := h7
    omega
  · show sl0.2 + (slots + w) = sl + w + 6000
    have : sl0.2 + slots = sl + 6000 := h8
    omega
  · show n0 ≤ n + 1
    have : n0 ≤ n := h10
    omega
  · have : n0 ≤ n := h10
    rw [hsm i (by omega)]
    exact h9 i hi
theorem z_dv (ad : Nat → Nat) (n : Nat) (ty : FieldType) : z_v ad (defaultValue ty) = defaultValue ty ∧ z_okv n (defaultValue ty) := by
  cases ty <;> exact ⟨rfl, trivial⟩
theorem zs_nw (F : z_Fix zn X d y p R s m args meth c D tc A ad0 n0 sl0 B) {i : Nat} {f : z_I} (hd : decode (z_mc y) pc = .ok (.new i, 3)) (hg : z_good1 y pc (.new i, 3, f) = true)
    (hi : z_nw B f (pc, lv, sk, h) = some (st', P)) (hP : P) (k : z_Go y p l e R s m args below meth c Q D tc A ad0 n0 sl0 st') : z_Go y p l e R s m args below meth c Q D tc A ad0 n0 sl0 (pc, lv, sk, h) := by
  have hts := F.2.2.2.2.1
  obtain ⟨n, sl, g⟩ := h
  unfold z_nw at hi
  try dsimp only at hi
  unfold z_good1 at hg
  dsimp only at hg hi
  cases hc : Nat.ble f.1 12 with
  | false => rw [hc] at hi; cases hi
  | true =>
    rw [hc] at hi hg
    simp only [cond_true] at hi hg
    cases hi
    have hle := Nat.le_of_ble_eq_true hc
    obtain ⟨hF1, hF2, hF3, hF4, hF5⟩ := F.2.2.2.2.2.2.2.2.2.2.2
    intro ad H locs cells slots ls rel
    have hn0 : sl0.1 + cells = n + 1000 := rel.2.2.2.2.2.2.1.1
    have hs0 : sl0.2 + slots = sl + 6000 := rel.2.2.2.2.2.2.1.2.1
    have e1 : ((List.range (z_cls f.1).2.2).map (fun j => defaultValue (z_cty f.1 j))).map (z_v ad) = (List.range (z_cls f.1).2.2).map (fun j => defaultValue (z_cty f.1 j)) := by
      rw [List.map_map]
      exact List.map_congr_left fun j _ => (z_dv ad 0 _).1
    have hP1 := hP.1
    have hP2 := hP.2
    refine va_new (C := (z_cls f.1).1) (T := (z_cls f.1).2.1) (N := (z_cls f.1).2.2) (fs := (List.range (z_cls f.1).2.2).map (fun j => defaultValue (z_cty f.1 j))) F.1 F.2.1 hts (z_uws hle) (z_cty f.1) (z_fty hle) F.2.2.2.1 (hts _ (z_W_mem hg)) (hts _ (z_ips hle).1) (hts _ (z_ips hle).2) (z_K0 F.2.2.2.2.2.2.2.2.2.1) rel.1 rel.2.1 rel.2.2.1 F.2.2.2.2.2.1 (z_cl_at hle) (fun j hj => ?_) (by omega) (by omega) hd (fun q H1 gP gD gS => ?_)
    · unfold vp_V
      rw [List.getD_eq_getElem?_getD, List.getElem?_map, List.getElem?_range hj]
      rfl
    · have e2 : z_e ad tc (.inr (f.1, (List.range (z_cls f.1).2.2).map (fun j => defaultValue (z_cty f.1 j)))) = .inr (f.1, (List.range (z_cls f.1).2.2).map (fun j => defaultValue (z_cty f.1 j))) := by
        show Sum.inr (_, _) = Sum.inr (_, _)
        rw [e1]
      rw [← e2] at gP gD
      have hr := rel.new (pc' := pc + 3) (sk' := sk) (w := (z_cls f.1).2.2) (by omega) gP gD gS (fun t a z => by cases z) (fun v hv => by
        obtain ⟨j, -, rfl⟩ := List.mem_map.mp hv
        exact (z_dv ad _ _).2) id
      have K := k _ H1 locs _ _ ls hr.1
      simp only [List.map_cons, hr.2] at K
      have e3 : z_v (va_up ad n q) (.ref n) = .ref q := by simp [z_v, va_up]
      rw [e3] at K
      exact K
theorem zs_na (F : z_Fix zn X d y p R s m args meth c D tc A ad0 n0 sl0 B) {a : ArrayType} {f : z_I} (hd : decode (z_mc y) pc = .ok (.newarray a, 2)) (hg : z_good1 y pc (.newarray a, 2, f) = true)
    (hi : z_na B f (pc, lv, sk, h) = some (st', P)) (hP : P) (k : z_Go y p l e R s m args below meth c Q D tc A ad0 n0 sl0 st') : z_Go y p l e R s m args below meth c Q D tc A ad0 n0 sl0 (pc, lv, sk, h) := by
  have hts := F.2.2.2.2.1
  obtain ⟨n, sl, g⟩ := h
  unfold z_na at hi
  try dsimp only at hi
  unfold z_good1 at hg
  dsimp only at hg
  split at hi
  · next _ x r =>
    cases hc : Nat.ble f.1 3 with
    | false => rw [hc] at hi; cases hi
    | true =>
      rw [hc] at hi hg
      simp only [cond_true] at hi hg
      rw [Bool.and_eq_true, decide_eq_true_eq] at hg
      cases hi
      have hle := Nat.le_of_ble_eq_true hc
      obtain ⟨hF1, hF2, hF3, hF4, hF5⟩ := F.2.2.2.2.2.2.2.2.2.2.2
      obtain ⟨⟨hx0, hx8⟩, hP1, hP2⟩ := hP
      intro ad H locs cells slots ls rel
      have hn0 : sl0.1 + cells = n + 1000 := rel.2.2.2.2.2.2.1.1
      have hs0 : sl0.2 + slots = sl + 6000 := rel.2.2.2.2.2.2.1.2.1
      have hcb : componentBytes (z_ty f.1) ≤ 8 := by
        rcases (show f.1 = 0 ∨ f.1 = 1 ∨ f.1 = 2 ∨ f.1 = 3 by omega) with z | z | z | z <;> rw [z] <;> decide
      have hbytes : x.toNatClampNeg * componentBytes (z_ty f.1) ≤ 536870912 := Nat.le_trans (Nat.mul_le_mul_left _ hcb) hx8
      have hcell : ∀ cA : ClassId, vp_cell cA (z_da f.1 x.toNatClampNeg) = arrV cA x.toNatClampNeg (fun _ => defaultValue (z_ty f.1)) := fun cA => by
        rcases (show f.1 = 0 ∨ f.1 = 1 ∨ f.1 = 2 ∨ f.1 = 3 by omega) with z | z | z | z <;> rw [z] <;> rfl
      refine va_newa F.1 F.2.1 (by rw [hg.1]; exact hts _ (z_W_mem hg.2)) (ty := z_ty f.1) hg.1 (z_K0 F.2.2.2.2.2.2.2.2.2.1) rel.1 rel.2.1 rel.2.2.1 F.2.2.2.2.2.1 (a0 := z_da f.1 x.toNatClampNeg) hcell hx0 rfl hbytes (by omega) (by omega) hd (fun q cA H1 gK gP gD gS => ?_)
      have hAT := gK.2 0 (cA, z_ty f.1) rfl
      have ecA : cA = tc f.1 := z_TCq F.2.2.2.2.2.2.2.2.1 hAT.2
      subst ecA
      have e2 : z_e ad tc (.inl (f.1, z_da f.1 x.toNatClampNeg)) = .inl (tc f.1, z_da f.1 x.toNatClampNeg) := by
        rcases (show f.1 = 0 ∨ f.1 = 1 ∨ f.1 = 2 ∨ f.1 = 3 by omega) with z | z | z | z <;> rw [z] <;> rfl
      rw [← e2] at gP gD
      have hr := rel.new (pc' := pc + 2) (sk' := r) (w := x.toNatClampNeg) (by omega) gP gD gS (fun t a z => by cases z; exact hAT) (by
        rcases (show f.1 = 0 ∨ f.1 = 1 ∨ f.1 = 2 ∨ f.1 = 3 by omega) with z | z | z | z <;> rw [z] <;> trivial) z_okt
      have K := k _ H1 locs _ _ ls hr.1
      simp only [List.map_cons, hr.2] at K
      have e3 : z_v (va_up ad n q) (.ref n) = .ref q := by simp [z_v, va_up]
      rw [e3] at K
      exact K
  · cases hi
end ZN
