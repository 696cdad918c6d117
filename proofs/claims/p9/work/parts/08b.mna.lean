/-! arrays of references, and rows of rows -/
set_option maxRecDepth 100000 in
theorem z_aok : z_W z_ao.2.2 (.arrayClass .int) = true := by decide +kernel
section ZQ
variable {zn : Bool} {X : z_X} {d y : Nat} {p : Program} {l : Launch} {e : Env} {R : Room} {s : State} {m : MethodId} {args : Array Value} {below : List Frame} {meth : Method} {c : Code} {Q : State → Prop} {D : va_G} {tc : Nat → ClassId} {A : Nat → Prop} {ad0 : Nat → Nat} {n0 : Nat} {sl0 : Nat × Nat} {B : Nat × Nat}
variable {o : z_O} {pc : Nat} {lv : List (Option Value)} {sk : List Value} {h : z_H} {st' : z_S} {P : Prop}
theorem zs_anq (F : z_Fix zn X d y p R s m args meth c D tc A ad0 n0 sl0 B) {i : Nat} {f : z_I} (hd : decode (z_mc y) pc = .ok (.anewarray i, 3)) (hg : z_good1 y pc (.anewarray i, 3, f) = true)
    (hi : z_anq B (pc, lv, sk, h) = some (st', P)) (hP : P) (k : z_Go y p l e R s m args below meth c Q D tc A ad0 n0 sl0 st') : z_Go y p l e R s m args below meth c Q D tc A ad0 n0 sl0 (pc, lv, sk, h) := by
  have hts := F.2.2.2.2.1
  obtain ⟨n, sl, g⟩ := h
  unfold z_anq at hi
  try dsimp only at hi
  unfold z_good1 at hg
  dsimp only at hg
  split at hi
  · next _ x r =>
    cases hi
    obtain ⟨hF1, hF2, hF3, hF4, hF5⟩ := F.2.2.2.2.2.2.2.2.2.2.2
    obtain ⟨⟨hx0, hx4⟩, hP1, hP2⟩ := hP
    intro ad H locs cells slots ls rel
    have hn0 : sl0.1 + cells = n + 1000 := rel.2.2.2.2.2.2.1.1
    have hs0 : sl0.2 + slots = sl + 6000 := rel.2.2.2.2.2.2.1.2.1
    have hao : va_AO "FedClocks$Taste" s := F.2.2.2.2.2.2.2.1.2.2.2.2.2.1.2
    try dsimp only at hP1 hP2
    refine va_newq F.1 F.2.1 F.2.2.2.1 (hts _ (z_W_mem hg)) hao (z_K0 F.2.2.2.2.2.2.2.2.2.1) rel.1 rel.2.1 rel.2.2.1 F.2.2.2.2.2.1 hx0 rfl hx4 (by omega) (by omega) hd (fun q cA H1 gK gP gD gS => ?_)
    have hAT := gK.2 0 (cA, .object "FedClocks$Taste") rfl
    have ecA : cA = tc 4 := z_TCq (t := 4) F.2.2.2.2.2.2.2.2.1 hAT.2
    subst ecA
    have hr := rel.new (x := .inl (4, x.toNatClampNeg, .inr (.inr (.inr (.inr (fun _ => none)))))) (pc' := pc + 3) (sk' := r) (w := x.toNatClampNeg) (by omega) gP gD gS (fun t a z => by cases z; exact hAT) (fun j i z => by cases z) z_okt
    have K := k _ H1 locs _ _ ls hr.1
    simp only [List.map_cons, hr.2] at K
    have e3 : z_v (va_up ad n q) (.ref n) = .ref q := by simp [z_v, va_up]
    rw [e3] at K
    exact K
  · cases hi
def z_adm (ad : Nat → Nat) (n N q : Nat) (r : Nat → Nat) : Nat → Nat := fun i => if i = n then q else if n < i ∧ i ≤ n + N then r (i - (n + 1)) else ad i
theorem z_w_mna {ad : Nat → Nat} {n sl sl' N K q : Nat} {g : Nat → z_E} {r : Nat → Nat} {fv : Nat → va_E} (hn : n + N < z_RO) (hf : ∀ k, k < n → z_oke n (g k)) :
    z_w (z_adm ad n N q r) tc (n + 1 + N, sl', z_rows g n N K) = (z_w ad tc (n, sl, g) ++ [(q, .inl (tc 5, N, .inr (.inr (.inr (.inr (fun i => if i < N then some (r i) else none))))))]) ++ va_pl ([] ++ (List.range N).map r) (vr_up fv ((List.range N).map r) (.inl (tc 0, K, .inl (fun _ => 0)))) := by
  have hsm : ∀ i, i < n ∨ z_RO ≤ i → z_adm ad n N q r i = ad i := fun i hi => by
    unfold z_adm
    rw [if_neg (by omega), if_neg (by omega)]
  apply List.ext_getElem?
  intro i
  by_cases h1 : i < n
  · rw [z_w_at (h := (n + 1 + N, sl', z_rows g n N K)) (show i < n + 1 + N by omega), List.append_assoc, List.getElem?_append_left (by rw [z_w_len]; exact h1), z_w_at (h := (n, sl, g)) h1]
    have e1 : z_rows g n N K i = g i := by
      unfold z_rows
      have : Nat.ble n i = false := by
        cases hz : Nat.ble n i with
        | false => rfl
        | true => have := Nat.le_of_ble_eq_true hz; omega
      rw [this]
      rfl
    show some (z_adm ad n N q r i, z_e (z_adm ad n N q r) tc (z_rows g n N K i)) = _
    rw [e1, hsm i (Or.inl h1), z_e_same hsm (hf i h1)]
  · by_cases h2 : i = n
    · subst h2
      rw [z_w_at (h := (i + 1 + N, sl', z_rows g i N K)) (show i < i + 1 + N by omega), List.append_assoc, List.getElem?_append_right (by rw [z_w_len]; exact Nat.le_refl _), z_w_len]
      show some (z_adm ad i N q r i, z_e (z_adm ad i N q r) tc (z_rows g i N K i)) = _
      have e1 : z_rows g i N K i = .inl (5, N, .inr (.inr (.inr (.inr (fun j => bif Nat.ble N j then none else some (i + 1 + j)))))) := by
        unfold z_rows
        rw [Nat.ble_eq_true_of_le (Nat.le_refl i), show Nat.beq i i = true from Nat.beq_refl i]
        rfl
      have e2 : z_adm ad i N q r i = q := by unfold z_adm; rw [if_pos rfl]
      rw [e1, e2, show i - (i, sl, g).1 = 0 from Nat.sub_self i]
      have e3 : (fun j => (bif Nat.ble N j then none else some (i + 1 + j)).map (z_adm ad i N q r)) = fun j => if j < N then some (r j) else none := by
        funext j
        by_cases hj : j < N
        · have : Nat.ble N j = false := by
            cases hz : Nat.ble N j with
            | false => rfl
            | true => have := Nat.le_of_ble_eq_true hz; omega
          rw [this, if_pos hj]
          show some (z_adm ad i N q r (i + 1 + j)) = _
          unfold z_adm
          rw [if_neg (by omega), if_pos (by omega), show i + 1 + j - (i + 1) = j by omega]
        · rw [Nat.ble_eq_true_of_le (by omega), if_neg hj]
          rfl
      show some (q, Sum.inl (tc 5, N, Sum.inr (Sum.inr (Sum.inr (Sum.inr (fun j => (bif Nat.ble N j then none else some (i + 1 + j)).map (z_adm ad i N q r))))))) = _
      rw [e3]
      rfl
    · by_cases h3 : i ≤ n + N
      · rw [z_w_at (h := (n + 1 + N, sl', z_rows g n N K)) (show i < n + 1 + N by omega), List.getElem?_append_right (by rw [List.length_append, z_w_len]; show n + 1 ≤ i; omega), List.length_append, z_w_len]
        show some (z_adm ad n N q r i, z_e (z_adm ad n N q r) tc (z_rows g n N K i)) = _
        have e1 : z_rows g n N K i = .inl (0, K, .inl (fun _ => 0)) := by
          unfold z_rows
          have hb : Nat.beq i n = false := by
            cases hz : Nat.beq i n with
            | false => rfl
            | true => exact absurd (Nat.eq_of_beq_eq_true hz) h2
          rw [Nat.ble_eq_true_of_le (show n ≤ i by omega), hb, Nat.ble_eq_true_of_le h3]
          rfl
        have e2 : z_adm ad n N q r i = r (i - (n + 1)) := by unfold z_adm; rw [if_neg h2, if_pos (by omega)]
        rw [e1, e2]
        show some (r (i - (n + 1)), Sum.inl (tc 0, K, Sum.inl (fun _ => 0))) = (va_pl ([] ++ (List.range N).map r) _)[i - (n + 1)]?
        unfold va_pl
        rw [List.nil_append, List.getElem?_map, List.getElem?_map, List.getElem?_range (show i - (n + 1) < N by omega)]
        show _ = some (r (i - (n + 1)), vr_up fv ((List.range N).map r) _ (r (i - (n + 1))))
        rw [vr_up_in (List.mem_map.mpr ⟨i - (n + 1), List.mem_range.mpr (by omega), rfl⟩)]
      · rw [z_w_out (h := (n + 1 + N, sl', z_rows g n N K)) (by show n + 1 + N ≤ i; omega), List.getElem?_eq_none]
        rw [List.length_append, List.length_append, z_w_len]
        unfold va_pl
        rw [List.nil_append, List.length_map, List.length_map, List.length_range]
        show n + 1 + N ≤ i
        omega
theorem zs_mna (F : z_Fix zn X d y p R s m args meth c D tc A ad0 n0 sl0 B) {i dm : Nat} {f : z_I} (hd : decode (z_mc y) pc = .ok (.multianewarray i dm, 4)) (hg : z_good1 y pc (.multianewarray i dm, 4, f) = true)
    (hi : z_mna B (pc, lv, sk, h) = some (st', P)) (hP : P) (k : z_Go y p l e R s m args below meth c Q D tc A ad0 n0 sl0 st') : z_Go y p l e R s m args below meth c Q D tc A ad0 n0 sl0 (pc, lv, sk, h) := by
  have hts := F.2.2.2.2.1
  obtain ⟨n, sl, g⟩ := h
  unfold z_mna at hi
  try dsimp only at hi
  unfold z_good1 at hg
  dsimp only at hg
  rw [Bool.and_eq_true] at hg
  have edm := Nat.eq_of_beq_eq_true hg.2
  subst edm
  split at hi
  · next _ w x r =>
    cases hi
    obtain ⟨hF1, hF2, hF3, hF4, hF5⟩ := F.2.2.2.2.2.2.2.2.2.2.2
    obtain ⟨⟨⟨hx0, hw0⟩, hx4, hw4⟩, hP1, hP2⟩ := hP
    try dsimp only at hP1 hP2
    intro ad H locs cells slots ls rel
    have hn0 : sl0.1 + cells = n + 1000 := rel.2.2.2.2.2.2.1.1
    have hs0 : sl0.2 + slots = sl + 6000 := rel.2.2.2.2.2.2.1.2.1
    have hao : va_AOA .int s := F.2.2.2.2.2.2.2.1.2.2.2.2.2.1.1
    have hac := hts _ (z_W_mem z_aok)
    obtain ⟨cy, ky, comp, f1, f2, f3⟩ := Cond.arrayClass_spec hac
    have ecy : cy = tc 0 := z_TCq (t := 0) F.2.2.2.2.2.2.2.2.1 (show va_RA s cy .int from f1)
    subst ecy
    have hAT0 : z_AT tc 0 s := ⟨fun n9 z9 => ⟨fun k9 h9 => (by cases h9), ky, f2, comp, f3⟩, f1⟩
    refine va_mna (X := z_w ad tc (n, sl, g)) (L := []) (f := fun _ => .inr (0, [])) (z := (w.toNatClampNeg, .inl (fun _ => 0))) F.1 F.2.1 F.2.2.2.1 (hts _ (z_W_mem hg.1)) hao hac f1 (z_K0 F.2.2.2.2.2.2.2.2.2.1) (by show va_P D z_cl (z_w ad tc (n, sl, g) ++ []) H; rw [List.append_nil]; exact rel.1) (by show va_D A (z_w ad tc (n, sl, g) ++ []); rw [List.append_nil]; exact rel.2.1) rel.2.2.1 F.2.2.2.2.2.1 hx0 hw0 rfl rfl hx4 hw4 (by omega) rfl rfl (by omega) (by omega) (fun cA => ?_) hd (fun q rr cA H1 hinj hnl gK gP gD gS => ?_)
    · rw [vp_cell_i, ← arrV_new]
      rfl
    · have hAT5 := gK.2 0 (cA, .array .int) rfl
      have ecA : cA = tc 5 := z_TCq (t := 5) F.2.2.2.2.2.2.2.2.1 hAT5.2
      subst ecA
      have hRO : n + x.toNatClampNeg < z_RO := by omega
      have ho := rel.2.2.2.2.2.1.2.2
      have ew := z_w_mna (tc := tc) (ad := ad) (sl := sl) (sl' := sl + (x.toNatClampNeg + x.toNatClampNeg * w.toNatClampNeg)) (N := x.toNatClampNeg) (K := w.toNatClampNeg) (q := q) (r := rr) (fv := fun _ => .inr (0, [])) hRO ho
      have hsm : ∀ i, i < n ∨ z_RO ≤ i → z_adm ad n x.toNatClampNeg q rr i = ad i := fun i hi => by
        unfold z_adm
        rw [if_neg (by omega), if_neg (by omega)]
      rw [← ew] at gP gD
      obtain ⟨h1, h2, h3, h4, h5, h6, ⟨h7, h8, h10⟩, h9⟩ := rel
      have hrow : ∀ k, k < n + 1 + x.toNatClampNeg → (k < n ∧ z_rows g n x.toNatClampNeg w.toNatClampNeg k = g k) ∨ (z_rows g n x.toNatClampNeg w.toNatClampNeg k = .inl (5, x.toNatClampNeg, .inr (.inr (.inr (.inr (fun i => bif Nat.ble x.toNatClampNeg i then none else some (n + 1 + i))))))) ∨ z_rows g n x.toNatClampNeg w.toNatClampNeg k = .inl (0, w.toNatClampNeg, .inl (fun _ => 0)) := by
        intro k hk
        unfold z_rows
        cases hb : Nat.ble n k with
        | false => exact Or.inl ⟨z_nble hb, rfl⟩
        | true =>
          cases hb2 : Nat.beq k n with
          | true => exact Or.inr (Or.inl rfl)
          | false =>
            cases hb3 : Nat.ble k (n + x.toNatClampNeg) with
            | true => exact Or.inr (Or.inr rfl)
            | false => have := z_nble hb3; omega
      have hr : z_Rel y s D tc A ad0 n0 sl0 (z_adm ad n x.toNatClampNeg q rr) (pc + 4, lv, .ref n :: r, (n + 1 + x.toNatClampNeg, sl + (x.toNatClampNeg + x.toNatClampNeg * w.toNatClampNeg), z_rows g n x.toNatClampNeg w.toNatClampNeg)) H1 locs (cells + 1 + x.toNatClampNeg) (slots + x.toNatClampNeg + x.toNatClampNeg * w.toNatClampNeg) ls := by
        refine ⟨gP, gD, gS, ?_, z_lok_same h5 hsm h6.1, ⟨fun v hv => z_okv_mono (show n ≤ n + 1 + x.toNatClampNeg by omega) (h6.1 v hv), fun v hv => ?_, ?_⟩, ⟨?_, ?_, ?_⟩, fun i hi => ?_⟩
        · intro k hk t a ea
          rcases hrow k hk with ⟨q1, q2⟩ | q2 | q2
          · exact h4 k q1 t a (q2.symm.trans ea)
          · have := q2.symm.trans ea
            cases this
            exact hAT5
          · have := q2.symm.trans ea
            cases this
            exact hAT0
        · rcases List.mem_cons.mp hv with e1 | e1
          · rw [e1]; exact Or.inl (show n < n + 1 + x.toNatClampNeg by omega)
          · exact z_okv_mono (show n ≤ n + 1 + x.toNatClampNeg by omega) (h6.2.1 v (List.mem_cons_of_mem _ (List.mem_cons_of_mem _ e1)))
        · intro k hk
          show z_oke (n + 1 + x.toNatClampNeg) (z_rows g n x.toNatClampNeg w.toNatClampNeg k)
          rcases hrow k hk with ⟨q1, q2⟩ | q2 | q2
          · rw [q2]; exact z_oke_mono (show n ≤ n + 1 + x.toNatClampNeg by omega) (h6.2.2 k q1)
          · rw [q2]
            intro j i hj
            dsimp only at hj
            cases hb : Nat.ble x.toNatClampNeg j with
            | true => rw [hb] at hj; cases hj
            | false =>
              rw [hb] at hj
              cases hj
              have := z_nble hb
              omega
          · rw [q2]; trivial
        · show sl0.1 + (cells + 1 + x.toNatClampNeg) = n + 1 + x.toNatClampNeg + 1000
          have : sl0.1 + cells = n + 1000 := h7
          omega
        · show sl0.2 + (slots + x.toNatClampNeg + x.toNatClampNeg * w.toNatClampNeg) = sl + (x.toNatClampNeg + x.toNatClampNeg * w.toNatClampNeg) + 6000
          have : sl0.2 + slots = sl + 6000 := h8
          omega
        · show n0 ≤ n + 1 + x.toNatClampNeg
          have : n0 ≤ n := h10
          omega
        · have : n0 ≤ n := h10
          rw [hsm i (by omega)]
          exact h9 i hi
      have K := k _ H1 locs _ _ ls hr
      have e4 : r.map (z_v (z_adm ad n x.toNatClampNeg q rr)) = r.map (z_v ad) := List.map_congr_left fun v hv => z_v_same hsm (h6.2.1 v (List.mem_cons_of_mem _ (List.mem_cons_of_mem _ hv)))
      have e3 : z_v (z_adm ad n x.toNatClampNeg q rr) (.ref n) = .ref q := by
        show Value.ref _ = _
        unfold z_adm
        rw [if_pos rfl]
      simp only [List.map_cons, e3, e4] at K
      exact K
  · cases hi
end ZQ
