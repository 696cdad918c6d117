/-! more of it -/
section ZN
variable {zn : Bool} {X : z_X} {d y : Nat} {p : Program} {l : Launch} {e : Env} {R : Room} {s : State} {m : MethodId} {args : Array Value} {below : List Frame} {meth : Method} {c : Code} {Q : State → Prop} {D : va_G} {tc : Nat → ClassId} {A : Nat → Prop} {ad0 : Nat → Nat} {n0 : Nat} {sl0 : Nat × Nat} {B : Nat × Nat}
variable {o : z_O} {pc : Nat} {lv : List (Option Value)} {sk : List Value} {h : z_H} {st' : z_S} {P : Prop}
theorem zs_gs (F : z_Fix zn X d y p R s m args meth c D tc A ad0 n0 sl0 B) {i : Nat} {f : z_I} (hd : decode (z_mc y) pc = .ok (.getstatic i, 3)) (hg : z_good1 y pc (.getstatic i, 3, f) = true)
    (hi : z_gs X f (pc, lv, sk, h) = some (st', P)) (k : z_Go y p l e R s m args below meth c Q D tc A ad0 n0 sl0 st') : z_Go y p l e R s m args below meth c Q D tc A ad0 n0 sl0 (pc, lv, sk, h) := by
  have hts := F.2.2.2.2.1
  obtain ⟨-, -, hst, hcs, hsi, -⟩ := F.2.2.2.2.2.2.2.1
  unfold z_gs at hi
  try dsimp only at hi
  unfold z_good1 at hg
  dsimp only at hg
  cases h50 : Nat.beq f.1 50 with
  | true =>
    rw [h50] at hi hg
    simp only [cond_true, z_push] at hi hg
    cases hi
    intro ad H locs cells slots ls rel
    exact va_gets F.1 F.2.1 hcs rel.2.2.1 F.2.2.2.1 (hts _ (z_W_mem hg)) (fun _ h9 => h9) hd (k ad H locs cells slots ls (rel.stk (fun q => z_okp trivial q)))
  | false =>
    rw [h50] at hi hg
    simp only [cond_false] at hi hg
    cases h51 : Nat.beq f.1 51 with
    | true =>
      rw [h51] at hi hg
      simp only [cond_true, z_push] at hi hg
      cases hi
      intro ad H locs cells slots ls rel
      have K := k ad H locs cells slots ls (rel.stk (fun q => z_okp (by cases X.2 <;> first | trivial | exact Or.inr (by omega)) q))
      have e1 : z_v ad (bif X.2 then .null else .ref (z_RO + 400)) = bif zn then .null else .ref (ad0 (z_RO + 400)) := by
        rw [← F.2.2.2.2.2.2.2.2.2.2.1.1]
        cases X.2
        · show Value.ref _ = Value.ref _
          rw [rel.2.2.2.2.2.2.2 (z_RO + 400) (Or.inr (by omega))]
        · rfl
      simp only [List.map_cons, e1] at K
      exact va_gets F.1 F.2.1 hsi rel.2.2.1 F.2.2.2.1 (hts _ (z_W_mem hg)) (fun _ h9 => h9) hd K
    | false =>
      rw [h51] at hi hg
      simp only [cond_false] at hi hg
      cases hc : (Nat.ble f.1 7 && Nat.beq f.2.1 1) with
      | false => rw [hc] at hi; cases hi
      | true =>
        rw [hc] at hi hg
        simp only [cond_true, z_push] at hi hg
        cases hi
        rw [Bool.and_eq_true] at hc
        have hle := Nat.le_of_ble_eq_true hc.1
        intro ad H locs cells slots ls rel
        have K := k ad H locs cells slots ls (rel.stk (fun q => z_okp (b := .ref (z_RO + 200 + f.1)) (Or.inr (by omega)) q))
        have K2 : W p l e R s m args below meth c H locs cells slots Q (F0 m (pc + 3) ls (.ref (ad (z_RO + 200 + f.1)) :: sk.map (z_v ad))) := K
        rw [rel.2.2.2.2.2.2.2 (z_RO + 200 + f.1) (Or.inr (by omega))] at K2
        exact va_gets F.1 F.2.1 (hst f.1 (by omega)).1 rel.2.2.1 F.2.2.2.1 (hts _ (z_W_mem hg)) (fun _ h9 => h9) hd K2
theorem zs_ldc (F : z_Fix zn X d y p R s m args meth c D tc A ad0 n0 sl0 B) {i : Nat} {f : z_I} (hd : decode (z_mc y) pc = .ok (.ldc i, 2)) (hg : z_good1 y pc (.ldc i, 2, f) = true)
    (hi : z_ldc f 2 (pc, lv, sk, h) = some (st', P)) (k : z_Go y p l e R s m args below meth c Q D tc A ad0 n0 sl0 st') : z_Go y p l e R s m args below meth c Q D tc A ad0 n0 sl0 (pc, lv, sk, h) := by
  have hts := F.2.2.2.2.1
  unfold z_ldc at hi
  try dsimp only at hi
  unfold z_good1 at hg
  dsimp only at hg
  cases h0 : Nat.beq f.1 0 with
  | true =>
    rw [h0] at hi hg
    simp only [cond_true, z_push] at hi hg
    split at hi
    · next o1 j1 v hw =>
      rw [hw] at hg
      simp only [Bool.and_eq_true, decide_eq_true_eq] at hg
      cases hi
      obtain ⟨⟨g1, g2⟩, g3⟩ := hg
      subst g2; subst g3
      intro ad H locs cells slots ls rel
      exact lv_ldc F.1 F.2.1 F.2.2.2.1 (hts _ (z_W_mem g1)) hd (k ad H locs cells slots ls (rel.stk (fun q => z_okp trivial q)))
    · cases hi
  | false =>
    rw [h0] at hi hg
    simp only [cond_false] at hi hg
    cases hc : (Nat.beq f.1 1 && Nat.ble f.2.1 5) with
    | false => rw [hc] at hi; cases hi
    | true =>
      rw [hc] at hi
      rw [Bool.and_eq_true] at hc
      rw [hc.1] at hg
      simp only [cond_true, z_push, decide_eq_true_eq] at hi hg
      cases hi
      intro ad H locs cells slots ls rel
      have K := k ad H locs cells slots ls (rel.stk (fun q => z_okp (b := .ref (z_RO + f.2.1)) (Or.inr (by omega)) q))
      have K2 : W p l e R s m args below meth c H locs cells slots Q (F0 m (pc + 2) ls (.ref (ad (z_RO + f.2.1)) :: sk.map (z_v ad))) := K
      rw [rel.2.2.2.2.2.2.2 (z_RO + f.2.1) (Or.inr (by omega))] at K2
      exact va_ldcS F.1 F.2.1 F.2.2.2.1 (F.2.2.2.2.2.2.2.1.2.1 _ hg) hd K2
theorem va_ldcSw {p : Program} {l : Launch} {e : Env} {R : Room} {s : State} {m : MethodId} {args : Array Value} {below : List Frame} {meth : Method} {c : Code} {H : Heap} {locs : List Loc} {cells slots : Nat} {Q : State → Prop} {pc : Nat} {ls : Array Slot} {rest : List Value} {cc : ByteArray} (hexec : p.tables.exec = Jvm.exec) (hb : c.code = cc) {own tx : String} {index q : Nat} (hown : s.vm.findClass own = some m.cls) (hZ : vk_R own index tx q s) (hdg : decode cc pc = .ok (.ldc_w index, 3))
    (k : W p l e R s m args below meth c H locs cells slots Q (F0 m (pc + 3) ls (.ref q :: rest))) : W p l e R s m args below meth c H locs cells slots Q (F0 m pc ls rest) := by
  intro T hT X
  obtain ⟨t, a1, b1⟩ := k T hT X
  exact ⟨t, X.ldcStringW hexec hown (text := tx) (a := q) hZ.1 hZ.2 (g := F0 m pc ls rest) rfl (by rw [hb]; exact hdg) t a1, b1⟩
theorem zs_ldcw (F : z_Fix zn X d y p R s m args meth c D tc A ad0 n0 sl0 B) {i : Nat} {f : z_I} (hd : decode (z_mc y) pc = .ok (.ldc_w i, 3)) (hg : z_good1 y pc (.ldc_w i, 3, f) = true)
    (hi : z_ldc f 3 (pc, lv, sk, h) = some (st', P)) (k : z_Go y p l e R s m args below meth c Q D tc A ad0 n0 sl0 st') : z_Go y p l e R s m args below meth c Q D tc A ad0 n0 sl0 (pc, lv, sk, h) := by
  have hts := F.2.2.2.2.1
  unfold z_ldc at hi
  try dsimp only at hi
  unfold z_good1 at hg
  dsimp only at hg
  cases h0 : Nat.beq f.1 0 with
  | true =>
    rw [h0] at hi hg
    simp only [cond_true, z_push] at hi hg
    split at hi
    · next o1 j1 v hw =>
      rw [hw] at hg
      simp only [Bool.and_eq_true, decide_eq_true_eq] at hg
      cases hi
      obtain ⟨⟨g1, g2⟩, g3⟩ := hg
      subst g2; subst g3
      intro ad H locs cells slots ls rel
      exact lv_ldcw F.1 F.2.1 F.2.2.2.1 (hts _ (z_W_mem g1)) hd (k ad H locs cells slots ls (rel.stk (fun q => z_okp trivial q)))
    · cases hi
  | false =>
    rw [h0] at hi hg
    simp only [cond_false] at hi hg
    cases hc : (Nat.beq f.1 1 && Nat.ble f.2.1 5) with
    | false => rw [hc] at hi; cases hi
    | true =>
      rw [hc] at hi
      rw [Bool.and_eq_true] at hc
      rw [hc.1] at hg
      simp only [cond_true, z_push, decide_eq_true_eq] at hi hg
      cases hi
      intro ad H locs cells slots ls rel
      have K := k ad H locs cells slots ls (rel.stk (fun q => z_okp (b := .ref (z_RO + f.2.1)) (Or.inr (by omega)) q))
      have K2 : W p l e R s m args below meth c H locs cells slots Q (F0 m (pc + 3) ls (.ref (ad (z_RO + f.2.1)) :: sk.map (z_v ad))) := K
      rw [rel.2.2.2.2.2.2.2 (z_RO + f.2.1) (Or.inr (by omega))] at K2
      exact va_ldcSw F.1 F.2.1 F.2.2.2.1 (F.2.2.2.2.2.2.2.1.2.1 _ hg) hd K2
end ZN
