/-! more of it -/
section ZN
variable {zn : Bool} {X : z_X} {d y : Nat} {p : Program} {l : Launch} {e : Env} {R : Room} {s : State} {m : MethodId} {args : Array Value} {below : List Frame} {meth : Method} {c : Code} {Q : State → Prop} {D : va_G} {tc : Nat → ClassId} {A : Nat → Prop} {ad0 : Nat → Nat} {n0 : Nat} {sl0 : Nat × Nat} {B : Nat × Nat}
variable {o : z_O} {pc : Nat} {lv : List (Option Value)} {sk : List Value} {h : z_H} {st' : z_S} {P : Prop}
theorem zs_ldc2 (F : z_Fix zn X d y p R s m args meth c D tc A ad0 n0 sl0 B) {i : Nat} {f : z_I} (hd : decode (z_mc y) pc = .ok (.ldc2_w i, 3)) (hg : z_good1 y pc (.ldc2_w i, 3, f) = true)
    (hi : z_ldc2 f (pc, lv, sk, h) = some (st', P)) (k : z_Go y p l e R s m args below meth c Q D tc A ad0 n0 sl0 st') : z_Go y p l e R s m args below meth c Q D tc A ad0 n0 sl0 (pc, lv, sk, h) := by
  have hts := F.2.2.2.2.1
  unfold z_ldc2 at hi
  try dsimp only at hi
  unfold z_good1 at hg
  dsimp only at hg
  cases h0 : Nat.beq f.1 0 with
  | true =>
    rw [h0] at hi hg
    simp only [cond_true, z_push] at hi hg
    split at hi
    · next o1 j1 v hw =>
      rw [hw] at hg
      simp only [Bool.and_eq_true, decide_eq_true_eq] at hg
      cases hi
      obtain ⟨⟨g1, g2⟩, g3⟩ := hg
      subst g2; subst g3
      intro ad H locs cells slots ls rel
      exact lv_ldc2 F.1 F.2.1 F.2.2.2.1 (hts _ (z_W_mem g1)) hd (k ad H locs cells slots ls (rel.stk (fun q => z_okp trivial q)))
    · cases hi
  | false => rw [h0] at hi; cases hi
theorem zs_tsw (F : z_Fix zn X d y p R s m args meth c D tc A ad0 n0 sl0 B) {dd lo hi0 : Int} {offs : Array Int} {len : Nat} (hd : decode (z_mc y) pc = .ok (.tableswitch dd lo hi0 offs, len)) (hg1 : z_tok pc dd = true) (hg2 : offs.toList.all (fun o => z_tok pc o) = true)
    (hi : z_tsw o dd lo hi0 offs (pc, lv, sk, h) = some (st', P)) (hP : P) (k : z_Go y p l e R s m args below meth c Q D tc A ad0 n0 sl0 st') : z_Go y p l e R s m args below meth c Q D tc A ad0 n0 sl0 (pc, lv, sk, h) := by
  unfold z_tsw at hi
  try dsimp only at hi
  split at hi
  · next _ x r =>
    split at hi
    · next hb =>
      split at hi
      · next off hoff =>
        cases hi
        intro ad H locs cells slots ls rel
        have ho2 : (x.toInt - lo).toNat = o.2.1 := by have := hP.1; omega
        exact lv_tableIn F.1 F.2.1 hd (by have := hP.1; omega) hP.2 (by rw [ho2]; exact hoff) (of_decide_eq_true (List.all_eq_true.mp hg2 off (Array.mem_toList_iff.mpr (Array.mem_of_getElem? hoff)))) (k ad H locs cells slots ls (rel.stk z_okt))
      · cases hi
    · cases hi
      intro ad H locs cells slots ls rel
      exact lv_tableOut F.1 F.2.1 hd hP (of_decide_eq_true hg1) (k ad H locs cells slots ls (rel.stk z_okt))
  · cases hi
theorem zs_lsw (F : z_Fix zn X d y p R s m args meth c D tc A ad0 n0 sl0 B) {dd : Int} {ps : Array (Int × Int)} {len : Nat} (hd : decode (z_mc y) pc = .ok (.lookupswitch dd ps, len)) (hg1 : z_tok pc dd = true) (hg2 : ps.toList.all (fun o => z_tok pc o.2) = true) (hg3 : (ps.toList.zip (ps.toList.drop 1)).all (fun (a, next) => a.1 < next.1) = true)
    (hi : z_lsw o dd ps (pc, lv, sk, h) = some (st', P)) (hP : P) (k : z_Go y p l e R s m args below meth c Q D tc A ad0 n0 sl0 st') : z_Go y p l e R s m args below meth c Q D tc A ad0 n0 sl0 (pc, lv, sk, h) := by
  unfold z_lsw at hi
  try dsimp only at hi
  split at hi
  · next _ x r =>
    split at hi
    · next off hoff =>
      cases hi
      have ht : z_tok pc off = true := by
        split at hoff
        · cases hq : ps[o.2.1]? with
          | none => rw [hq] at hoff; cases hoff
          | some z =>
            rw [hq] at hoff
            cases hoff
            exact List.all_eq_true.mp hg2 z (Array.mem_toList_iff.mpr (Array.mem_of_getElem? hq))
        · cases hoff
          exact hg1
      intro ad H locs cells slots ls rel
      exact lv_lookup F.1 F.2.1 hd hg3 hP (of_decide_eq_true ht) (k ad H locs cells slots ls (rel.stk z_okt))
    · cases hi
  · cases hi
end ZN
