/-! more of it -/
section ZN
variable {zn : Bool} {X : z_X} {d y : Nat} {p : Program} {l : Launch} {e : Env} {R : Room} {s : State} {m : MethodId} {args : Array Value} {below : List Frame} {meth : Method} {c : Code} {Q : State → Prop} {D : va_G} {tc : Nat → ClassId} {A : Nat → Prop} {ad0 : Nat → Nat} {n0 : Nat} {sl0 : Nat × Nat} {B : Nat × Nat}
variable {o : z_O} {pc : Nat} {lv : List (Option Value)} {sk : List Value} {h : z_H} {st' : z_S} {P : Prop}
theorem zs_dup (F : z_Fix zn X d y p R s m args meth c D tc A ad0 n0 sl0 B) (hd : decode (z_mc y) pc = .ok (.dup, 1))
    (hi : z_dup (pc, lv, sk, h) = some (st', P)) (k : z_Go y p l e R s m args below meth c Q D tc A ad0 n0 sl0 st') : z_Go y p l e R s m args below meth c Q D tc A ad0 n0 sl0 (pc, lv, sk, h) := by
  unfold z_dup at hi
  try dsimp only at hi
  split at hi
  · next _ v r =>
    cases hc : z_c2 v with
    | true => rw [hc] at hi; cases hi
    | false =>
      rw [hc] at hi
      cases hi
      intro ad H locs cells slots ls rel
      exact lv_dup F.1 F.2.1 hd (by rw [z_v_cat]; exact (lv_cat v).resolve_right (fun q => by rw [z_c2_iff, hc] at q; cases q)) (k ad H locs cells slots ls (rel.stk (fun q => z_okp (z_okh q) q)))
  · cases hi
theorem zs_pop (F : z_Fix zn X d y p R s m args meth c D tc A ad0 n0 sl0 B) (hd : decode (z_mc y) pc = .ok (.pop, 1))
    (hi : z_pop (pc, lv, sk, h) = some (st', P)) (k : z_Go y p l e R s m args below meth c Q D tc A ad0 n0 sl0 st') : z_Go y p l e R s m args below meth c Q D tc A ad0 n0 sl0 (pc, lv, sk, h) := by
  unfold z_pop at hi
  try dsimp only at hi
  split at hi
  · next _ v r =>
    cases hc : z_c2 v with
    | true => rw [hc] at hi; cases hi
    | false =>
      rw [hc] at hi
      cases hi
      intro ad H locs cells slots ls rel
      exact lv_pop F.1 F.2.1 hd (by rw [z_v_cat]; exact (lv_cat v).resolve_right (fun q => by rw [z_c2_iff, hc] at q; cases q)) (k ad H locs cells slots ls (rel.stk z_okt))
  · cases hi
theorem zs_dup2 (F : z_Fix zn X d y p R s m args meth c D tc A ad0 n0 sl0 B) (hd : decode (z_mc y) pc = .ok (.dup2, 1))
    (hi : z_dup2 (pc, lv, sk, h) = some (st', P)) (k : z_Go y p l e R s m args below meth c Q D tc A ad0 n0 sl0 st') : z_Go y p l e R s m args below meth c Q D tc A ad0 n0 sl0 (pc, lv, sk, h) := by
  unfold z_dup2 at hi
  try dsimp only at hi
  split at hi
  · next _ v w r =>
    cases hc : (z_c2 v || z_c2 w) with
    | true => rw [hc] at hi; cases hi
    | false =>
      rw [hc] at hi
      rw [Bool.or_eq_false_iff] at hc
      cases hi
      intro ad H locs cells slots ls rel
      exact lv_dup2_11 F.1 F.2.1 hd (by rw [z_v_cat]; exact (lv_cat v).resolve_right (fun q => by rw [z_c2_iff, hc.1] at q; cases q)) (by rw [z_v_cat]; exact (lv_cat w).resolve_right (fun q => by rw [z_c2_iff, hc.2] at q; cases q)) (k ad H locs cells slots ls (rel.stk (fun q => z_okp (z_okh q) (z_okp (z_okh (z_okt q)) q))))
  · cases hi
theorem zs_x1 (F : z_Fix zn X d y p R s m args meth c D tc A ad0 n0 sl0 B) (hd : decode (z_mc y) pc = .ok (.dup_x1, 1))
    (hi : z_x1 (pc, lv, sk, h) = some (st', P)) (k : z_Go y p l e R s m args below meth c Q D tc A ad0 n0 sl0 st') : z_Go y p l e R s m args below meth c Q D tc A ad0 n0 sl0 (pc, lv, sk, h) := by
  unfold z_x1 at hi
  try dsimp only at hi
  split at hi
  · next _ v w r =>
    cases hc : (z_c2 v || z_c2 w) with
    | true => rw [hc] at hi; cases hi
    | false =>
      rw [hc] at hi
      rw [Bool.or_eq_false_iff] at hc
      cases hi
      intro ad H locs cells slots ls rel
      exact lv_dup_x1 F.1 F.2.1 hd (by rw [z_v_cat]; exact (lv_cat v).resolve_right (fun q => by rw [z_c2_iff, hc.1] at q; cases q)) (by rw [z_v_cat]; exact (lv_cat w).resolve_right (fun q => by rw [z_c2_iff, hc.2] at q; cases q)) (k ad H locs cells slots ls (rel.stk (fun q => z_okp (z_okh q) (z_okp (z_okh (z_okt q)) (z_okp (z_okh q) (z_okt (z_okt q)))))))
  · cases hi
theorem zs_nn (F : z_Fix zn X d y p R s m args meth c D tc A ad0 n0 sl0 B) {off : Int} (hd : decode (z_mc y) pc = .ok (.ifnonnull off, 3)) (hg : z_tok pc off = true)
    (hi : z_nn (pc, lv, sk, h) off = some (st', P)) (k : z_Go y p l e R s m args below meth c Q D tc A ad0 n0 sl0 st') : z_Go y p l e R s m args below meth c Q D tc A ad0 n0 sl0 (pc, lv, sk, h) := by
  unfold z_nn at hi
  try dsimp only at hi
  split at hi
  · next _ a r =>
    cases hi
    intro ad H locs cells slots ls rel
    exact lv_ifnonnull F.1 F.2.1 hd (of_decide_eq_true hg) (k ad H locs cells slots ls (rel.stk z_okt))
  · next _ r =>
    cases hi
    intro ad H locs cells slots ls rel
    exact lv_ifnonnullN F.1 F.2.1 hd (k ad H locs cells slots ls (rel.stk z_okt))
  · cases hi
end ZN
