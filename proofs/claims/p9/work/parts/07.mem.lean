/-! arrays, fields, what is made -/
theorem z_nble {a b : Nat} (h : Nat.ble a b = false) : b < a := by
  rcases Nat.lt_or_ge b a with q | q
  · exact q
  · rw [Nat.ble_eq_true_of_le q] at h; exact absurd h (by decide)
section ZM
variable {zn : Bool} {X : z_X} {d y : Nat} {p : Program} {l : Launch} {e : Env} {R : Room} {s : State} {m : MethodId} {args : Array Value} {below : List Frame} {meth : Method} {c : Code} {Q : State → Prop} {D : va_G} {tc : Nat → ClassId} {A : Nat → Prop} {ad0 : Nat → Nat} {n0 : Nat} {sl0 : Nat × Nat} {B : Nat × Nat}
variable {o : z_O} {pc : Nat} {lv : List (Option Value)} {sk : List Value} {h : z_H} {st' : z_S} {P : Prop}
theorem z_roT (F : z_Fix zn X d y p R s m args meth c D tc A ad0 n0 sl0 B) {a : Nat} {x : Nat × (Nat → Int32)} (hx : z_roI X a = some x) :
    va_T .int (ad0 a) x.1 (fun j => .int (x.2 j)) A s s.heap ∨ (va_X (ad0 a) x.1 x.2 s s.heap ∧ ad0 a < s.heap.size ∧ ¬ A (ad0 a)) := by
  obtain ⟨-, -, -, -, -, -, -, hro, -, -, hX, -⟩ := F
  unfold z_roI at hx
  cases hb : Nat.beq a (z_RO + 300) with
  | true =>
    rw [hb] at hx
    rw [Nat.eq_of_beq_eq_true hb]
    exact Or.inr (hX.2 x hx)
  | false =>
    rw [hb] at hx
    simp only [cond_false] at hx
    cases hc : (Nat.ble (z_RO + 200) a && Nat.ble a (z_RO + 207)) with
    | false => rw [hc] at hx; cases hx
    | true =>
      rw [hc] at hx
      have hx := Option.some.inj hx
      subst hx
      rw [Bool.and_eq_true] at hc
      have h1 := Nat.le_of_ble_eq_true hc.1
      have h2 := Nat.le_of_ble_eq_true hc.2
      have := (hro.2.2.1 (a - (z_RO + 200)) (by omega)).2
      rw [show z_RO + 200 + (a - (z_RO + 200)) = a by omega] at this
      refine Or.inl ?_
      dsimp only
      exact this
theorem z_roBT (F : z_Fix zn X d y p R s m args meth c D tc A ad0 n0 sl0 B) {a : Nat} {x : Nat × (Nat → Int32)} (hx : z_roB a = some x) : va_T .byte (ad0 a) x.1 (fun j => .int (x.2 j)) A s s.heap := by
  obtain ⟨-, -, -, -, -, -, -, hro, -, -, -, -⟩ := F
  unfold z_roB at hx
  cases hc : (Nat.ble (z_RO + 100) a && Nat.ble a (z_RO + 105)) with
  | false => rw [hc] at hx; cases hx
  | true =>
    rw [hc] at hx
    have hx := Option.some.inj hx
    subst hx
    rw [Bool.and_eq_true] at hc
    have h1 := Nat.le_of_ble_eq_true hc.1
    have h2 := Nat.le_of_ble_eq_true hc.2
    have hk : a - (z_RO + 100) < 6 := by omega
    have := (hro.1.1 (a - (z_RO + 100)) hk).2.2.2
    dsimp only at this
    rw [show z_RO + (a - (z_RO + 100)) + 100 = a by omega] at this
    have e1 : (z_byt.map List.length).getD (a - (z_RO + 100)) 0 = (z_byt.getD (a - (z_RO + 100)) []).length := by
      simp only [List.getD_eq_getElem?_getD, List.getElem?_map]
      cases z_byt[a - (z_RO + 100)]? <;> rfl
    rw [e1] at this
    dsimp only
    exact this
theorem z_Rel.adR {ad : Nat → Nat} {st : z_S} {H : Heap} {locs : List Loc} {cells slots : Nat} {ls : Array Slot} (rel : z_Rel y s D tc A ad0 n0 sl0 ad st H locs cells slots ls) {a : Nat} (h : Nat.ble z_RO a = true) : ad a = ad0 a := rel.2.2.2.2.2.2.2 a (Or.inr (Nat.le_of_ble_eq_true h))
theorem z_Rel.at0 {ad : Nat → Nat} {H : Heap} {locs : List Loc} {cells slots a : Nat} {ls : Array Slot} (rel : z_Rel y s D tc A ad0 n0 sl0 ad (pc, lv, sk, h) H locs cells slots ls) (ha : a < h.1) {x : z_E} (hx : h.2.2 a = x) : (z_w ad tc h)[a]? = some (ad a, z_e ad tc x) := by
  rw [← hx]
  exact z_w_at ha
theorem zs_ial (F : z_Fix zn X d y p R s m args meth c D tc A ad0 n0 sl0 B) (hd : decode (z_mc y) pc = .ok (.iaload, 1))
    (hi : z_ial X o (pc, lv, sk, h) = some (st', P)) (hP : P) (k : z_Go y p l e R s m args below meth c Q D tc A ad0 n0 sl0 st') : z_Go y p l e R s m args below meth c Q D tc A ad0 n0 sl0 (pc, lv, sk, h) := by
  unfold z_ial at hi
  try dsimp only at hi
  split at hi
  · next _ j a r =>
    cases hb : z_rc o a with
    | true =>
      rw [hb] at hi
      simp only [cond_true] at hi
      split at hi
      · next x hx =>
        cases hi
        intro ad H locs cells slots ls rel
        have K := k ad H locs cells slots ls (rel.stk (fun q => z_okp trivial (z_okt (z_okt q))))
        show W p l e R s m args below meth c H locs cells slots Q (F0 m pc ls (.int j :: .ref (ad a) :: r.map (z_v ad)))
        rw [rel.adR (z_rct hb)]
        rcases z_roT F hx with q | ⟨q1, q2, q3⟩
        · exact va_ti F.1 F.2.1 q rel.2.2.1 hP rfl hd K
        · exact va_sld F.1 F.2.1 q1 q2 q3 rel.2.2.1 hP hd K
      · cases hi
    | false =>
      rw [hb] at hi
      simp only [cond_false] at hi
      split at hi
      · next n f P0 hx =>
        cases hi
        obtain ⟨h1, h2⟩ := z_cellP hx hP.1
        intro ad H locs cells slots ls rel
        have K := k ad H locs cells slots ls (rel.stk (fun q => z_okp trivial (z_okt (z_okt q))))
        exact va_iald F.1 F.2.1 (z_K1 F.2.2.2.2.2.2.2.2.2.1 (rel.2.2.2.1 a h2 0 _ h1)) rel.1 a 0 (rel.at0 h2 h1) rfl hP.2 hd K
      · cases hi
  · cases hi
theorem zs_bal (F : z_Fix zn X d y p R s m args meth c D tc A ad0 n0 sl0 B) (hd : decode (z_mc y) pc = .ok (.baload, 1))
    (hi : z_bal o (pc, lv, sk, h) = some (st', P)) (hP : P) (k : z_Go y p l e R s m args below meth c Q D tc A ad0 n0 sl0 st') : z_Go y p l e R s m args below meth c Q D tc A ad0 n0 sl0 (pc, lv, sk, h) := by
  unfold z_bal at hi
  try dsimp only at hi
  split at hi
  · next _ j a r =>
    cases hb : z_rc o a with
    | true =>
      rw [hb] at hi
      simp only [cond_true] at hi
      split at hi
      · next x hx =>
        cases hi
        intro ad H locs cells slots ls rel
        have K := k ad H locs cells slots ls (rel.stk (fun q => z_okp trivial (z_okt (z_okt q))))
        show W p l e R s m args below meth c H locs cells slots Q (F0 m pc ls (.int j :: .ref (ad a) :: r.map (z_v ad)))
        rw [rel.adR (z_rct hb)]
        exact va_tb F.1 F.2.1 (z_roBT F hx) rel.2.2.1 hP rfl hd K
      · cases hi
    | false =>
      rw [hb] at hi
      simp only [cond_false] at hi
      split at hi
      · next n f P0 hx =>
        cases hi
        obtain ⟨h1, h2⟩ := z_cellP hx hP.1
        intro ad H locs cells slots ls rel
        have K := k ad H locs cells slots ls (rel.stk (fun q => z_okp trivial (z_okt (z_okt q))))
        exact va_bald F.1 F.2.1 (z_K1 F.2.2.2.2.2.2.2.2.2.1 (rel.2.2.2.1 a h2 2 _ h1)) rel.1 a 0 (rel.at0 h2 h1) rfl hP.2 hd K
      · next n f P0 hx =>
        cases hi
        obtain ⟨h1, h2⟩ := z_cellP hx hP.1
        intro ad H locs cells slots ls rel
        have K := k ad H locs cells slots ls (rel.stk (fun q => z_okp trivial (z_okt (z_okt q))))
        exact va_zald F.1 F.2.1 (z_K1 F.2.2.2.2.2.2.2.2.2.1 (rel.2.2.2.1 a h2 3 _ h1)) rel.1 a 0 (rel.at0 h2 h1) rfl hP.2 hd K
      · cases hi
  · cases hi
theorem zs_lal (F : z_Fix zn X d y p R s m args meth c D tc A ad0 n0 sl0 B) (hd : decode (z_mc y) pc = .ok (.laload, 1))
    (hi : z_lal o (pc, lv, sk, h) = some (st', P)) (hP : P) (k : z_Go y p l e R s m args below meth c Q D tc A ad0 n0 sl0 st') : z_Go y p l e R s m args below meth c Q D tc A ad0 n0 sl0 (pc, lv, sk, h) := by
  unfold z_lal at hi
  try dsimp only at hi
  split at hi
  · next _ j a r =>
    split at hi
    · next n f P0 hx =>
      cases hi
      obtain ⟨h1, h2⟩ := z_cellP hx hP.1
      intro ad H locs cells slots ls rel
      have K := k ad H locs cells slots ls (rel.stk (fun q => z_okp trivial (z_okt (z_okt q))))
      exact va_lald F.1 F.2.1 (z_K1 F.2.2.2.2.2.2.2.2.2.1 (rel.2.2.2.1 a h2 1 _ h1)) rel.1 a 0 (rel.at0 h2 h1) rfl hP.2 hd K
    · cases hi
  · cases hi
theorem zs_aal (F : z_Fix zn X d y p R s m args meth c D tc A ad0 n0 sl0 B) (hd : decode (z_mc y) pc = .ok (.aaload, 1))
    (hi : z_aal o (pc, lv, sk, h) = some (st', P)) (hP : P) (k : z_Go y p l e R s m args below meth c Q D tc A ad0 n0 sl0 st') : z_Go y p l e R s m args below meth c Q D tc A ad0 n0 sl0 (pc, lv, sk, h) := by
  have key : ∀ (t : Nat) (j : Int32) (a n i : Nat) (f : Nat → Option Nat) (r : List Value), (z_ty t).isReference = true → h.2.2 a = .inl (t, n, .inr (.inr (.inr (.inr f)))) → a < h.1 → vp_in j n → f j.toNatClampNeg = some i → sk = .int j :: .ref a :: r → z_Go y p l e R s m args below meth c Q D tc A ad0 n0 sl0 (pc + 1, lv, .ref i :: r, h) → z_Go y p l e R s m args below meth c Q D tc A ad0 n0 sl0 (pc, lv, sk, h) := by
    intro t j a n i f r hty h1 h2 hin hf hs k
    subst hs
    intro ad H locs cells slots ls rel
    have hok : i < h.1 := by
      have := rel.2.2.2.2.2.1.2.2 a h2
      rw [h1] at this
      exact this _ _ hf
    have K := k ad H locs cells slots ls (rel.stk (fun q => z_okp (Or.inl hok) (z_okt (z_okt q))))
    have hlt : j.toNatClampNeg < n := Nat.not_le.mp fun q => hin (Or.inr q)
    have hK := z_K1 F.2.2.2.2.2.2.2.2.2.1 (rel.2.2.2.1 a h2 t _ h1)
    have hat := rel.at0 h2 h1
    refine W.aald (v := .ref (ad i)) (ty := z_ty t) F.1 F.2.1 (rel.1 a _ hat) ((hK.2 0 _ rfl).1 n (fun j => va_rf ((f j).map ad))) hty (fun q => by cases q) (by show ¬ (j < 0 ∨ (arrV (tc t) n (fun j => va_rf ((f j).map ad))).slots.size ≤ _); rw [arrV_size]; exact hin) (by show (arrV (tc t) n (fun j => va_rf ((f j).map ad))).slots[_]? = _; rw [arrV_read _ _ hlt, hf]; rfl) rfl rfl hd K
  unfold z_aal at hi
  try dsimp only at hi
  split at hi
  · next _ j a r =>
    split at hi
    · next n f P0 i hx ho =>
      cases hi
      obtain ⟨h1, h2⟩ := z_cellP hx hP.1
      exact key 5 j a n i f r rfl h1 h2 hP.2.1 hP.2.2 rfl k
    · next n f P0 i hx ho =>
      cases hi
      obtain ⟨h1, h2⟩ := z_cellP hx hP.1
      exact key 4 j a n i f r rfl h1 h2 hP.2.1 hP.2.2 rfl k
    · cases hi
  · cases hi
theorem zs_ias (F : z_Fix zn X d y p R s m args meth c D tc A ad0 n0 sl0 B) (hd : decode (z_mc y) pc = .ok (.iastore, 1))
    (hi : z_ias o (pc, lv, sk, h) = some (st', P)) (hP : P) (k : z_Go y p l e R s m args below meth c Q D tc A ad0 n0 sl0 st') : z_Go y p l e R s m args below meth c Q D tc A ad0 n0 sl0 (pc, lv, sk, h) := by
  unfold z_ias at hi
  try dsimp only at hi
  split at hi
  · next _ x j a r =>
    split at hi
    · next n f P0 hx =>
      cases hi
      obtain ⟨h1, h2⟩ := z_cellP hx hP.1
      intro ad H locs cells slots ls rel
      refine va_iast F.1 F.2.1 (z_K1 F.2.2.2.2.2.2.2.2.2.1 (rel.2.2.2.1 a h2 0 _ h1)) rel.1 rel.2.1 rel.2.2.1 a 0 (rel.at0 h2 h1) rfl hP.2 hd (fun H1 locs1 gP gD gS => ?_)
      exact k ad H1 locs1 cells slots ls (rel.hup (e := .inl (0, n, .inl (upd f j.toNatClampNeg x))) h2 gP gD gS (fun t x e => by cases e; exact ⟨_, h1⟩) (fun _ _ => trivial) (fun q => z_okt (z_okt (z_okt q))))
    · cases hi
  · cases hi
theorem zs_aas (F : z_Fix zn X d y p R s m args meth c D tc A ad0 n0 sl0 B) (hd : decode (z_mc y) pc = .ok (.aastore, 1))
    (hi : z_aas o (pc, lv, sk, h) = some (st', P)) (hP : P) (k : z_Go y p l e R s m args below meth c Q D tc A ad0 n0 sl0 st') : z_Go y p l e R s m args below meth c Q D tc A ad0 n0 sl0 (pc, lv, sk, h) := by
  unfold z_aas at hi
  try dsimp only at hi
  split at hi
  · next _ v j a r =>
    split at hi
    · next n f P0 hx =>
      cases hi
      obtain ⟨h1, h2⟩ := z_cellP hx hP.1
      obtain ⟨hin, hv, vs, hvs⟩ := hP.2
      intro ad H locs cells slots ls rel
      have hK := z_K1 F.2.2.2.2.2.2.2.2.2.1 (rel.2.2.2.1 a h2 4 _ h1)
      have hat := rel.at0 h2 h1
      have hav := rel.at0 hv hvs
      have eup : (fun q => (va_up f j.toNatClampNeg (some v) q).map ad) = va_up (fun q => (f q).map ad) j.toNatClampNeg (some (ad v)) := by
        funext q
        unfold va_up
        by_cases e : q = j.toNatClampNeg
        · rw [if_pos e, if_pos e]; rfl
        · rw [if_neg e, if_neg e]
      have eze : z_e ad tc (.inl (4, n, .inr (.inr (.inr (.inr (va_up f j.toNatClampNeg (some v))))))) = .inl (tc 4, n, .inr (.inr (.inr (.inr (va_up (fun q => (f q).map ad) j.toNatClampNeg (some (ad v))))))) := by
        show Sum.inl (tc 4, n, _) = _
        rw [← eup]
      refine va_astq F.1 F.2.1 hK rel.1 rel.2.1 rel.2.2.1 a 0 v 9 hat rfl hav rfl hin hd (fun H1 locs1 gP gD gS => ?_)
      rw [← eze] at gP gD
      exact k ad H1 locs1 cells slots ls (rel.hup (e := .inl (4, n, .inr (.inr (.inr (.inr (va_up f j.toNatClampNeg (some v))))))) h2 gP gD gS (fun t x e => by cases e; exact ⟨_, h1⟩) (fun _ ho q i hq => by
        unfold va_up at hq
        split at hq
        · cases hq; exact hv
        · exact (by rw [h1] at ho; exact ho q i hq)) (fun q => z_okt (z_okt (z_okt q))))
    · cases hi
  · cases hi
theorem zs_bas (F : z_Fix zn X d y p R s m args meth c D tc A ad0 n0 sl0 B) (hd : decode (z_mc y) pc = .ok (.bastore, 1))
    (hi : z_bas o (pc, lv, sk, h) = some (st', P)) (hP : P) (k : z_Go y p l e R s m args below meth c Q D tc A ad0 n0 sl0 st') : z_Go y p l e R s m args below meth c Q D tc A ad0 n0 sl0 (pc, lv, sk, h) := by
  unfold z_bas at hi
  try dsimp only at hi
  split at hi
  · next _ x j a r =>
    split at hi
    · next n f P0 hx =>
      cases hi
      obtain ⟨h1, h2⟩ := z_cellP hx hP.1
      intro ad H locs cells slots ls rel
      refine va_bast F.1 F.2.1 (z_K1 F.2.2.2.2.2.2.2.2.2.1 (rel.2.2.2.1 a h2 2 _ h1)) rel.1 rel.2.1 rel.2.2.1 a 0 (rel.at0 h2 h1) rfl hP.2 hd (fun H1 locs1 gP gD gS => ?_)
      exact k ad H1 locs1 cells slots ls (rel.hup (e := .inl (2, n, .inl (upd f j.toNatClampNeg (vp_nar .byte x)))) h2 gP gD gS (fun t x e => by cases e; exact ⟨_, h1⟩) (fun _ _ => trivial) (fun q => z_okt (z_okt (z_okt q))))
    · next n f P0 hx =>
      cases hi
      obtain ⟨h1, h2⟩ := z_cellP hx hP.1
      intro ad H locs cells slots ls rel
      refine va_zast F.1 F.2.1 (z_K1 F.2.2.2.2.2.2.2.2.2.1 (rel.2.2.2.1 a h2 3 _ h1)) rel.1 rel.2.1 rel.2.2.1 a 0 (rel.at0 h2 h1) rfl hP.2 hd (fun H1 locs1 gP gD gS => ?_)
      exact k ad H1 locs1 cells slots ls (rel.hup (e := .inl (3, n, .inl (upd f j.toNatClampNeg (vp_nar .boolean x)))) h2 gP gD gS (fun t x e => by cases e; exact ⟨_, h1⟩) (fun _ _ => trivial) (fun q => z_okt (z_okt (z_okt q))))
    · cases hi
  · cases hi
theorem zs_las (F : z_Fix zn X d y p R s m args meth c D tc A ad0 n0 sl0 B) (hd : decode (z_mc y) pc = .ok (.lastore, 1))
    (hi : z_las o (pc, lv, sk, h) = some (st', P)) (hP : P) (k : z_Go y p l e R s m args below meth c Q D tc A ad0 n0 sl0 st') : z_Go y p l e R s m args below meth c Q D tc A ad0 n0 sl0 (pc, lv, sk, h) := by
  unfold z_las at hi
  try dsimp only at hi
  split at hi
  · next _ x j a r =>
    split at hi
    · next n f P0 hx =>
      cases hi
      obtain ⟨h1, h2⟩ := z_cellP hx hP.1
      intro ad H locs cells slots ls rel
      refine va_last F.1 F.2.1 (z_K1 F.2.2.2.2.2.2.2.2.2.1 (rel.2.2.2.1 a h2 1 _ h1)) rel.1 rel.2.1 rel.2.2.1 a 0 (rel.at0 h2 h1) rfl hP.2 hd (fun H1 locs1 gP gD gS => ?_)
      exact k ad H1 locs1 cells slots ls (rel.hup (e := .inl (1, n, .inr (.inl (vp_updL f j.toNatClampNeg x)))) h2 gP gD gS (fun t x e => by cases e; exact ⟨_, h1⟩) (fun _ _ => trivial) (fun q => z_okt (z_okt (z_okt q))))
    · cases hi
  · cases hi
theorem zs_len (F : z_Fix zn X d y p R s m args meth c D tc A ad0 n0 sl0 B) (hd : decode (z_mc y) pc = .ok (.arraylength, 1))
    (hi : z_len X o (pc, lv, sk, h) = some (st', P)) (hP : P) (k : z_Go y p l e R s m args below meth c Q D tc A ad0 n0 sl0 st') : z_Go y p l e R s m args below meth c Q D tc A ad0 n0 sl0 (pc, lv, sk, h) := by
  unfold z_len at hi
  try dsimp only at hi
  split at hi
  · next _ a r =>
    cases hb : z_rc o a with
    | true =>
      rw [hb] at hi
      simp only [cond_true] at hi
      cases hx : z_roI X a with
      | some x =>
        rw [hx] at hi
        have hi := Option.some.inj hi
        cases hi
        intro ad H locs cells slots ls rel
        have K := k ad H locs cells slots ls (rel.stk (fun q => z_okp trivial (z_okt q)))
        show W p l e R s m args below meth c H locs cells slots Q (F0 m pc ls (.ref (ad a) :: r.map (z_v ad)))
        rw [rel.adR (z_rct hb)]
        rcases z_roT F hx with q | ⟨q1, q2, q3⟩
        · exact va_tlen F.1 F.2.1 q rel.2.2.1 rfl hd K
        · exact va_slen F.1 F.2.1 q1 q2 q3 rel.2.2.1 hd K
      | none =>
        rw [hx] at hi
        cases hx : z_roB a with
        | some x =>
          rw [hx] at hi
          have hi := Option.some.inj hi
          cases hi
          intro ad H locs cells slots ls rel
          have K := k ad H locs cells slots ls (rel.stk (fun q => z_okp trivial (z_okt q)))
          show W p l e R s m args below meth c H locs cells slots Q (F0 m pc ls (.ref (ad a) :: r.map (z_v ad)))
          rw [rel.adR (z_rct hb)]
          exact va_tlen F.1 F.2.1 (z_roBT F hx) rel.2.2.1 rfl hd K
        | none =>
          rw [hx] at hi
          cases hi
    | false =>
      rw [hb] at hi
      simp only [cond_false] at hi
      split at hi
      · next t n f P0 hx =>
        cases hi
        obtain ⟨h1, h2⟩ := z_cellP hx hP
        intro ad H locs cells slots ls rel
        have K := k ad H locs cells slots ls (rel.stk (fun q => z_okp trivial (z_okt q)))
        exact va_alen F.1 F.2.1 (z_K1 F.2.2.2.2.2.2.2.2.2.1 (rel.2.2.2.1 a h2 t _ h1)) rel.1 a 0 (x := z_a ad (n, f)) (rel.at0 h2 h1) (ty := z_ty t) rfl rfl hd K
      · cases hi
  · cases hi
theorem zs_gf (F : z_Fix zn X d y p R s m args meth c D tc A ad0 n0 sl0 B) {i : Nat} {f : z_I} (hd : decode (z_mc y) pc = .ok (.getfield i, 3)) (hg : z_good1 y pc (.getfield i, 3, f) = true)
    (hi : z_gf o f (pc, lv, sk, h) = some (st', P)) (hP : P) (k : z_Go y p l e R s m args below meth c Q D tc A ad0 n0 sl0 st') : z_Go y p l e R s m args below meth c Q D tc A ad0 n0 sl0 (pc, lv, sk, h) := by
  have hts := F.2.2.2.2.1
  unfold z_gf at hi
  try dsimp only at hi
  unfold z_good1 at hg
  dsimp only at hg
  split at hi
  · next _ a r =>
    cases hb : z_rc o a with
    | true =>
      rw [hb] at hi
      simp only [cond_true] at hi
      cases hc : (Nat.ble a (z_RO + 5) && Nat.beq f.1 50) with
      | false => rw [hc] at hi; cases hi
      | true =>
        rw [hc] at hi
        simp only [cond_true] at hi
        rw [Bool.and_eq_true] at hc
        have h50 := Nat.eq_of_beq_eq_true hc.2
        have hlo := Nat.le_of_ble_eq_true (z_rct hb)
        have hup := Nat.le_of_ble_eq_true hc.1
        rw [h50] at hg
        have e12 : Nat.ble 50 12 = false := rfl
        have e50 : Nat.beq 50 50 = true := rfl
        rw [e12, e50] at hg
        simp only [cond_false, cond_true] at hg
        have hS := F.2.2.2.2.2.2.2.1.1.1 (a - z_RO) (by omega)
        dsimp only at hS
        rw [show z_RO + (a - z_RO) = a by omega] at hS
        cases hd0 : Nat.beq f.2.1 0 with
        | true =>
          rw [hd0] at hi hg
          cases hi
          simp only [cond_true] at hg
          intro ad H locs cells slots ls rel
          have K := k ad H locs cells slots ls (rel.stk (fun q => z_okp (b := .ref (a + 100)) (Or.inr (by omega)) (z_okt q)))
          show W p l e R s m args below meth c H locs cells slots Q (F0 m pc ls (.ref (ad a) :: r.map (z_v ad)))
          have K2 : W p l e R s m args below meth c H locs cells slots Q (F0 m (pc + 3) ls (.ref (ad (a + 100)) :: r.map (z_v ad))) := K
          rw [rel.2.2.2.2.2.2.2 (a + 100) (Or.inr (by omega))] at K2
          rw [rel.adR (z_rct hb)]
          exact vk_getf F.1 F.2.1 hS.2.2.1 rel.2.2.1 F.2.2.2.1 (hts _ (z_W_mem hg)) (fun _ h9 => h9) hd K2
        | false =>
          rw [hd0] at hi hg
          simp only [cond_false] at hi hg
          cases hd1 : Nat.beq f.2.1 1 with
          | false => rw [hd1] at hi; cases hi
          | true =>
            rw [hd1] at hi hg
            cases hi
            simp only [cond_true] at hg
            intro ad H locs cells slots ls rel
            have K := k ad H locs cells slots ls (rel.stk (fun q => z_okp trivial (z_okt q)))
            show W p l e R s m args below meth c H locs cells slots Q (F0 m pc ls (.ref (ad a) :: r.map (z_v ad)))
            rw [rel.adR (z_rct hb)]
            exact vk_getf F.1 F.2.1 hS.2.1 rel.2.2.1 F.2.2.2.1 (hts _ (z_W_mem hg)) (fun _ h9 => h9) hd K
    | false =>
      rw [hb] at hi
      simp only [cond_false] at hi
      split at hi
      · next ci fs P0 hx =>
        cases hc : (Nat.beq ci f.1 && Nat.ble f.1 12) with
        | false => rw [hc] at hi; cases hi
        | true =>
          rw [hc] at hi
          simp only [cond_true] at hi
          rw [Bool.and_eq_true] at hc
          rw [hc.2] at hg
          simp only [cond_true] at hg
          unfold z_fl at hg
          rw [Bool.and_eq_true, Bool.and_eq_true] at hg
          have eci := Nat.eq_of_beq_eq_true hc.1
          have hle := Nat.le_of_ble_eq_true hc.2
          have hk := Nat.le_of_ble_eq_true hg.1.2
          split at hi
          · next v hv =>
            cases hi
            obtain ⟨h1, h2⟩ := z_cellP hx hP
            intro ad H locs cells slots ls rel
            have hok : z_okv h.1 v := by
              have := rel.2.2.2.2.2.1.2.2 a h2
              dsimp only at this
              rw [h1] at this
              exact this v (List.mem_of_getElem? hv)
            have K := k ad H locs cells slots ls (rel.stk (fun q => z_okp hok (z_okt q)))
            have ha := rel.at0 h2 h1
            rw [eci] at ha
            exact va_get (C := (z_cls f.1).1) (T := (z_cls f.1).2.1) (N := (z_cls f.1).2.2) F.1 F.2.1 hts (z_uws hle) F.2.2.2.1 (z_K0 F.2.2.2.2.2.2.2.2.2.1) rel.1 a (fs := fs.map (z_v ad)) ha (z_cl_at hle) f.2.1 hk (hts _ (z_W_mem hg.2)) (fun _ h9 => h9) (v := z_v ad v) (by rw [List.getElem?_map, hv]; rfl) hd K
          · cases hi
      · cases hi
  · cases hi
theorem zs_pf (F : z_Fix zn X d y p R s m args meth c D tc A ad0 n0 sl0 B) {i : Nat} {f : z_I} (hd : decode (z_mc y) pc = .ok (.putfield i, 3)) (hg : z_good1 y pc (.putfield i, 3, f) = true)
    (hi : z_pf o f (pc, lv, sk, h) = some (st', P)) (hP : P) (k : z_Go y p l e R s m args below meth c Q D tc A ad0 n0 sl0 st') : z_Go y p l e R s m args below meth c Q D tc A ad0 n0 sl0 (pc, lv, sk, h) := by
  have hts := F.2.2.2.2.1
  unfold z_pf at hi
  try dsimp only at hi
  unfold z_good1 at hg
  dsimp only at hg
  split at hi
  · next _ v a r =>
    split at hi
    · next ci fs P0 hx =>
      cases hc : (Nat.beq ci f.1 && Nat.ble f.1 12 && Nat.ble (f.2.1 + 1) fs.length) with
      | false => rw [hc] at hi; cases hi
      | true =>
        rw [hc] at hi
        simp only [cond_true] at hi
        rw [Bool.and_eq_true, Bool.and_eq_true] at hc
        rw [hc.1.2] at hg
        simp only [cond_true] at hg
        rw [Bool.and_eq_true] at hg
        obtain ⟨hg, hfin⟩ := hg
        unfold z_fl at hg
        rw [Bool.and_eq_true, Bool.and_eq_true] at hg
        have eci := Nat.eq_of_beq_eq_true hc.1.1
        have hle := Nat.le_of_ble_eq_true hc.1.2
        have hk := Nat.le_of_ble_eq_true hg.1.2
        have hlen := Nat.le_of_ble_eq_true hc.2
        cases hi
        obtain ⟨hP0, hna, hfi⟩ := hP
        obtain ⟨h1, h2⟩ := z_cellP hx hP0
        subst eci
        intro ad H locs cells slots ls rel
        have ha := rel.at0 h2 h1
        have hgo : ∀ (H1 : Heap) (locs1 : List Loc), va_P D z_cl ((z_w ad tc h).set a (ad a, .inr (f.1, (fs.map (z_v ad)).set f.2.1 (z_v ad v)))) H1 → va_D A ((z_w ad tc h).set a (ad a, .inr (f.1, (fs.map (z_v ad)).set f.2.1 (z_v ad v)))) → va_S A s.heap H1 locs1 → W p l e R s m args below meth c H1 locs1 cells slots Q (F0 m (pc + 3) ls (r.map (z_v ad))) := by
          intro H1 locs1 gP gD gS
          have es : (fs.map (z_v ad)).set f.2.1 (z_v ad v) = (fs.set f.2.1 v).map (z_v ad) := by rw [List.map_set]
          rw [es] at gP gD
          refine k ad H1 locs1 cells slots ls (rel.hup (e := .inr (f.1, fs.set f.2.1 v)) h2 gP gD gS (fun t x e => by cases e) (fun q q2 => ?_) (fun q => z_okt (z_okt q)))
          rw [h1] at q2
          intro w hw
          rcases List.mem_or_eq_of_mem_set hw with z | z
          · exact q2 w z
          · rw [z]; exact z_okh q
        cases hf : ((z_cls f.1).2.1 f.2.1).2.2.2 with
        | false => exact va_put (C := (z_cls f.1).1) (T := (z_cls f.1).2.1) (N := (z_cls f.1).2.2) F.1 F.2.1 hts (z_uws hle) (z_cty f.1) (z_fty hle) (z_fnm hle) F.2.2.2.1 (z_K0 F.2.2.2.2.2.2.2.2.2.1) rel.1 rel.2.1 rel.2.2.1 a (fs := fs.map (z_v ad)) ha (z_cl_at hle) f.2.1 hk (hts _ (z_W_mem hg.2)) (fun _ h9 => h9) hf (z_fty hle _ hk) (z_v_narrow ad _ v hna) (z_v_fits ad _ v hfi) (by rw [List.length_map]; exact hlen) hd hgo
        | true =>
          rw [hf] at hfin
          simp only [cond_true, Bool.and_eq_true, decide_eq_true_eq] at hfin
          exact va_putF (C := (z_cls f.1).1) (T := (z_cls f.1).2.1) (N := (z_cls f.1).2.2) F.1 F.2.1 hts (z_uws hle) (z_cty f.1) (z_fty hle) (z_fnm hle) F.2.2.2.1 (z_K0 F.2.2.2.2.2.2.2.2.2.1) rel.1 rel.2.1 rel.2.2.1 a (fs := fs.map (z_v ad)) ha (z_cl_at hle) f.2.1 hk (hts _ (z_W_mem hg.2)) (fun _ h9 => h9) hf (F.2.2.2.2.2.2.1 hfin.1) hfin.2 (z_fty hle _ hk) (z_v_narrow ad _ v hna) (z_v_fits ad _ v hfi) (by rw [List.length_map]; exact hlen) hd hgo
    · cases hi
  · cases hi
end ZM
