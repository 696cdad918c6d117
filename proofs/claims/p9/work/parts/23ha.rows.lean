/-! what is kept, and what is answered, by program (wip/tools/gw5): X8_signsIn_F, X8_append, X11_feed, X11_end, X1_hold, X11_hear, X6_copy_F, X5_forget_F, X11_moveIn, X11_text_0, X11_fault_F, X11_taste_F, X11_crowd -/
set_option maxRecDepth 100000 in
set_option maxHeartbeats 4000000 in
theorem L_X8_signsIn_F_5 (zn : Bool) (d : Nat) {c : Nat × Nat} {mM : zM} (hN : 107 ≤ c.1) (hC : c.1 < z_RO) (a : Int) (r_a : -2147483648 ≤ a ∧ a ≤ 2147483647) (m : zM) (hIm : zI c mM m) (Q : Option Value → z_H → Prop) (K : ∀ (x1 : Int) (x2 : Int), x2 = 24 ∨ x2 = 16 ∨ x2 = 8 ∨ x2 = 0 ∨ x2 = -8 → x1 = zbs a x2 → (x2 < 0 → zbs a x2 = zbs a (-8)) → x2 < 0 → zW zn (d + 0) 110 c (33, [(some (.int (Int32.ofInt a))), (some (.int (Int32.ofInt x1))), (some (.int (Int32.ofInt x2)))], [], zk c m) Q) :
    ∀ (w : Nat) (x1 : Int) (x2 : Int), x2 = 24 ∨ x2 = 16 ∨ x2 = 8 ∨ x2 = 0 ∨ x2 = -8 → x1 = zbs a x2 → (x2 < 0 → zbs a x2 = zbs a (-8)) → w = (x2 + 8).toNat → zW zn (d + 0) 110 c (5, [(some (.int (Int32.ofInt a))), (some (.int (Int32.ofInt x1))), (some (.int (Int32.ofInt x2)))], [], zk c m) Q := by
  intro w
  induction w using Nat.strongRecOn with | _ w ih => ?_
  intro x1 x2 i0 i1 i2 hw
  by_cases b1 : x2 < 0
  · refine zW.step (st1 := (33, [(some (.int (Int32.ofInt a))), (some (.int (Int32.ofInt x1))), (some (.int (Int32.ofInt x2)))], [], zk c m)) (st2 := (33, [(some (.int (Int32.ofInt a))), (some (.int (Int32.ofInt x1))), (some (.int (Int32.ofInt x2)))], [], zk c m)) ⟨[zo, zt], _, rfl, ⟨trivial, zbt ((zi_lt rfl (rfl : (0 : Int32) = Int32.ofInt 0) (by unfold zR; omega) (⟨by decide, by decide⟩ : zR 0)).mpr b1), trivial⟩⟩ rfl ?_
    exact K x1 x2 (by omega) (by first | omega | exact (zbs_0 _).symm) (by exact zbs_e _ _) (by omega)
  · refine zW.step (st1 := (9, [(some (.int (Int32.ofInt a))), (some (.int (Int32.ofInt x1))), (some (.int (Int32.ofInt x2)))], [], zk c m)) (st2 := (9, [(some (.int (Int32.ofInt a))), (some (.int (Int32.ofInt x1))), (some (.int (Int32.ofInt x2)))], [], zk c m)) ⟨[zo, zo], _, rfl, ⟨trivial, zbf (fun q => b1 ((zi_lt rfl (rfl : (0 : Int32) = Int32.ofInt 0) (by unfold zR; omega) (⟨by decide, by decide⟩ : zR 0)).mp q)), trivial⟩⟩ rfl ?_
    have f2 : (-2147483648 : Int) ≤ zb_ushr a x2 ∧ zb_ushr a x2 ≤ 2147483647 := zb_ushrR a x2
    have f3 : (-2147483648 : Int) ≤ zb_and (zb_ushr a x2) 255 ∧ zb_and (zb_ushr a x2) 255 ≤ 2147483647 := zb_andR (zb_ushr a x2) 255
    have f4 := zb_and255 (zb_ushr a x2)
    have f5 := zb_and_le (a := zb_ushr a x2) (b := 255) (by decide) (by decide)
    have q6 := zb_us a x2 (by omega)
    have q7 := zbs_f a x2 (by omega)
    by_cases b8 : (zb_and (zb_ushr a x2) 255) = 0
    · refine zW.step (st1 := (20, [(some (.int (Int32.ofInt a))), (some (.int (Int32.ofInt x1))), (some (.int (Int32.ofInt x2)))], [.int (Int32.ofInt x1)], zk c m)) (st2 := (20, [(some (.int (Int32.ofInt a))), (some (.int (Int32.ofInt x1))), (some (.int (Int32.ofInt x2)))], [.int (Int32.ofInt x1)], zk c m)) ⟨[zo, zo, zo, zo, zo, zo, zo], _, rfl, ⟨trivial, trivial, trivial, trivial, trivial, trivial, zbf (fun q => q ((zi_eq (zi_and (zi_ushr rfl rfl) (by decide : (Int16.ofInt 255).toInt32 = Int32.ofInt 255)) (rfl : (0 : Int32) = Int32.ofInt 0) (zb_andR _ _) (⟨by decide, by decide⟩ : zR 0)).mpr b8)), trivial⟩⟩ rfl ?_
      refine zW.step (st1 := (5, [(some (.int (Int32.ofInt a))), (some (.int ((Int32.ofInt x1) + (Int32.ofInt 0)))), (some (.int ((Int32.ofInt x2) + Int32.ofInt (-8))))], [], zk c m)) (st2 := (5, [(some (.int (Int32.ofInt a))), (some (.int (Int32.ofInt (x1 + 0)))), (some (.int (Int32.ofInt (x2 - 8))))], [], zk c m)) ⟨[zo, zo, zo, zo, zo, zo], _, rfl, ⟨trivial, trivial, trivial, trivial, trivial, trivial, trivial⟩⟩ (z_steq (z_c1 rfl (z_c1 (z_si (zi_add rfl rfl)) (z_c1 (z_si (((zi_add rfl rfl)).trans (congrArg Int32.ofInt (Int.sub_eq_add_neg).symm))) rfl))) rfl rfl) ?_
      exact ih _ (by omega) (x1 + 0) (x2 - 8) (by omega) (by first | omega | exact (zbs_0 _).symm) (by exact zbs_e _ _) rfl
    · refine zW.step (st1 := (24, [(some (.int (Int32.ofInt a))), (some (.int (Int32.ofInt x1))), (some (.int (Int32.ofInt x2)))], [.int (Int32.ofInt x1)], zk c m)) (st2 := (24, [(some (.int (Int32.ofInt a))), (some (.int (Int32.ofInt x1))), (some (.int (Int32.ofInt x2)))], [.int (Int32.ofInt x1)], zk c m)) ⟨[zo, zo, zo, zo, zo, zo, zt], _, rfl, ⟨trivial, trivial, trivial, trivial, trivial, trivial, zbt (fun q => b8 ((zi_eq (zi_and (zi_ushr rfl rfl) (by decide : (Int16.ofInt 255).toInt32 = Int32.ofInt 255)) (rfl : (0 : Int32) = Int32.ofInt 0) (zb_andR _ _) (⟨by decide, by decide⟩ : zR 0)).mp q)), trivial⟩⟩ rfl ?_
      refine zW.step (st1 := (5, [(some (.int (Int32.ofInt a))), (some (.int ((Int32.ofInt x1) + (Int32.ofInt 1)))), (some (.int ((Int32.ofInt x2) + Int32.ofInt (-8))))], [], zk c m)) (st2 := (5, [(some (.int (Int32.ofInt a))), (some (.int (Int32.ofInt (x1 + 1)))), (some (.int (Int32.ofInt (x2 - 8))))], [], zk c m)) ⟨[zo, zo, zo, zo, zo], _, rfl, ⟨trivial, trivial, trivial, trivial, trivial, trivial⟩⟩ (z_steq (z_c1 rfl (z_c1 (z_si (zi_add rfl rfl)) (z_c1 (z_si (((zi_add rfl rfl)).trans (congrArg Int32.ofInt (Int.sub_eq_add_neg).symm))) rfl))) rfl rfl) ?_
      exact ih _ (by omega) (x1 + 1) (x2 - 8) (by omega) (by first | omega | exact (zbs_0 _).symm) (by exact zbs_e _ _) rfl

set_option maxRecDepth 100000 in
set_option maxHeartbeats 4000000 in
theorem S_X8_signsIn_F (zn : Bool) (d : Nat) {c : Nat × Nat} {mM : zM} (hN : 107 ≤ c.1) (hC : c.1 < z_RO) (a : Int) (m : zM) (hIm : zI c mM m) (r_a : -2147483648 ≤ a ∧ a ≤ 2147483647) : zPi zn (d + 1) 110 [.int (Int32.ofInt a)] c m (fun (r : Int) => (r = zbs a (-8)) ∧ (0 ≤ r ∧ r ≤ 4)) := by
  refine zPi.of zu_X8_signsIn hC (Nat.le_of_ble_eq_true rfl) ?_
  show zW zn (d + 0) 110 c (0, [(some (.int (Int32.ofInt a))), none, none], [], zk c m) (fun v h1 => ∃ (r : Int), v = some (.int (Int32.ofInt r)) ∧ h1 = zk c m ∧ (r = zbs a (-8)) ∧ (0 ≤ r ∧ r ≤ 4))
  refine zW.step (st1 := (5, [(some (.int (Int32.ofInt a))), (some (.int (Int32.ofInt 0))), (some (.int ((Int8.ofInt 24).toInt32)))], [], zk c m)) (st2 := (5, [(some (.int (Int32.ofInt a))), (some (.int (Int32.ofInt 0))), (some (.int (Int32.ofInt 24)))], [], zk c m)) ⟨[zo, zo, zo, zo], _, rfl, ⟨trivial, trivial, trivial, trivial, trivial⟩⟩ (z_steq (z_c1 rfl (z_c1 rfl (z_c1 (z_si (by decide : (Int8.ofInt 24).toInt32 = Int32.ofInt 24)) rfl))) rfl rfl) ?_
  refine L_X8_signsIn_F_5 zn _ hN hC a r_a m hIm _ (fun x1_9 x2_9 i0_9 i1_9 i2_9 e_9 => ?_) _ 0 24 (by omega) (by first | omega | exact (zbs_0 _).symm) (by exact zbs_e _ _) rfl
  refine zW.step (st1 := (34, [(some (.int (Int32.ofInt a))), (some (.int (Int32.ofInt x1_9))), (some (.int (Int32.ofInt x2_9)))], [.int (Int32.ofInt x1_9)], zk c m)) (st2 := (34, [(some (.int (Int32.ofInt a))), (some (.int (Int32.ofInt x1_9))), (some (.int (Int32.ofInt x2_9)))], [.int (Int32.ofInt x1_9)], zk c m)) ⟨[zo], _, rfl, ⟨trivial, trivial⟩⟩ rfl ?_
  exact zW.fin (zfin_i rfl rfl rfl) ⟨x1_9, rfl, rfl, (by omega), (by have q9 := zbs_b a (-8); omega)⟩

set_option maxRecDepth 100000 in
set_option maxHeartbeats 4000000 in
theorem L_X8_append_3 (zn : Bool) (d : Nat) {c : Nat × Nat} {mM : zM} (hN : 107 ≤ c.1) (hC : c.1 < z_RO) (a : Int) (r_a : -2147483648 ≤ a ∧ a ≤ 2147483647) (m0 : zM) (Q : Option Value → z_H → Prop) (K : ∀ (x2 : Int) (o3 : Option Value) (m : zM), zI c m m → x2 = 24 ∨ x2 = 16 ∨ x2 = 8 ∨ x2 = 0 ∨ x2 = -8 → zap a 4 (m0 2) (m0 1 1) = zap a ((x2 + 8) / 8).toNat (m 2) (m 1 1) → zN m0 m → zD9 (fun p i => p = 2 ∨ (p = 1 ∧ i = 1)) m0 m → x2 < 0 → zW zn (d + 0) 105 c (55, [(some (.ref 1)), (some (.int (Int32.ofInt a))), (some (.int (Int32.ofInt x2))), o3], [], zk c m) Q) :
    ∀ (w : Nat) (x2 : Int) (o3 : Option Value) (m : zM), zI c m m → x2 = 24 ∨ x2 = 16 ∨ x2 = 8 ∨ x2 = 0 ∨ x2 = -8 → zap a 4 (m0 2) (m0 1 1) = zap a ((x2 + 8) / 8).toNat (m 2) (m 1 1) → zN m0 m → zD9 (fun p i => p = 2 ∨ (p = 1 ∧ i = 1)) m0 m → w = (x2 + 8).toNat → zW zn (d + 0) 105 c (3, [(some (.ref 1)), (some (.int (Int32.ofInt a))), (some (.int (Int32.ofInt x2))), o3], [], zk c m) Q := by
  intro w
  induction w using Nat.strongRecOn with | _ w ih => ?_
  intro x2 o3 m hIm i0 J tN tD hw
  have f1 : (0 : Int) ≤ m 1 1 ∧ m 1 1 ≤ 240 := hIm.1 1 1
  by_cases b2 : x2 < 0
  · refine zW.step (st1 := (55, [(some (.ref 1)), (some (.int (Int32.ofInt a))), (some (.int (Int32.ofInt x2))), o3], [], zk c m)) (st2 := (55, [(some (.ref 1)), (some (.int (Int32.ofInt a))), (some (.int (Int32.ofInt x2))), o3], [], zk c m)) ⟨[zo, zt], _, rfl, ⟨trivial, zbt ((zi_lt rfl (rfl : (0 : Int32) = Int32.ofInt 0) (by unfold zR; omega) (⟨by decide, by decide⟩ : zR 0)).mpr b2), trivial⟩⟩ rfl ?_
    exact K x2 o3 m hIm (by omega) (by exact J) tN tD (by omega)
  · refine zW.step (st1 := (7, [(some (.ref 1)), (some (.int (Int32.ofInt a))), (some (.int (Int32.ofInt x2))), o3], [], zk c m)) (st2 := (7, [(some (.ref 1)), (some (.int (Int32.ofInt a))), (some (.int (Int32.ofInt x2))), o3], [], zk c m)) ⟨[zo, zo], _, rfl, ⟨trivial, zbf (fun q => b2 ((zi_lt rfl (rfl : (0 : Int32) = Int32.ofInt 0) (by unfold zR; omega) (⟨by decide, by decide⟩ : zR 0)).mp q)), trivial⟩⟩ rfl ?_
    have f3 : (-2147483648 : Int) ≤ zb_ushr a x2 ∧ zb_ushr a x2 ≤ 2147483647 := zb_ushrR a x2
    have f4 : (-2147483648 : Int) ≤ zb_and (zb_ushr a x2) 255 ∧ zb_and (zb_ushr a x2) 255 ≤ 2147483647 := zb_andR (zb_ushr a x2) 255
    have f5 := zb_and255 (zb_ushr a x2)
    have f6 := zb_and_le (a := zb_ushr a x2) (b := 255) (by decide) (by decide)
    have q7 := zb_us a x2 (by omega)
    by_cases b8 : (zb_and (zb_ushr a x2) 255) = 0
    · refine zW.step (st1 := (49, [(some (.ref 1)), (some (.int (Int32.ofInt a))), (some (.int (Int32.ofInt x2))), (some (.int ((((Int32.ofInt a).toUInt32 >>> ((Int32.ofInt x2).toUInt32 &&& Int32.toUInt32 31)).toInt32) &&& ((Int16.ofInt 255).toInt32))))], [], zk c m)) (st2 := (49, [(some (.ref 1)), (some (.int (Int32.ofInt a))), (some (.int (Int32.ofInt x2))), (some (.int (Int32.ofInt (zb_and (zb_ushr a x2) 255))))], [], zk c m)) ⟨[zo, zo, zo, zo, zo, zo, zo, zt], _, rfl, ⟨trivial, trivial, trivial, trivial, trivial, trivial, trivial, zbt ((zi_eq (zi_and (zi_ushr rfl rfl) (by decide : (Int16.ofInt 255).toInt32 = Int32.ofInt 255)) (rfl : (0 : Int32) = Int32.ofInt 0) (zb_andR _ _) (⟨by decide, by decide⟩ : zR 0)).mpr b8), trivial⟩⟩ (z_steq (z_c1 rfl (z_c1 rfl (z_c1 rfl (z_c1 (z_si (zi_and (zi_ushr rfl rfl) (by decide : (Int16.ofInt 255).toInt32 = Int32.ofInt 255))) rfl)))) rfl rfl) ?_
      refine zW.step (st1 := (3, [(some (.ref 1)), (some (.int (Int32.ofInt a))), (some (.int ((Int32.ofInt x2) + Int32.ofInt (-8)))), (some (.int (Int32.ofInt (zb_and (zb_ushr a x2) 255))))], [], zk c m)) (st2 := (3, [(some (.ref 1)), (some (.int (Int32.ofInt a))), (some (.int (Int32.ofInt (x2 - 8)))), (some (.int (Int32.ofInt (zb_and (zb_ushr a x2) 255))))], [], zk c m)) ⟨[zo, zo], _, rfl, ⟨trivial, trivial, trivial⟩⟩ (z_steq (z_c1 rfl (z_c1 rfl (z_c1 (z_si (((zi_add rfl rfl)).trans (congrArg Int32.ofInt (Int.sub_eq_add_neg).symm))) rfl))) rfl rfl) ?_
      exact ih _ (by omega) (x2 - 8) (some (.int (Int32.ofInt (zb_and (zb_ushr a x2) 255)))) m hIm (by omega) (by exact zap_l1 J (by omega) (by omega)) tN tD rfl
    · refine zW.step (st1 := (19, [(some (.ref 1)), (some (.int (Int32.ofInt a))), (some (.int (Int32.ofInt x2))), (some (.int ((((Int32.ofInt a).toUInt32 >>> ((Int32.ofInt x2).toUInt32 &&& Int32.toUInt32 31)).toInt32) &&& ((Int16.ofInt 255).toInt32))))], [], zk c m)) (st2 := (19, [(some (.ref 1)), (some (.int (Int32.ofInt a))), (some (.int (Int32.ofInt x2))), (some (.int (Int32.ofInt (zb_and (zb_ushr a x2) 255))))], [], zk c m)) ⟨[zo, zo, zo, zo, zo, zo, zo, zo], _, rfl, ⟨trivial, trivial, trivial, trivial, trivial, trivial, trivial, zbf (fun q => b8 ((zi_eq (zi_and (zi_ushr rfl rfl) (by decide : (Int16.ofInt 255).toInt32 = Int32.ofInt 255)) (rfl : (0 : Int32) = Int32.ofInt 0) (zb_andR _ _) (⟨by decide, by decide⟩ : zR 0)).mp q)), trivial⟩⟩ (z_steq (z_c1 rfl (z_c1 rfl (z_c1 rfl (z_c1 (z_si (zi_and (zi_ushr rfl rfl) (by decide : (Int16.ofInt 255).toInt32 = Int32.ofInt 255))) rfl)))) rfl rfl) ?_
      by_cases b9 : 240 ≤ (m 1 1)
      · refine zW.step (st1 := (49, [(some (.ref 1)), (some (.int (Int32.ofInt a))), (some (.int (Int32.ofInt x2))), (some (.int (Int32.ofInt (zb_and (zb_ushr a x2) 255))))], [], zk c m)) (st2 := (49, [(some (.ref 1)), (some (.int (Int32.ofInt a))), (some (.int (Int32.ofInt x2))), (some (.int (Int32.ofInt (zb_and (zb_ushr a x2) 255))))], [], zk c m)) ⟨[zo, zo, zo, zt], _, rfl, ⟨trivial, (Nat.lt_of_lt_of_le (Nat.le_of_ble_eq_true rfl) hN), trivial, zbt ((zi_le (by decide : (Int16.ofInt 240).toInt32 = Int32.ofInt 240) rfl (⟨by decide, by decide⟩ : zR 240) (by unfold zR; omega)).mpr b9), trivial⟩⟩ rfl ?_
        refine zW.step (st1 := (3, [(some (.ref 1)), (some (.int (Int32.ofInt a))), (some (.int ((Int32.ofInt x2) + Int32.ofInt (-8)))), (some (.int (Int32.ofInt (zb_and (zb_ushr a x2) 255))))], [], zk c m)) (st2 := (3, [(some (.ref 1)), (some (.int (Int32.ofInt a))), (some (.int (Int32.ofInt (x2 - 8)))), (some (.int (Int32.ofInt (zb_and (zb_ushr a x2) 255))))], [], zk c m)) ⟨[zo, zo], _, rfl, ⟨trivial, trivial, trivial⟩⟩ (z_steq (z_c1 rfl (z_c1 rfl (z_c1 (z_si (((zi_add rfl rfl)).trans (congrArg Int32.ofInt (Int.sub_eq_add_neg).symm))) rfl))) rfl rfl) ?_
        exact ih _ (by omega) (x2 - 8) (some (.int (Int32.ofInt (zb_and (zb_ushr a x2) 255)))) m hIm (by omega) (by exact zap_l1 J (by omega) (by omega)) tN tD rfl
      · refine zW.step (st1 := (29, [(some (.ref 1)), (some (.int (Int32.ofInt a))), (some (.int (Int32.ofInt x2))), (some (.int (Int32.ofInt (zb_and (zb_ushr a x2) 255))))], [], zk c m)) (st2 := (29, [(some (.ref 1)), (some (.int (Int32.ofInt a))), (some (.int (Int32.ofInt x2))), (some (.int (Int32.ofInt (zb_and (zb_ushr a x2) 255))))], [], zk c m)) ⟨[zo, zo, zo, zo], _, rfl, ⟨trivial, (Nat.lt_of_lt_of_le (Nat.le_of_ble_eq_true rfl) hN), trivial, zbf (fun q => b9 ((zi_le (by decide : (Int16.ofInt 240).toInt32 = Int32.ofInt 240) rfl (⟨by decide, by decide⟩ : zR 240) (by unfold zR; omega)).mp q)), trivial⟩⟩ rfl ?_
        obtain ⟨m10, hm10⟩ : ∃ q, q = zm_up m 2 ((m 1 1).toNat) (zb_and (zb_ushr a x2) 255) := ⟨_, rfl⟩
        have hIm10 := zI_upS hIm hm10 (by unfold zOb; omega) (show (0 : Int) ≤ (zb_and (zb_ushr a x2) 255) ∧ (zb_and (zb_ushr a x2) 255) ≤ 255 by omega)
        have em10 : m10 2 ((m 1 1).toNat) = (zb_and (zb_ushr a x2) 255) := by rw [hm10]; exact zm_eq
        have f11 : m10 1 1 = m 1 1 := by rw [hm10]; exact zm_ne (by omega)
        have tk12 : zN m0 m10 := by rw [hm10]; exact zN_up tN (by unfold zRow; omega)
        have tk13 : zD9 (fun p i => p = 2 ∨ (p = 1 ∧ i = 1)) m0 m10 := by rw [hm10]; exact zD9_up tD (by first | rfl | omega | (dsimp only; omega))
        refine zW.step (st1 := (39, [(some (.ref 1)), (some (.int (Int32.ofInt a))), (some (.int (Int32.ofInt x2))), (some (.int (Int32.ofInt (zb_and (zb_ushr a x2) 255))))], [], z_hup (zk c m) 2 (.inl (0, 240, .inl (upd (fun j => Int32.ofInt (m 2 j)) (Int32.ofInt (m 1 1)).toNatClampNeg (Int32.ofInt (zb_and (zb_ushr a x2) 255))))))) (st2 := (39, [(some (.ref 1)), (some (.int (Int32.ofInt a))), (some (.int (Int32.ofInt x2))), (some (.int (Int32.ofInt (zb_and (zb_ushr a x2) 255))))], [], zk c m10)) ⟨[zo, zo, zo, zo, zo, (false, 0, none, zh0, some (.inl (0, 240, .inl (fun j => Int32.ofInt (m 2 j)))))], _, rfl, ⟨trivial, (Nat.lt_of_lt_of_le (Nat.le_of_ble_eq_true rfl) hN), trivial, (Nat.lt_of_lt_of_le (Nat.le_of_ble_eq_true rfl) hN), trivial, ⟨zk_ra c m zA_2 (Nat.lt_of_lt_of_le (Nat.le_of_ble_eq_true rfl) hN), zi_in rfl (by omega) (by omega) (by omega)⟩, trivial⟩⟩ (z_steq rfl rfl ((zk_ias c m zA_2 rfl (by unfold zR; omega) rfl).trans (by rw [hm10]))) ?_
        have f14 : (0 : Int) ≤ m10 1 1 ∧ m10 1 1 ≤ 240 := hIm10.1 1 1
        obtain ⟨m15, hm15⟩ : ∃ q, q = zm_up m10 1 1 ((m10 1 1) + 1) := ⟨_, rfl⟩
        have hIm15 := zI_upS hIm10 hm15 (by unfold zOb; omega) (show (0 : Int) ≤ ((m10 1 1) + 1) ∧ ((m10 1 1) + 1) ≤ 240 by omega)
        have em15 : m15 1 1 = ((m10 1 1) + 1) := by rw [hm15]; exact zm_eq
        have tk16 : zN m0 m15 := by rw [hm15]; exact zN_up tk12 (by unfold zRow; omega)
        have tk17 : zD9 (fun p i => p = 2 ∨ (p = 1 ∧ i = 1)) m0 m15 := by rw [hm15]; exact zD9_up tk13 (by first | rfl | omega | (dsimp only; omega))
        clear tk12 tk13
        refine zW.step (st1 := (49, [(some (.ref 1)), (some (.int (Int32.ofInt a))), (some (.int (Int32.ofInt x2))), (some (.int (Int32.ofInt (zb_and (zb_ushr a x2) 255))))], [], z_hup (zk c m10) 1 (.inr (8, [.ref 2, .int ((Int32.ofInt (m10 1 1)) + (Int32.ofInt 1)), .int (Int32.ofInt (m10 1 2)), .int (Int32.ofInt (m10 1 3))])))) (st2 := (49, [(some (.ref 1)), (some (.int (Int32.ofInt a))), (some (.int (Int32.ofInt x2))), (some (.int (Int32.ofInt (zb_and (zb_ushr a x2) 255))))], [], zk c m15)) ⟨[zo, zo, zo, zo, zo, zo], _, rfl, ⟨trivial, trivial, (Nat.lt_of_lt_of_le (Nat.le_of_ble_eq_true rfl) hN), trivial, trivial, ⟨(Nat.lt_of_lt_of_le (Nat.le_of_ble_eq_true rfl) hN), rfl, rfl⟩, trivial⟩⟩ (z_steq rfl rfl ((zk_up c m10 1 1 ((m10 1 1) + 1) _ ((congrArg (fun q => (.inr (8, [.ref 2, .int q, .int (Int32.ofInt (m10 1 2)), .int (Int32.ofInt (m10 1 3))]) : z_E)) (zi_add rfl rfl)).trans rfl)).trans (by rw [hm15]))) ?_
        refine zW.step (st1 := (3, [(some (.ref 1)), (some (.int (Int32.ofInt a))), (some (.int ((Int32.ofInt x2) + Int32.ofInt (-8)))), (some (.int (Int32.ofInt (zb_and (zb_ushr a x2) 255))))], [], zk c m15)) (st2 := (3, [(some (.ref 1)), (some (.int (Int32.ofInt a))), (some (.int (Int32.ofInt (x2 - 8)))), (some (.int (Int32.ofInt (zb_and (zb_ushr a x2) 255))))], [], zk c m15)) ⟨[zo, zo], _, rfl, ⟨trivial, trivial, trivial⟩⟩ (z_steq (z_c1 rfl (z_c1 rfl (z_c1 (z_si (((zi_add rfl rfl)).trans (congrArg Int32.ofInt (Int.sub_eq_add_neg).symm))) rfl))) rfl rfl) ?_
        exact ih _ (by omega) (x2 - 8) (some (.int (Int32.ofInt (zb_and (zb_ushr a x2) 255)))) m15 hIm15 (by omega) (by exact zap_l2 J (by omega) (by omega) (by omega) (by rw [hm15, zup_o (by decide), hm10, zvu_up]; exact zvuc rfl (by omega)) (by omega)) tk16 tk17 rfl

set_option maxRecDepth 100000 in
set_option maxHeartbeats 4000000 in
theorem S_X8_append (zn : Bool) (d : Nat) {c : Nat × Nat} {mM : zM} (hN : 107 ≤ c.1) (hC : c.1 < z_RO) (a : Int) (m : zM) (hIm : zI c mM m) (r_a : -2147483648 ≤ a ∧ a ≤ 2147483647) : zCv zn (d + 1) 105 [.ref 1, .int (Int32.ofInt a)] c m (fun (m1 : zM) => zI c m1 m1 ∧ (m1 2 = (zap a 4 (m 2) (m 1 1)).1 ∧ m1 1 1 = (zap a 4 (m 2) (m 1 1)).2) ∧ zN m m1 ∧ zD9 (fun p i => p = 2 ∨ (p = 1 ∧ i = 1)) m m1) := by
  refine zCv.of zu_X8_append hC (Nat.le_of_ble_eq_true rfl) ?_
  show zW zn (d + 0) 105 c (0, [(some (.ref 1)), (some (.int (Int32.ofInt a))), none, none], [], zk c m) (fun v h1 => ∃ (m1 : zM), v = none ∧ h1 = zk c m1 ∧ zI c m1 m1 ∧ (m1 2 = (zap a 4 (m 2) (m 1 1)).1 ∧ m1 1 1 = (zap a 4 (m 2) (m 1 1)).2) ∧ zN m m1 ∧ zD9 (fun p i => p = 2 ∨ (p = 1 ∧ i = 1)) m m1)
  have f18 : (0 : Int) ≤ m 1 1 ∧ m 1 1 ≤ 240 := hIm.1 1 1
  refine zW.step (st1 := (3, [(some (.ref 1)), (some (.int (Int32.ofInt a))), (some (.int ((Int8.ofInt 24).toInt32))), none], [], zk c m)) (st2 := (3, [(some (.ref 1)), (some (.int (Int32.ofInt a))), (some (.int (Int32.ofInt 24))), none], [], zk c m)) ⟨[zo, zo], _, rfl, ⟨trivial, trivial, trivial⟩⟩ (z_steq (z_c1 rfl (z_c1 rfl (z_c1 (z_si (by decide : (Int8.ofInt 24).toInt32 = Int32.ofInt 24)) rfl))) rfl rfl) ?_
  refine L_X8_append_3 (mM := m) zn _ hN hC a r_a m _ (fun x2_19 o3_19 m_19 hIm_19 i0_19 J_19 tN_19 tD_19 e_19 => ?_) _ 24 none m (zI_self hIm) (by omega) (by exact zap_0 _ _ _) zN_rf zD9_rf rfl
  have f20 : (0 : Int) ≤ m_19 1 1 ∧ m_19 1 1 ≤ 240 := hIm_19.1 1 1
  exact zW.fin (zfin_v rfl rfl) ⟨m_19, rfl, rfl, (zI_self hIm_19), (by exact zap_e J_19 (by omega)), tN_19, tD_19⟩

set_option maxRecDepth 100000 in
set_option maxHeartbeats 4000000 in
theorem S_X11_feed (zn : Bool) (d : Nat) {c : Nat × Nat} {mM : zM} (hN : 107 ≤ c.1) (hC : c.1 < z_RO) (a1 : Int) (a2 : Int) (a3 : Int) (a4 : Int) (a5 : Int) (m : zM) (hIm : zI c mM m) (r_a1 : -2147483648 ≤ a1 ∧ a1 ≤ 2147483647) (r_a2 : -2147483648 ≤ a2 ∧ a2 ≤ 2147483647) (r_a3 : -2147483648 ≤ a3 ∧ a3 ≤ 2147483647) (r_a4 : -2147483648 ≤ a4 ∧ a4 ≤ 2147483647) (r_a5 : -2147483648 ≤ a5 ∧ a5 ≤ 2147483647) : zCi zn (d + 2) 141 [.ref 0, .int (Int32.ofInt a1), .int (Int32.ofInt a2), .int (Int32.ofInt a3), .int (Int32.ofInt a4), .int (Int32.ofInt a5)] c m (fun (r : Int) (m1 : zM) => zI c m1 m1 ∧ (-1 ≤ r ∧ r ≤ 240) ∧ (240 < m 1 1 + (zfs a1 a2 a3 a4 a5) → r = -1) ∧ (m 1 1 + (zfs a1 a2 a3 a4 a5) ≤ 240 → r = m1 1 1) ∧ ((m1 2, m1 1 1) = zfd a1 a2 a3 a4 a5 (m 2, m 1 1)) ∧ zN m m1 ∧ zD9 (fun p i => p = 2 ∨ (p = 1 ∧ i = 1)) m m1) := by
  refine zCi.of zu_X11_feed hC (Nat.le_of_ble_eq_true rfl) ?_
  show zW zn (d + 1) 141 c (0, [(some (.ref 0)), (some (.int (Int32.ofInt a1))), (some (.int (Int32.ofInt a2))), (some (.int (Int32.ofInt a3))), (some (.int (Int32.ofInt a4))), (some (.int (Int32.ofInt a5))), none], [], zk c m) (fun v h1 => ∃ (r : Int) (m1 : zM), v = some (.int (Int32.ofInt r)) ∧ h1 = zk c m1 ∧ zI c m1 m1 ∧ (-1 ≤ r ∧ r ≤ 240) ∧ (240 < m 1 1 + (zfs a1 a2 a3 a4 a5) → r = -1) ∧ (m 1 1 + (zfs a1 a2 a3 a4 a5) ≤ 240 → r = m1 1 1) ∧ ((m1 2, m1 1 1) = zfd a1 a2 a3 a4 a5 (m 2, m 1 1)) ∧ zN m m1 ∧ zD9 (fun p i => p = 2 ∨ (p = 1 ∧ i = 1)) m m1)
  have f1 : (0 : Int) ≤ m 1 1 ∧ m 1 1 ≤ 240 := hIm.1 1 1
  have q2 := zfs_e a1 a2 a3 a4 a5
  refine zW.step (st1 := (1, [(some (.ref 0)), (some (.int (Int32.ofInt a1))), (some (.int (Int32.ofInt a2))), (some (.int (Int32.ofInt a3))), (some (.int (Int32.ofInt a4))), (some (.int (Int32.ofInt a5))), none], [.int (Int32.ofInt a1)], zk c m)) (st2 := (1, [(some (.ref 0)), (some (.int (Int32.ofInt a1))), (some (.int (Int32.ofInt a2))), (some (.int (Int32.ofInt a3))), (some (.int (Int32.ofInt a4))), (some (.int (Int32.ofInt a5))), none], [.int (Int32.ofInt a1)], zk c m)) ⟨[zo], _, rfl, ⟨trivial, trivial⟩⟩ rfl ?_
  obtain ⟨r3, hs3, q_3, q2_3⟩ := S_X8_signsIn_F zn (d + 0) hN hC a1 m hIm (by omega)
  refine zW.step (st1 := (4, [(some (.ref 0)), (some (.int (Int32.ofInt a1))), (some (.int (Int32.ofInt a2))), (some (.int (Int32.ofInt a3))), (some (.int (Int32.ofInt a4))), (some (.int (Int32.ofInt a5))), none], [.int (Int32.ofInt r3)], zk c m)) ⟨[zc (some (.int (Int32.ofInt r3))) (zk c m)], _, rfl, ⟨⟨(Nat.le_of_ble_eq_true rfl), hs3, (Nat.le_of_ble_eq_true rfl), Nat.le_refl _, Nat.le_refl _, Nat.le_refl _, Nat.le_refl _⟩, trivial⟩⟩ rfl ?_
  refine zW.step (st1 := (5, [(some (.ref 0)), (some (.int (Int32.ofInt a1))), (some (.int (Int32.ofInt a2))), (some (.int (Int32.ofInt a3))), (some (.int (Int32.ofInt a4))), (some (.int (Int32.ofInt a5))), none], [.int (Int32.ofInt a2), .int (Int32.ofInt r3)], zk c m)) (st2 := (5, [(some (.ref 0)), (some (.int (Int32.ofInt a1))), (some (.int (Int32.ofInt a2))), (some (.int (Int32.ofInt a3))), (some (.int (Int32.ofInt a4))), (some (.int (Int32.ofInt a5))), none], [.int (Int32.ofInt a2), .int (Int32.ofInt r3)], zk c m)) ⟨[zo], _, rfl, ⟨trivial, trivial⟩⟩ rfl ?_
  obtain ⟨r4, hs4, q_4, q2_4⟩ := S_X8_signsIn_F zn (d + 0) hN hC a2 m hIm (by omega)
  refine zW.step (st1 := (8, [(some (.ref 0)), (some (.int (Int32.ofInt a1))), (some (.int (Int32.ofInt a2))), (some (.int (Int32.ofInt a3))), (some (.int (Int32.ofInt a4))), (some (.int (Int32.ofInt a5))), none], [.int (Int32.ofInt r4), .int (Int32.ofInt r3)], zk c m)) ⟨[zc (some (.int (Int32.ofInt r4))) (zk c m)], _, rfl, ⟨⟨(Nat.le_of_ble_eq_true rfl), hs4, (Nat.le_of_ble_eq_true rfl), Nat.le_refl _, Nat.le_refl _, Nat.le_refl _, Nat.le_refl _⟩, trivial⟩⟩ rfl ?_
  refine zW.step (st1 := (10, [(some (.ref 0)), (some (.int (Int32.ofInt a1))), (some (.int (Int32.ofInt a2))), (some (.int (Int32.ofInt a3))), (some (.int (Int32.ofInt a4))), (some (.int (Int32.ofInt a5))), none], [.int (Int32.ofInt a3), .int ((Int32.ofInt r3) + (Int32.ofInt r4))], zk c m)) (st2 := (10, [(some (.ref 0)), (some (.int (Int32.ofInt a1))), (some (.int (Int32.ofInt a2))), (some (.int (Int32.ofInt a3))), (some (.int (Int32.ofInt a4))), (some (.int (Int32.ofInt a5))), none], [.int (Int32.ofInt a3), .int (Int32.ofInt (r3 + r4))], zk c m)) ⟨[zo, zo], _, rfl, ⟨trivial, trivial, trivial⟩⟩ (z_steq rfl (z_c1 rfl (z_c1 (z_vi (zi_add rfl rfl)) rfl)) rfl) ?_
  obtain ⟨r5, hs5, q_5, q2_5⟩ := S_X8_signsIn_F zn (d + 0) hN hC a3 m hIm (by omega)
  refine zW.step (st1 := (13, [(some (.ref 0)), (some (.int (Int32.ofInt a1))), (some (.int (Int32.ofInt a2))), (some (.int (Int32.ofInt a3))), (some (.int (Int32.ofInt a4))), (some (.int (Int32.ofInt a5))), none], [.int (Int32.ofInt r5), .int (Int32.ofInt (r3 + r4))], zk c m)) ⟨[zc (some (.int (Int32.ofInt r5))) (zk c m)], _, rfl, ⟨⟨(Nat.le_of_ble_eq_true rfl), hs5, (Nat.le_of_ble_eq_true rfl), Nat.le_refl _, Nat.le_refl _, Nat.le_refl _, Nat.le_refl _⟩, trivial⟩⟩ rfl ?_
  refine zW.step (st1 := (16, [(some (.ref 0)), (some (.int (Int32.ofInt a1))), (some (.int (Int32.ofInt a2))), (some (.int (Int32.ofInt a3))), (some (.int (Int32.ofInt a4))), (some (.int (Int32.ofInt a5))), none], [.int (Int32.ofInt a4), .int ((Int32.ofInt (r3 + r4)) + (Int32.ofInt r5))], zk c m)) (st2 := (16, [(some (.ref 0)), (some (.int (Int32.ofInt a1))), (some (.int (Int32.ofInt a2))), (some (.int (Int32.ofInt a3))), (some (.int (Int32.ofInt a4))), (some (.int (Int32.ofInt a5))), none], [.int (Int32.ofInt a4), .int (Int32.ofInt ((r3 + r4) + r5))], zk c m)) ⟨[zo, zo], _, rfl, ⟨trivial, trivial, trivial⟩⟩ (z_steq rfl (z_c1 rfl (z_c1 (z_vi (zi_add rfl rfl)) rfl)) rfl) ?_
  obtain ⟨r6, hs6, q_6, q2_6⟩ := S_X8_signsIn_F zn (d + 0) hN hC a4 m hIm (by omega)
  refine zW.step (st1 := (19, [(some (.ref 0)), (some (.int (Int32.ofInt a1))), (some (.int (Int32.ofInt a2))), (some (.int (Int32.ofInt a3))), (some (.int (Int32.ofInt a4))), (some (.int (Int32.ofInt a5))), none], [.int (Int32.ofInt r6), .int (Int32.ofInt ((r3 + r4) + r5))], zk c m)) ⟨[zc (some (.int (Int32.ofInt r6))) (zk c m)], _, rfl, ⟨⟨(Nat.le_of_ble_eq_true rfl), hs6, (Nat.le_of_ble_eq_true rfl), Nat.le_refl _, Nat.le_refl _, Nat.le_refl _, Nat.le_refl _⟩, trivial⟩⟩ rfl ?_
  refine zW.step (st1 := (22, [(some (.ref 0)), (some (.int (Int32.ofInt a1))), (some (.int (Int32.ofInt a2))), (some (.int (Int32.ofInt a3))), (some (.int (Int32.ofInt a4))), (some (.int (Int32.ofInt a5))), none], [.int (Int32.ofInt a5), .int ((Int32.ofInt ((r3 + r4) + r5)) + (Int32.ofInt r6))], zk c m)) (st2 := (22, [(some (.ref 0)), (some (.int (Int32.ofInt a1))), (some (.int (Int32.ofInt a2))), (some (.int (Int32.ofInt a3))), (some (.int (Int32.ofInt a4))), (some (.int (Int32.ofInt a5))), none], [.int (Int32.ofInt a5), .int (Int32.ofInt (((r3 + r4) + r5) + r6))], zk c m)) ⟨[zo, zo], _, rfl, ⟨trivial, trivial, trivial⟩⟩ (z_steq rfl (z_c1 rfl (z_c1 (z_vi (zi_add rfl rfl)) rfl)) rfl) ?_
  obtain ⟨r7, hs7, q_7, q2_7⟩ := S_X8_signsIn_F zn (d + 0) hN hC a5 m hIm (by omega)
  refine zW.step (st1 := (25, [(some (.ref 0)), (some (.int (Int32.ofInt a1))), (some (.int (Int32.ofInt a2))), (some (.int (Int32.ofInt a3))), (some (.int (Int32.ofInt a4))), (some (.int (Int32.ofInt a5))), none], [.int (Int32.ofInt r7), .int (Int32.ofInt (((r3 + r4) + r5) + r6))], zk c m)) ⟨[zc (some (.int (Int32.ofInt r7))) (zk c m)], _, rfl, ⟨⟨(Nat.le_of_ble_eq_true rfl), hs7, (Nat.le_of_ble_eq_true rfl), Nat.le_refl _, Nat.le_refl _, Nat.le_refl _, Nat.le_refl _⟩, trivial⟩⟩ rfl ?_
  by_cases b8 : ((m 1 1) + ((((r3 + r4) + r5) + r6) + r7)) ≤ 240
  · refine zW.step (st1 := (46, [(some (.ref 0)), (some (.int (Int32.ofInt a1))), (some (.int (Int32.ofInt a2))), (some (.int (Int32.ofInt a3))), (some (.int (Int32.ofInt a4))), (some (.int (Int32.ofInt a5))), (some (.int ((Int32.ofInt (((r3 + r4) + r5) + r6)) + (Int32.ofInt r7))))], [], zk c m)) (st2 := (46, [(some (.ref 0)), (some (.int (Int32.ofInt a1))), (some (.int (Int32.ofInt a2))), (some (.int (Int32.ofInt a3))), (some (.int (Int32.ofInt a4))), (some (.int (Int32.ofInt a5))), (some (.int (Int32.ofInt ((((r3 + r4) + r5) + r6) + r7))))], [], zk c m)) ⟨[zo, zo, zo, zo, zo, zo, zo, zo, zt], _, rfl, ⟨trivial, trivial, trivial, (Nat.lt_of_lt_of_le (Nat.le_of_ble_eq_true rfl) hN), (Nat.lt_of_lt_of_le (Nat.le_of_ble_eq_true rfl) hN), trivial, trivial, trivial, zbt ((zi_le (zi_add rfl (zi_add rfl rfl)) (by decide : (Int16.ofInt 240).toInt32 = Int32.ofInt 240) (by unfold zR; omega) (⟨by decide, by decide⟩ : zR 240)).mpr b8), trivial⟩⟩ (z_steq (z_c1 rfl (z_c1 rfl (z_c1 rfl (z_c1 rfl (z_c1 rfl (z_c1 rfl (z_c1 (z_si (zi_add rfl rfl)) rfl))))))) rfl rfl) ?_
    refine zW.step (st1 := (51, [(some (.ref 0)), (some (.int (Int32.ofInt a1))), (some (.int (Int32.ofInt a2))), (some (.int (Int32.ofInt a3))), (some (.int (Int32.ofInt a4))), (some (.int (Int32.ofInt a5))), (some (.int (Int32.ofInt ((((r3 + r4) + r5) + r6) + r7))))], [.int (Int32.ofInt a1), .ref 1], zk c m)) (st2 := (51, [(some (.ref 0)), (some (.int (Int32.ofInt a1))), (some (.int (Int32.ofInt a2))), (some (.int (Int32.ofInt a3))), (some (.int (Int32.ofInt a4))), (some (.int (Int32.ofInt a5))), (some (.int (Int32.ofInt ((((r3 + r4) + r5) + r6) + r7))))], [.int (Int32.ofInt a1), .ref 1], zk c m)) ⟨[zo, zo, zo], _, rfl, ⟨trivial, (Nat.lt_of_lt_of_le (Nat.le_of_ble_eq_true rfl) hN), trivial, trivial⟩⟩ rfl ?_
    obtain ⟨m9, hs9, hIm9, t_9, kN_9, kD_9⟩ := S_X8_append zn (d + 0) hN hC a1 m hIm (by omega)
    refine zW.step (st1 := (54, [(some (.ref 0)), (some (.int (Int32.ofInt a1))), (some (.int (Int32.ofInt a2))), (some (.int (Int32.ofInt a3))), (some (.int (Int32.ofInt a4))), (some (.int (Int32.ofInt a5))), (some (.int (Int32.ofInt ((((r3 + r4) + r5) + r6) + r7))))], [], zk c m9)) ⟨[zc (none) (zk c m9)], _, rfl, ⟨⟨⟨(Nat.lt_of_lt_of_le (Nat.le_of_ble_eq_true rfl) hN), (Nat.le_of_ble_eq_true rfl)⟩, hs9, (Nat.le_of_ble_eq_true rfl), Nat.le_refl _, Nat.le_refl _, Nat.le_refl _, Nat.le_refl _⟩, trivial⟩⟩ rfl ?_
    have f10 : (0 : Int) ≤ m9 1 1 ∧ m9 1 1 ≤ 240 := hIm9.1 1 1
    have tk11 : zN m m9 := zN_tr zN_rf kN_9
    have tk12 : zD9 (fun p i => p = 2 ∨ (p = 1 ∧ i = 1)) m m9 := zD9_tr zD9_rf kD_9
    refine zW.step (st1 := (59, [(some (.ref 0)), (some (.int (Int32.ofInt a1))), (some (.int (Int32.ofInt a2))), (some (.int (Int32.ofInt a3))), (some (.int (Int32.ofInt a4))), (some (.int (Int32.ofInt a5))), (some (.int (Int32.ofInt ((((r3 + r4) + r5) + r6) + r7))))], [.int (Int32.ofInt a2), .ref 1], zk c m9)) (st2 := (59, [(some (.ref 0)), (some (.int (Int32.ofInt a1))), (some (.int (Int32.ofInt a2))), (some (.int (Int32.ofInt a3))), (some (.int (Int32.ofInt a4))), (some (.int (Int32.ofInt a5))), (some (.int (Int32.ofInt ((((r3 + r4) + r5) + r6) + r7))))], [.int (Int32.ofInt a2), .ref 1], zk c m9)) ⟨[zo, zo, zo], _, rfl, ⟨trivial, (Nat.lt_of_lt_of_le (Nat.le_of_ble_eq_true rfl) hN), trivial, trivial⟩⟩ rfl ?_
    obtain ⟨m13, hs13, hIm13, t_13, kN_13, kD_13⟩ := S_X8_append zn (d + 0) hN hC a2 m9 hIm9 (by omega)
    refine zW.step (st1 := (62, [(some (.ref 0)), (some (.int (Int32.ofInt a1))), (some (.int (Int32.ofInt a2))), (some (.int (Int32.ofInt a3))), (some (.int (Int32.ofInt a4))), (some (.int (Int32.ofInt a5))), (some (.int (Int32.ofInt ((((r3 + r4) + r5) + r6) + r7))))], [], zk c m13)) ⟨[zc (none) (zk c m13)], _, rfl, ⟨⟨⟨(Nat.lt_of_lt_of_le (Nat.le_of_ble_eq_true rfl) hN), (Nat.le_of_ble_eq_true rfl)⟩, hs13, (Nat.le_of_ble_eq_true rfl), Nat.le_refl _, Nat.le_refl _, Nat.le_refl _, Nat.le_refl _⟩, trivial⟩⟩ rfl ?_
    have f14 : (0 : Int) ≤ m13 1 1 ∧ m13 1 1 ≤ 240 := hIm13.1 1 1
    have tk15 : zN m m13 := zN_tr tk11 kN_13
    have tk16 : zD9 (fun p i => p = 2 ∨ (p = 1 ∧ i = 1)) m m13 := zD9_tr tk12 kD_13
    refine zW.step (st1 := (67, [(some (.ref 0)), (some (.int (Int32.ofInt a1))), (some (.int (Int32.ofInt a2))), (some (.int (Int32.ofInt a3))), (some (.int (Int32.ofInt a4))), (some (.int (Int32.ofInt a5))), (some (.int (Int32.ofInt ((((r3 + r4) + r5) + r6) + r7))))], [.int (Int32.ofInt a3), .ref 1], zk c m13)) (st2 := (67, [(some (.ref 0)), (some (.int (Int32.ofInt a1))), (some (.int (Int32.ofInt a2))), (some (.int (Int32.ofInt a3))), (some (.int (Int32.ofInt a4))), (some (.int (Int32.ofInt a5))), (some (.int (Int32.ofInt ((((r3 + r4) + r5) + r6) + r7))))], [.int (Int32.ofInt a3), .ref 1], zk c m13)) ⟨[zo, zo, zo], _, rfl, ⟨trivial, (Nat.lt_of_lt_of_le (Nat.le_of_ble_eq_true rfl) hN), trivial, trivial⟩⟩ rfl ?_
    obtain ⟨m17, hs17, hIm17, t_17, kN_17, kD_17⟩ := S_X8_append zn (d + 0) hN hC a3 m13 hIm13 (by omega)
    refine zW.step (st1 := (70, [(some (.ref 0)), (some (.int (Int32.ofInt a1))), (some (.int (Int32.ofInt a2))), (some (.int (Int32.ofInt a3))), (some (.int (Int32.ofInt a4))), (some (.int (Int32.ofInt a5))), (some (.int (Int32.ofInt ((((r3 + r4) + r5) + r6) + r7))))], [], zk c m17)) ⟨[zc (none) (zk c m17)], _, rfl, ⟨⟨⟨(Nat.lt_of_lt_of_le (Nat.le_of_ble_eq_true rfl) hN), (Nat.le_of_ble_eq_true rfl)⟩, hs17, (Nat.le_of_ble_eq_true rfl), Nat.le_refl _, Nat.le_refl _, Nat.le_refl _, Nat.le_refl _⟩, trivial⟩⟩ rfl ?_
    have f18 : (0 : Int) ≤ m17 1 1 ∧ m17 1 1 ≤ 240 := hIm17.1 1 1
    have tk19 : zN m m17 := zN_tr tk15 kN_17
    have tk20 : zD9 (fun p i => p = 2 ∨ (p = 1 ∧ i = 1)) m m17 := zD9_tr tk16 kD_17
    refine zW.step (st1 := (76, [(some (.ref 0)), (some (.int (Int32.ofInt a1))), (some (.int (Int32.ofInt a2))), (some (.int (Int32.ofInt a3))), (some (.int (Int32.ofInt a4))), (some (.int (Int32.ofInt a5))), (some (.int (Int32.ofInt ((((r3 + r4) + r5) + r6) + r7))))], [.int (Int32.ofInt a4), .ref 1], zk c m17)) (st2 := (76, [(some (.ref 0)), (some (.int (Int32.ofInt a1))), (some (.int (Int32.ofInt a2))), (some (.int (Int32.ofInt a3))), (some (.int (Int32.ofInt a4))), (some (.int (Int32.ofInt a5))), (some (.int (Int32.ofInt ((((r3 + r4) + r5) + r6) + r7))))], [.int (Int32.ofInt a4), .ref 1], zk c m17)) ⟨[zo, zo, zo], _, rfl, ⟨trivial, (Nat.lt_of_lt_of_le (Nat.le_of_ble_eq_true rfl) hN), trivial, trivial⟩⟩ rfl ?_
    obtain ⟨m21, hs21, hIm21, t_21, kN_21, kD_21⟩ := S_X8_append zn (d + 0) hN hC a4 m17 hIm17 (by omega)
    refine zW.step (st1 := (79, [(some (.ref 0)), (some (.int (Int32.ofInt a1))), (some (.int (Int32.ofInt a2))), (some (.int (Int32.ofInt a3))), (some (.int (Int32.ofInt a4))), (some (.int (Int32.ofInt a5))), (some (.int (Int32.ofInt ((((r3 + r4) + r5) + r6) + r7))))], [], zk c m21)) ⟨[zc (none) (zk c m21)], _, rfl, ⟨⟨⟨(Nat.lt_of_lt_of_le (Nat.le_of_ble_eq_true rfl) hN), (Nat.le_of_ble_eq_true rfl)⟩, hs21, (Nat.le_of_ble_eq_true rfl), Nat.le_refl _, Nat.le_refl _, Nat.le_refl _, Nat.le_refl _⟩, trivial⟩⟩ rfl ?_
    have f22 : (0 : Int) ≤ m21 1 1 ∧ m21 1 1 ≤ 240 := hIm21.1 1 1
    have tk23 : zN m m21 := zN_tr tk19 kN_21
    have tk24 : zD9 (fun p i => p = 2 ∨ (p = 1 ∧ i = 1)) m m21 := zD9_tr tk20 kD_21
    refine zW.step (st1 := (85, [(some (.ref 0)), (some (.int (Int32.ofInt a1))), (some (.int (Int32.ofInt a2))), (some (.int (Int32.ofInt a3))), (some (.int (Int32.ofInt a4))), (some (.int (Int32.ofInt a5))), (some (.int (Int32.ofInt ((((r3 + r4) + r5) + r6) + r7))))], [.int (Int32.ofInt a5), .ref 1], zk c m21)) (st2 := (85, [(some (.ref 0)), (some (.int (Int32.ofInt a1))), (some (.int (Int32.ofInt a2))), (some (.int (Int32.ofInt a3))), (some (.int (Int32.ofInt a4))), (some (.int (Int32.ofInt a5))), (some (.int (Int32.ofInt ((((r3 + r4) + r5) + r6) + r7))))], [.int (Int32.ofInt a5), .ref 1], zk c m21)) ⟨[zo, zo, zo], _, rfl, ⟨trivial, (Nat.lt_of_lt_of_le (Nat.le_of_ble_eq_true rfl) hN), trivial, trivial⟩⟩ rfl ?_
    obtain ⟨m25, hs25, hIm25, t_25, kN_25, kD_25⟩ := S_X8_append zn (d + 0) hN hC a5 m21 hIm21 (by omega)
    refine zW.step (st1 := (88, [(some (.ref 0)), (some (.int (Int32.ofInt a1))), (some (.int (Int32.ofInt a2))), (some (.int (Int32.ofInt a3))), (some (.int (Int32.ofInt a4))), (some (.int (Int32.ofInt a5))), (some (.int (Int32.ofInt ((((r3 + r4) + r5) + r6) + r7))))], [], zk c m25)) ⟨[zc (none) (zk c m25)], _, rfl, ⟨⟨⟨(Nat.lt_of_lt_of_le (Nat.le_of_ble_eq_true rfl) hN), (Nat.le_of_ble_eq_true rfl)⟩, hs25, (Nat.le_of_ble_eq_true rfl), Nat.le_refl _, Nat.le_refl _, Nat.le_refl _, Nat.le_refl _⟩, trivial⟩⟩ rfl ?_
    have f26 : (0 : Int) ≤ m25 1 1 ∧ m25 1 1 ≤ 240 := hIm25.1 1 1
    have tk27 : zN m m25 := zN_tr tk23 kN_25
    have tk28 : zD9 (fun p i => p = 2 ∨ (p = 1 ∧ i = 1)) m m25 := zD9_tr tk24 kD_25
    refine zW.step (st1 := (95, [(some (.ref 0)), (some (.int (Int32.ofInt a1))), (some (.int (Int32.ofInt a2))), (some (.int (Int32.ofInt a3))), (some (.int (Int32.ofInt a4))), (some (.int (Int32.ofInt a5))), (some (.int (Int32.ofInt ((((r3 + r4) + r5) + r6) + r7))))], [.int (Int32.ofInt (m25 1 1))], zk c m25)) (st2 := (95, [(some (.ref 0)), (some (.int (Int32.ofInt a1))), (some (.int (Int32.ofInt a2))), (some (.int (Int32.ofInt a3))), (some (.int (Int32.ofInt a4))), (some (.int (Int32.ofInt a5))), (some (.int (Int32.ofInt ((((r3 + r4) + r5) + r6) + r7))))], [.int (Int32.ofInt (m25 1 1))], zk c m25)) ⟨[zo, zo, zo], _, rfl, ⟨trivial, (Nat.lt_of_lt_of_le (Nat.le_of_ble_eq_true rfl) hN), (Nat.lt_of_lt_of_le (Nat.le_of_ble_eq_true rfl) hN), trivial⟩⟩ rfl ?_
    exact zW.fin (zfin_i rfl rfl rfl) ⟨m25 1 1, m25, rfl, rfl, (zI_self hIm25), (by omega), (by omega), (by omega), (by exact zfd_5 (by omega) t_9 t_13 t_17 t_21 t_25), tk27, tk28⟩
  · refine zW.step (st1 := (44, [(some (.ref 0)), (some (.int (Int32.ofInt a1))), (some (.int (Int32.ofInt a2))), (some (.int (Int32.ofInt a3))), (some (.int (Int32.ofInt a4))), (some (.int (Int32.ofInt a5))), (some (.int ((Int32.ofInt (((r3 + r4) + r5) + r6)) + (Int32.ofInt r7))))], [], zk c m)) (st2 := (44, [(some (.ref 0)), (some (.int (Int32.ofInt a1))), (some (.int (Int32.ofInt a2))), (some (.int (Int32.ofInt a3))), (some (.int (Int32.ofInt a4))), (some (.int (Int32.ofInt a5))), (some (.int (Int32.ofInt ((((r3 + r4) + r5) + r6) + r7))))], [], zk c m)) ⟨[zo, zo, zo, zo, zo, zo, zo, zo, zo], _, rfl, ⟨trivial, trivial, trivial, (Nat.lt_of_lt_of_le (Nat.le_of_ble_eq_true rfl) hN), (Nat.lt_of_lt_of_le (Nat.le_of_ble_eq_true rfl) hN), trivial, trivial, trivial, zbf (fun q => b8 ((zi_le (zi_add rfl (zi_add rfl rfl)) (by decide : (Int16.ofInt 240).toInt32 = Int32.ofInt 240) (by unfold zR; omega) (⟨by decide, by decide⟩ : zR 240)).mp q)), trivial⟩⟩ (z_steq (z_c1 rfl (z_c1 rfl (z_c1 rfl (z_c1 rfl (z_c1 rfl (z_c1 rfl (z_c1 (z_si (zi_add rfl rfl)) rfl))))))) rfl rfl) ?_
    refine zW.step (st1 := (45, [(some (.ref 0)), (some (.int (Int32.ofInt a1))), (some (.int (Int32.ofInt a2))), (some (.int (Int32.ofInt a3))), (some (.int (Int32.ofInt a4))), (some (.int (Int32.ofInt a5))), (some (.int (Int32.ofInt ((((r3 + r4) + r5) + r6) + r7))))], [.int (Int32.ofInt (-1))], zk c m)) (st2 := (45, [(some (.ref 0)), (some (.int (Int32.ofInt a1))), (some (.int (Int32.ofInt a2))), (some (.int (Int32.ofInt a3))), (some (.int (Int32.ofInt a4))), (some (.int (Int32.ofInt a5))), (some (.int (Int32.ofInt ((((r3 + r4) + r5) + r6) + r7))))], [.int (Int32.ofInt (-1))], zk c m)) ⟨[zo], _, rfl, ⟨trivial, trivial⟩⟩ rfl ?_
    exact zW.fin (zfin_i rfl rfl rfl) ⟨(-1), m, rfl, rfl, (zI_self hIm), (by omega), (by omega), (by omega), (by exact zfd_0 (by omega)), zN_rf, zD9_rf⟩

set_option maxRecDepth 100000 in
set_option maxHeartbeats 4000000 in
theorem S_X11_end (zn : Bool) (d : Nat) {c : Nat × Nat} {mM : zM} (hN : 107 ≤ c.1) (hC : c.1 < z_RO) (n : Int) (m : zM) (hIm : zI c mM m) (r_n : -2147483648 ≤ n ∧ n ≤ 2147483647) : zCi zn (d + 1) 138 [.ref 0, .int (Int32.ofInt n)] c m (fun (r : Int) (m1 : zM) => zI c m1 m1 ∧ (0 ≤ r ∧ r ≤ 1) ∧ (n < 0 ∨ m 1 1 < n → r = 0 ∧ m1 1 1 = m 1 1) ∧ (0 ≤ n ∧ n ≤ m 1 1 → r = 1 ∧ m1 1 1 = n) ∧ zN m m1 ∧ zD9 (fun p i => p = 1 ∧ i = 1) m m1) := by
  refine zCi.of zu_X11_end hC (Nat.le_of_ble_eq_true rfl) ?_
  show zW zn (d + 0) 138 c (0, [(some (.ref 0)), (some (.int (Int32.ofInt n)))], [], zk c m) (fun v h1 => ∃ (r : Int) (m1 : zM), v = some (.int (Int32.ofInt r)) ∧ h1 = zk c m1 ∧ zI c m1 m1 ∧ (0 ≤ r ∧ r ≤ 1) ∧ (n < 0 ∨ m 1 1 < n → r = 0 ∧ m1 1 1 = m 1 1) ∧ (0 ≤ n ∧ n ≤ m 1 1 → r = 1 ∧ m1 1 1 = n) ∧ zN m m1 ∧ zD9 (fun p i => p = 1 ∧ i = 1) m m1)
  have f1 : (0 : Int) ≤ m 1 1 ∧ m 1 1 ≤ 240 := hIm.1 1 1
  by_cases b2 : n < 0
  · refine zW.step (st1 := (15, [(some (.ref 0)), (some (.int (Int32.ofInt n)))], [], zk c m)) (st2 := (15, [(some (.ref 0)), (some (.int (Int32.ofInt n)))], [], zk c m)) ⟨[zo, zt], _, rfl, ⟨trivial, zbt ((zi_lt rfl (rfl : (0 : Int32) = Int32.ofInt 0) (by unfold zR; omega) (⟨by decide, by decide⟩ : zR 0)).mpr b2), trivial⟩⟩ rfl ?_
    refine zW.step (st1 := (16, [(some (.ref 0)), (some (.int (Int32.ofInt n)))], [.int (Int32.ofInt 0)], zk c m)) (st2 := (16, [(some (.ref 0)), (some (.int (Int32.ofInt n)))], [.int (Int32.ofInt 0)], zk c m)) ⟨[zo], _, rfl, ⟨trivial, trivial⟩⟩ rfl ?_
    exact zW.fin (zfin_i rfl rfl rfl) ⟨0, m, rfl, rfl, (zI_self hIm), (by omega), (by omega), (by omega), zN_rf, zD9_rf⟩
  · refine zW.step (st1 := (4, [(some (.ref 0)), (some (.int (Int32.ofInt n)))], [], zk c m)) (st2 := (4, [(some (.ref 0)), (some (.int (Int32.ofInt n)))], [], zk c m)) ⟨[zo, zo], _, rfl, ⟨trivial, zbf (fun q => b2 ((zi_lt rfl (rfl : (0 : Int32) = Int32.ofInt 0) (by unfold zR; omega) (⟨by decide, by decide⟩ : zR 0)).mp q)), trivial⟩⟩ rfl ?_
    by_cases b3 : n ≤ (m 1 1)
    · refine zW.step (st1 := (17, [(some (.ref 0)), (some (.int (Int32.ofInt n)))], [], zk c m)) (st2 := (17, [(some (.ref 0)), (some (.int (Int32.ofInt n)))], [], zk c m)) ⟨[zo, zo, zo, zo, zt], _, rfl, ⟨trivial, trivial, (Nat.lt_of_lt_of_le (Nat.le_of_ble_eq_true rfl) hN), (Nat.lt_of_lt_of_le (Nat.le_of_ble_eq_true rfl) hN), zbt ((zi_le rfl rfl (by unfold zR; omega) (by unfold zR; omega)).mpr b3), trivial⟩⟩ rfl ?_
      obtain ⟨m4, hm4⟩ : ∃ q, q = zm_up m 1 1 n := ⟨_, rfl⟩
      have hIm4 := zI_upS hIm hm4 (by unfold zOb; omega) (show (0 : Int) ≤ n ∧ n ≤ 240 by omega)
      have em4 : m4 1 1 = n := by rw [hm4]; exact zm_eq
      have tk5 : zN m m4 := by rw [hm4]; exact zN_up zN_rf (by unfold zRow; omega)
      have tk6 : zD9 (fun p i => p = 1 ∧ i = 1) m m4 := by rw [hm4]; exact zD9_up zD9_rf (by first | rfl | omega | (dsimp only; omega))
      refine zW.step (st1 := (25, [(some (.ref 0)), (some (.int (Int32.ofInt n)))], [], z_hup (zk c m) 1 (.inr (8, [.ref 2, .int (Int32.ofInt n), .int (Int32.ofInt (m 1 2)), .int (Int32.ofInt (m 1 3))])))) (st2 := (25, [(some (.ref 0)), (some (.int (Int32.ofInt n)))], [], zk c m4)) ⟨[zo, zo, zo, zo], _, rfl, ⟨trivial, (Nat.lt_of_lt_of_le (Nat.le_of_ble_eq_true rfl) hN), trivial, ⟨(Nat.lt_of_lt_of_le (Nat.le_of_ble_eq_true rfl) hN), rfl, rfl⟩, trivial⟩⟩ (z_steq rfl rfl ((zk_up c m 1 1 n _ rfl).trans (by rw [hm4]))) ?_
      refine zW.step (st1 := (26, [(some (.ref 0)), (some (.int (Int32.ofInt n)))], [.int (Int32.ofInt 1)], zk c m4)) (st2 := (26, [(some (.ref 0)), (some (.int (Int32.ofInt n)))], [.int (Int32.ofInt 1)], zk c m4)) ⟨[zo], _, rfl, ⟨trivial, trivial⟩⟩ rfl ?_
      exact zW.fin (zfin_i rfl rfl rfl) ⟨1, m4, rfl, rfl, (zI_self hIm4), (by omega), (by omega), (by omega), tk5, tk6⟩
    · refine zW.step (st1 := (15, [(some (.ref 0)), (some (.int (Int32.ofInt n)))], [], zk c m)) (st2 := (15, [(some (.ref 0)), (some (.int (Int32.ofInt n)))], [], zk c m)) ⟨[zo, zo, zo, zo, zo], _, rfl, ⟨trivial, trivial, (Nat.lt_of_lt_of_le (Nat.le_of_ble_eq_true rfl) hN), (Nat.lt_of_lt_of_le (Nat.le_of_ble_eq_true rfl) hN), zbf (fun q => b3 ((zi_le rfl rfl (by unfold zR; omega) (by unfold zR; omega)).mp q)), trivial⟩⟩ rfl ?_
      refine zW.step (st1 := (16, [(some (.ref 0)), (some (.int (Int32.ofInt n)))], [.int (Int32.ofInt 0)], zk c m)) (st2 := (16, [(some (.ref 0)), (some (.int (Int32.ofInt n)))], [.int (Int32.ofInt 0)], zk c m)) ⟨[zo], _, rfl, ⟨trivial, trivial⟩⟩ rfl ?_
      exact zW.fin (zfin_i rfl rfl rfl) ⟨0, m, rfl, rfl, (zI_self hIm), (by omega), (by omega), (by omega), zN_rf, zD9_rf⟩

set_option maxRecDepth 100000 in
set_option maxHeartbeats 4000000 in
theorem S_X1_hold (zn : Bool) (d : Nat) {c : Nat × Nat} {mM : zM} (hN : 107 ≤ c.1) (hC : c.1 < z_RO) (hour : Int) (strikes : Int) (m : zM) (hIm : zI c mM m) (r_hour : -2147483648 ≤ hour ∧ hour ≤ 2147483647) (r_strikes : -2147483648 ≤ strikes ∧ strikes ≤ 2147483647) (hh : 0 ≤ hour ∧ hour ≤ 6) : zCi zn (d + 1) 41 [.ref 75, .int (Int32.ofInt hour), .int (Int32.ofInt strikes)] c m (fun (r : Int) (m1 : zM) => zI c m1 m1 ∧ (-1 ≤ r ∧ r ≤ 6) ∧ (6 ≤ m 75 5 → r = -1 ∧ m1 75 5 = m 75 5) ∧ (m 75 5 < 6 → r = m 75 5 + 1 ∧ m1 75 5 = m 75 5 + 1) ∧ zN m m1 ∧ zD9 (fun p i => (p = 75 ∧ i = 5) ∨ (77 ≤ p ∧ p ≤ 78)) m m1) := by
  refine zCi.of zu_X1_hold hC (Nat.le_of_ble_eq_true rfl) ?_
  show zW zn (d + 0) 41 c (0, [(some (.ref 75)), (some (.int (Int32.ofInt hour))), (some (.int (Int32.ofInt strikes)))], [], zk c m) (fun v h1 => ∃ (r : Int) (m1 : zM), v = some (.int (Int32.ofInt r)) ∧ h1 = zk c m1 ∧ zI c m1 m1 ∧ (-1 ≤ r ∧ r ≤ 6) ∧ (6 ≤ m 75 5 → r = -1 ∧ m1 75 5 = m 75 5) ∧ (m 75 5 < 6 → r = m 75 5 + 1 ∧ m1 75 5 = m 75 5 + 1) ∧ zN m m1 ∧ zD9 (fun p i => (p = 75 ∧ i = 5) ∨ (77 ≤ p ∧ p ≤ 78)) m m1)
  have f1 : (0 : Int) ≤ m 75 5 ∧ m 75 5 ≤ 6 := hIm.1 75 5
  by_cases b2 : (m 75 5) < 6
  · refine zW.step (st1 := (11, [(some (.ref 75)), (some (.int (Int32.ofInt hour))), (some (.int (Int32.ofInt strikes)))], [], zk c m)) (st2 := (11, [(some (.ref 75)), (some (.int (Int32.ofInt hour))), (some (.int (Int32.ofInt strikes)))], [], zk c m)) ⟨[zo, zo, zo, zt], _, rfl, ⟨trivial, (Nat.lt_of_lt_of_le (Nat.le_of_ble_eq_true rfl) hN), trivial, zbt ((zi_lt rfl (by decide : (Int8.ofInt 6).toInt32 = Int32.ofInt 6) (by unfold zR; omega) (⟨by decide, by decide⟩ : zR 6)).mpr b2), trivial⟩⟩ rfl ?_
    obtain ⟨m3, hm3⟩ : ∃ q, q = zm_up m 77 ((m 75 5).toNat) hour := ⟨_, rfl⟩
    have hIm3 := zI_upE hIm hm3 (zOk_p (by decide)) (show (0 : Int) ≤ hour ∧ hour ≤ 6 by omega)
    have em3 : m3 77 ((m 75 5).toNat) = hour := by rw [hm3]; exact zm_eq
    have f4 : m3 75 5 = m 75 5 := by rw [hm3]; exact zm_ne (by omega)
    have tk5 : zN m m3 := by rw [hm3]; exact zN_up zN_rf (by unfold zRow; omega)
    have tk6 : zD9 (fun p i => (p = 75 ∧ i = 5) ∨ (77 ≤ p ∧ p ≤ 78)) m m3 := by rw [hm3]; exact zD9_up zD9_rf (by first | rfl | omega | (dsimp only; omega))
    refine zW.step (st1 := (21, [(some (.ref 75)), (some (.int (Int32.ofInt hour))), (some (.int (Int32.ofInt strikes)))], [], z_hup (zk c m) 77 (.inl (0, 6, .inl (upd (fun j => Int32.ofInt (m 77 j)) (Int32.ofInt (m 75 5)).toNatClampNeg (Int32.ofInt hour)))))) (st2 := (21, [(some (.ref 75)), (some (.int (Int32.ofInt hour))), (some (.int (Int32.ofInt strikes)))], [], zk c m3)) ⟨[zo, zo, zo, zo, zo, (false, 0, none, zh0, some (.inl (0, 6, .inl (fun j => Int32.ofInt (m 77 j)))))], _, rfl, ⟨trivial, (Nat.lt_of_lt_of_le (Nat.le_of_ble_eq_true rfl) hN), trivial, (Nat.lt_of_lt_of_le (Nat.le_of_ble_eq_true rfl) hN), trivial, ⟨zk_ra c m zA_77 (Nat.lt_of_lt_of_le (Nat.le_of_ble_eq_true rfl) hN), zi_in rfl (by omega) (by omega) (by omega)⟩, trivial⟩⟩ (z_steq rfl rfl ((zk_ias c m zA_77 rfl (by unfold zR; omega) rfl).trans (by rw [hm3]))) ?_
    have f7 : (0 : Int) ≤ m3 75 5 ∧ m3 75 5 ≤ 6 := hIm3.1 75 5
    obtain ⟨m8, hm8⟩ : ∃ q, q = zm_up m3 78 ((m3 75 5).toNat) strikes := ⟨_, rfl⟩
    have hIm8 := zI_upE hIm3 hm8 (zOk_p (by decide)) (show (-2147483648 : Int) ≤ strikes ∧ strikes ≤ 2147483647 by omega)
    have em8 : m8 78 ((m3 75 5).toNat) = strikes := by rw [hm8]; exact zm_eq
    have f9 : m8 75 5 = m3 75 5 := by rw [hm8]; exact zm_ne (by omega)
    have tk10 : zN m m8 := by rw [hm8]; exact zN_up tk5 (by unfold zRow; omega)
    have tk11 : zD9 (fun p i => (p = 75 ∧ i = 5) ∨ (77 ≤ p ∧ p ≤ 78)) m m8 := by rw [hm8]; exact zD9_up tk6 (by first | rfl | omega | (dsimp only; omega))
    clear tk5 tk6
    refine zW.step (st1 := (31, [(some (.ref 75)), (some (.int (Int32.ofInt hour))), (some (.int (Int32.ofInt strikes)))], [], z_hup (zk c m3) 78 (.inl (0, 6, .inl (upd (fun j => Int32.ofInt (m3 78 j)) (Int32.ofInt (m3 75 5)).toNatClampNeg (Int32.ofInt strikes)))))) (st2 := (31, [(some (.ref 75)), (some (.int (Int32.ofInt hour))), (some (.int (Int32.ofInt strikes)))], [], zk c m8)) ⟨[zo, zo, zo, zo, zo, (false, 0, none, zh0, some (.inl (0, 6, .inl (fun j => Int32.ofInt (m3 78 j)))))], _, rfl, ⟨trivial, (Nat.lt_of_lt_of_le (Nat.le_of_ble_eq_true rfl) hN), trivial, (Nat.lt_of_lt_of_le (Nat.le_of_ble_eq_true rfl) hN), trivial, ⟨zk_ra c m3 zA_78 (Nat.lt_of_lt_of_le (Nat.le_of_ble_eq_true rfl) hN), zi_in rfl (by omega) (by omega) (by omega)⟩, trivial⟩⟩ (z_steq rfl rfl ((zk_ias c m3 zA_78 rfl (by unfold zR; omega) rfl).trans (by rw [hm8]))) ?_
    have f12 : (0 : Int) ≤ m8 75 5 ∧ m8 75 5 ≤ 6 := hIm8.1 75 5
    obtain ⟨m13, hm13⟩ : ∃ q, q = zm_up m8 75 5 ((m8 75 5) + 1) := ⟨_, rfl⟩
    have hIm13 := zI_upS hIm8 hm13 (by unfold zOb; omega) (show (0 : Int) ≤ ((m8 75 5) + 1) ∧ ((m8 75 5) + 1) ≤ 6 by omega)
    have em13 : m13 75 5 = ((m8 75 5) + 1) := by rw [hm13]; exact zm_eq
    have tk14 : zN m m13 := by rw [hm13]; exact zN_up tk10 (by unfold zRow; omega)
    have tk15 : zD9 (fun p i => (p = 75 ∧ i = 5) ∨ (77 ≤ p ∧ p ≤ 78)) m m13 := by rw [hm13]; exact zD9_up tk11 (by first | rfl | omega | (dsimp only; omega))
    clear tk10 tk11
    refine zW.step (st1 := (41, [(some (.ref 75)), (some (.int (Int32.ofInt hour))), (some (.int (Int32.ofInt strikes)))], [], z_hup (zk c m8) 75 (.inr (1, [.ref 13, .ref 18, .ref 76, .ref 77, .ref 78, .int ((Int32.ofInt (m8 75 5)) + (Int32.ofInt 1))])))) (st2 := (41, [(some (.ref 75)), (some (.int (Int32.ofInt hour))), (some (.int (Int32.ofInt strikes)))], [], zk c m13)) ⟨[zo, zo, zo, zo, zo, zo], _, rfl, ⟨trivial, trivial, (Nat.lt_of_lt_of_le (Nat.le_of_ble_eq_true rfl) hN), trivial, trivial, ⟨(Nat.lt_of_lt_of_le (Nat.le_of_ble_eq_true rfl) hN), rfl, rfl⟩, trivial⟩⟩ (z_steq rfl rfl ((zk_up c m8 75 5 ((m8 75 5) + 1) _ ((congrArg (fun q => (.inr (1, [.ref 13, .ref 18, .ref 76, .ref 77, .ref 78, .int q]) : z_E)) (zi_add rfl rfl)).trans rfl)).trans (by rw [hm13]))) ?_
    have f16 : (0 : Int) ≤ m13 75 5 ∧ m13 75 5 ≤ 6 := hIm13.1 75 5
    refine zW.step (st1 := (45, [(some (.ref 75)), (some (.int (Int32.ofInt hour))), (some (.int (Int32.ofInt strikes)))], [.int (Int32.ofInt (m13 75 5))], zk c m13)) (st2 := (45, [(some (.ref 75)), (some (.int (Int32.ofInt hour))), (some (.int (Int32.ofInt strikes)))], [.int (Int32.ofInt (m13 75 5))], zk c m13)) ⟨[zo, zo], _, rfl, ⟨trivial, (Nat.lt_of_lt_of_le (Nat.le_of_ble_eq_true rfl) hN), trivial⟩⟩ rfl ?_
    exact zW.fin (zfin_i rfl rfl rfl) ⟨m13 75 5, m13, rfl, rfl, (zI_self hIm13), (by omega), (by omega), (by omega), tk14, tk15⟩
  · refine zW.step (st1 := (9, [(some (.ref 75)), (some (.int (Int32.ofInt hour))), (some (.int (Int32.ofInt strikes)))], [], zk c m)) (st2 := (9, [(some (.ref 75)), (some (.int (Int32.ofInt hour))), (some (.int (Int32.ofInt strikes)))], [], zk c m)) ⟨[zo, zo, zo, zo], _, rfl, ⟨trivial, (Nat.lt_of_lt_of_le (Nat.le_of_ble_eq_true rfl) hN), trivial, zbf (fun q => b2 ((zi_lt rfl (by decide : (Int8.ofInt 6).toInt32 = Int32.ofInt 6) (by unfold zR; omega) (⟨by decide, by decide⟩ : zR 6)).mp q)), trivial⟩⟩ rfl ?_
    refine zW.step (st1 := (10, [(some (.ref 75)), (some (.int (Int32.ofInt hour))), (some (.int (Int32.ofInt strikes)))], [.int (Int32.ofInt (-1))], zk c m)) (st2 := (10, [(some (.ref 75)), (some (.int (Int32.ofInt hour))), (some (.int (Int32.ofInt strikes)))], [.int (Int32.ofInt (-1))], zk c m)) ⟨[zo], _, rfl, ⟨trivial, trivial⟩⟩ rfl ?_
    exact zW.fin (zfin_i rfl rfl rfl) ⟨(-1), m, rfl, rfl, (zI_self hIm), (by omega), (by omega), (by omega), zN_rf, zD9_rf⟩

set_option maxRecDepth 100000 in
set_option maxHeartbeats 4000000 in
theorem S_X11_hear (zn : Bool) (d : Nat) {c : Nat × Nat} {mM : zM} (hN : 107 ≤ c.1) (hC : c.1 < z_RO) (hour : Int) (strikes : Int) (m : zM) (hIm : zI c mM m) (r_hour : -2147483648 ≤ hour ∧ hour ≤ 2147483647) (r_strikes : -2147483648 ≤ strikes ∧ strikes ≤ 2147483647) : zCi zn (d + 2) 147 [.ref 0, .int (Int32.ofInt hour), .int (Int32.ofInt strikes)] c m (fun (r : Int) (m1 : zM) => zI c m1 m1 ∧ (-1 ≤ r ∧ r ≤ 6) ∧ (¬ (m 0 12 = 1 ∧ 1 ≤ hour ∧ hour ≤ 6 ∧ 0 ≤ strikes ∧ strikes ≤ 999 ∧ m 75 5 < 6) → r = -1 ∧ m1 75 5 = m 75 5) ∧ (m 0 12 = 1 ∧ 1 ≤ hour ∧ hour ≤ 6 ∧ 0 ≤ strikes ∧ strikes ≤ 999 ∧ m 75 5 < 6 → r = m 75 5 + 1 ∧ m1 75 5 = m 75 5 + 1) ∧ zN m m1 ∧ zD9 (fun p i => (p = 75 ∧ i = 5) ∨ (77 ≤ p ∧ p ≤ 78)) m m1) := by
  refine zCi.of zu_X11_hear hC (Nat.le_of_ble_eq_true rfl) ?_
  show zW zn (d + 1) 147 c (0, [(some (.ref 0)), (some (.int (Int32.ofInt hour))), (some (.int (Int32.ofInt strikes)))], [], zk c m) (fun v h1 => ∃ (r : Int) (m1 : zM), v = some (.int (Int32.ofInt r)) ∧ h1 = zk c m1 ∧ zI c m1 m1 ∧ (-1 ≤ r ∧ r ≤ 6) ∧ (¬ (m 0 12 = 1 ∧ 1 ≤ hour ∧ hour ≤ 6 ∧ 0 ≤ strikes ∧ strikes ≤ 999 ∧ m 75 5 < 6) → r = -1 ∧ m1 75 5 = m 75 5) ∧ (m 0 12 = 1 ∧ 1 ≤ hour ∧ hour ≤ 6 ∧ 0 ≤ strikes ∧ strikes ≤ 999 ∧ m 75 5 < 6 → r = m 75 5 + 1 ∧ m1 75 5 = m 75 5 + 1) ∧ zN m m1 ∧ zD9 (fun p i => (p = 75 ∧ i = 5) ∨ (77 ≤ p ∧ p ≤ 78)) m m1)
  have f1 : (0 : Int) ≤ m 75 5 ∧ m 75 5 ≤ 6 := hIm.1 75 5
  have f2 : (0 : Int) ≤ m 0 12 ∧ m 0 12 ≤ 1 := hIm.1 0 12
  by_cases b3 : (m 0 12) = 0
  · refine zW.step (st1 := (29, [(some (.ref 0)), (some (.int (Int32.ofInt hour))), (some (.int (Int32.ofInt strikes)))], [], zk c m)) (st2 := (29, [(some (.ref 0)), (some (.int (Int32.ofInt hour))), (some (.int (Int32.ofInt strikes)))], [], zk c m)) ⟨[zo, zo, zt], _, rfl, ⟨trivial, (Nat.lt_of_lt_of_le (Nat.le_of_ble_eq_true rfl) hN), zbt ((zi_eq rfl (rfl : (0 : Int32) = Int32.ofInt 0) (by unfold zR; omega) (⟨by decide, by decide⟩ : zR 0)).mpr b3), trivial⟩⟩ rfl ?_
    refine zW.step (st1 := (30, [(some (.ref 0)), (some (.int (Int32.ofInt hour))), (some (.int (Int32.ofInt strikes)))], [.int (Int32.ofInt (-1))], zk c m)) (st2 := (30, [(some (.ref 0)), (some (.int (Int32.ofInt hour))), (some (.int (Int32.ofInt strikes)))], [.int (Int32.ofInt (-1))], zk c m)) ⟨[zo], _, rfl, ⟨trivial, trivial⟩⟩ rfl ?_
    exact zW.fin (zfin_i rfl rfl rfl) ⟨(-1), m, rfl, rfl, (zI_self hIm), (by omega), (by omega), (by omega), zN_rf, zD9_rf⟩
  · refine zW.step (st1 := (7, [(some (.ref 0)), (some (.int (Int32.ofInt hour))), (some (.int (Int32.ofInt strikes)))], [], zk c m)) (st2 := (7, [(some (.ref 0)), (some (.int (Int32.ofInt hour))), (some (.int (Int32.ofInt strikes)))], [], zk c m)) ⟨[zo, zo, zo], _, rfl, ⟨trivial, (Nat.lt_of_lt_of_le (Nat.le_of_ble_eq_true rfl) hN), zbf (fun q => b3 ((zi_eq rfl (rfl : (0 : Int32) = Int32.ofInt 0) (by unfold zR; omega) (⟨by decide, by decide⟩ : zR 0)).mp q)), trivial⟩⟩ rfl ?_
    by_cases b4 : hour < 1
    · refine zW.step (st1 := (29, [(some (.ref 0)), (some (.int (Int32.ofInt hour))), (some (.int (Int32.ofInt strikes)))], [], zk c m)) (st2 := (29, [(some (.ref 0)), (some (.int (Int32.ofInt hour))), (some (.int (Int32.ofInt strikes)))], [], zk c m)) ⟨[zo, zo, zt], _, rfl, ⟨trivial, trivial, zbt ((zi_lt rfl rfl (by unfold zR; omega) (⟨by decide, by decide⟩ : zR 1)).mpr b4), trivial⟩⟩ rfl ?_
      refine zW.step (st1 := (30, [(some (.ref 0)), (some (.int (Int32.ofInt hour))), (some (.int (Int32.ofInt strikes)))], [.int (Int32.ofInt (-1))], zk c m)) (st2 := (30, [(some (.ref 0)), (some (.int (Int32.ofInt hour))), (some (.int (Int32.ofInt strikes)))], [.int (Int32.ofInt (-1))], zk c m)) ⟨[zo], _, rfl, ⟨trivial, trivial⟩⟩ rfl ?_
      exact zW.fin (zfin_i rfl rfl rfl) ⟨(-1), m, rfl, rfl, (zI_self hIm), (by omega), (by omega), (by omega), zN_rf, zD9_rf⟩
    · refine zW.step (st1 := (12, [(some (.ref 0)), (some (.int (Int32.ofInt hour))), (some (.int (Int32.ofInt strikes)))], [], zk c m)) (st2 := (12, [(some (.ref 0)), (some (.int (Int32.ofInt hour))), (some (.int (Int32.ofInt strikes)))], [], zk c m)) ⟨[zo, zo, zo], _, rfl, ⟨trivial, trivial, zbf (fun q => b4 ((zi_lt rfl rfl (by unfold zR; omega) (⟨by decide, by decide⟩ : zR 1)).mp q)), trivial⟩⟩ rfl ?_
      by_cases b5 : 6 < hour
      · refine zW.step (st1 := (29, [(some (.ref 0)), (some (.int (Int32.ofInt hour))), (some (.int (Int32.ofInt strikes)))], [], zk c m)) (st2 := (29, [(some (.ref 0)), (some (.int (Int32.ofInt hour))), (some (.int (Int32.ofInt strikes)))], [], zk c m)) ⟨[zo, zo, zt], _, rfl, ⟨trivial, trivial, zbt ((zi_lt (by decide : (Int8.ofInt 6).toInt32 = Int32.ofInt 6) rfl (⟨by decide, by decide⟩ : zR 6) (by unfold zR; omega)).mpr b5), trivial⟩⟩ rfl ?_
        refine zW.step (st1 := (30, [(some (.ref 0)), (some (.int (Int32.ofInt hour))), (some (.int (Int32.ofInt strikes)))], [.int (Int32.ofInt (-1))], zk c m)) (st2 := (30, [(some (.ref 0)), (some (.int (Int32.ofInt hour))), (some (.int (Int32.ofInt strikes)))], [.int (Int32.ofInt (-1))], zk c m)) ⟨[zo], _, rfl, ⟨trivial, trivial⟩⟩ rfl ?_
        exact zW.fin (zfin_i rfl rfl rfl) ⟨(-1), m, rfl, rfl, (zI_self hIm), (by omega), (by omega), (by omega), zN_rf, zD9_rf⟩
      · refine zW.step (st1 := (18, [(some (.ref 0)), (some (.int (Int32.ofInt hour))), (some (.int (Int32.ofInt strikes)))], [], zk c m)) (st2 := (18, [(some (.ref 0)), (some (.int (Int32.ofInt hour))), (some (.int (Int32.ofInt strikes)))], [], zk c m)) ⟨[zo, zo, zo], _, rfl, ⟨trivial, trivial, zbf (fun q => b5 ((zi_lt (by decide : (Int8.ofInt 6).toInt32 = Int32.ofInt 6) rfl (⟨by decide, by decide⟩ : zR 6) (by unfold zR; omega)).mp q)), trivial⟩⟩ rfl ?_
        by_cases b6 : strikes < 0
        · refine zW.step (st1 := (29, [(some (.ref 0)), (some (.int (Int32.ofInt hour))), (some (.int (Int32.ofInt strikes)))], [], zk c m)) (st2 := (29, [(some (.ref 0)), (some (.int (Int32.ofInt hour))), (some (.int (Int32.ofInt strikes)))], [], zk c m)) ⟨[zo, zt], _, rfl, ⟨trivial, zbt ((zi_lt rfl (rfl : (0 : Int32) = Int32.ofInt 0) (by unfold zR; omega) (⟨by decide, by decide⟩ : zR 0)).mpr b6), trivial⟩⟩ rfl ?_
          refine zW.step (st1 := (30, [(some (.ref 0)), (some (.int (Int32.ofInt hour))), (some (.int (Int32.ofInt strikes)))], [.int (Int32.ofInt (-1))], zk c m)) (st2 := (30, [(some (.ref 0)), (some (.int (Int32.ofInt hour))), (some (.int (Int32.ofInt strikes)))], [.int (Int32.ofInt (-1))], zk c m)) ⟨[zo], _, rfl, ⟨trivial, trivial⟩⟩ rfl ?_
          exact zW.fin (zfin_i rfl rfl rfl) ⟨(-1), m, rfl, rfl, (zI_self hIm), (by omega), (by omega), (by omega), zN_rf, zD9_rf⟩
        · refine zW.step (st1 := (22, [(some (.ref 0)), (some (.int (Int32.ofInt hour))), (some (.int (Int32.ofInt strikes)))], [], zk c m)) (st2 := (22, [(some (.ref 0)), (some (.int (Int32.ofInt hour))), (some (.int (Int32.ofInt strikes)))], [], zk c m)) ⟨[zo, zo], _, rfl, ⟨trivial, zbf (fun q => b6 ((zi_lt rfl (rfl : (0 : Int32) = Int32.ofInt 0) (by unfold zR; omega) (⟨by decide, by decide⟩ : zR 0)).mp q)), trivial⟩⟩ rfl ?_
          by_cases b7 : strikes ≤ 999
          · refine zW.step (st1 := (31, [(some (.ref 0)), (some (.int (Int32.ofInt hour))), (some (.int (Int32.ofInt strikes)))], [], zk c m)) (st2 := (31, [(some (.ref 0)), (some (.int (Int32.ofInt hour))), (some (.int (Int32.ofInt strikes)))], [], zk c m)) ⟨[zo, zo, zt], _, rfl, ⟨trivial, trivial, zbt ((zi_le rfl (by decide : (Int16.ofInt 999).toInt32 = Int32.ofInt 999) (by unfold zR; omega) (⟨by decide, by decide⟩ : zR 999)).mpr b7), trivial⟩⟩ rfl ?_
            refine zW.step (st1 := (37, [(some (.ref 0)), (some (.int (Int32.ofInt hour))), (some (.int (Int32.ofInt strikes)))], [.int (Int32.ofInt strikes), .int (Int32.ofInt hour), .ref 75], zk c m)) (st2 := (37, [(some (.ref 0)), (some (.int (Int32.ofInt hour))), (some (.int (Int32.ofInt strikes)))], [.int (Int32.ofInt strikes), .int (Int32.ofInt hour), .ref 75], zk c m)) ⟨[zo, zo, zo, zo], _, rfl, ⟨trivial, (Nat.lt_of_lt_of_le (Nat.le_of_ble_eq_true rfl) hN), trivial, trivial, trivial⟩⟩ rfl ?_
            obtain ⟨r8, m8, hs8, hIm8, q_8, f0_8, f1_8, kN_8, kD_8⟩ := S_X1_hold zn (d + 0) hN hC hour strikes m hIm (by omega) (by omega) (by omega)
            refine zW.step (st1 := (40, [(some (.ref 0)), (some (.int (Int32.ofInt hour))), (some (.int (Int32.ofInt strikes)))], [.int (Int32.ofInt r8)], zk c m8)) ⟨[zc (some (.int (Int32.ofInt r8))) (zk c m8)], _, rfl, ⟨⟨⟨(Nat.lt_of_lt_of_le (Nat.le_of_ble_eq_true rfl) hN), (Nat.le_of_ble_eq_true rfl)⟩, hs8, (Nat.le_of_ble_eq_true rfl), Nat.le_refl _, Nat.le_refl _, Nat.le_refl _, Nat.le_refl _⟩, trivial⟩⟩ rfl ?_
            have f9 : (0 : Int) ≤ m8 75 5 ∧ m8 75 5 ≤ 6 := hIm8.1 75 5
            have f10 : (0 : Int) ≤ m8 0 12 ∧ m8 0 12 ≤ 1 := hIm8.1 0 12
            have f11 : m8 0 12 = m 0 12 := kD_8 0 12 (by omega)
            have tk12 : zN m m8 := zN_tr zN_rf kN_8
            have tk13 : zD9 (fun p i => (p = 75 ∧ i = 5) ∨ (77 ≤ p ∧ p ≤ 78)) m m8 := zD9_tr zD9_rf kD_8
            exact zW.fin (zfin_i rfl rfl rfl) ⟨r8, m8, rfl, rfl, (zI_self hIm8), (by omega), (by omega), (by omega), tk12, tk13⟩
          · refine zW.step (st1 := (29, [(some (.ref 0)), (some (.int (Int32.ofInt hour))), (some (.int (Int32.ofInt strikes)))], [], zk c m)) (st2 := (29, [(some (.ref 0)), (some (.int (Int32.ofInt hour))), (some (.int (Int32.ofInt strikes)))], [], zk c m)) ⟨[zo, zo, zo], _, rfl, ⟨trivial, trivial, zbf (fun q => b7 ((zi_le rfl (by decide : (Int16.ofInt 999).toInt32 = Int32.ofInt 999) (by unfold zR; omega) (⟨by decide, by decide⟩ : zR 999)).mp q)), trivial⟩⟩ rfl ?_
            refine zW.step (st1 := (30, [(some (.ref 0)), (some (.int (Int32.ofInt hour))), (some (.int (Int32.ofInt strikes)))], [.int (Int32.ofInt (-1))], zk c m)) (st2 := (30, [(some (.ref 0)), (some (.int (Int32.ofInt hour))), (some (.int (Int32.ofInt strikes)))], [.int (Int32.ofInt (-1))], zk c m)) ⟨[zo], _, rfl, ⟨trivial, trivial⟩⟩ rfl ?_
            exact zW.fin (zfin_i rfl rfl rfl) ⟨(-1), m, rfl, rfl, (zI_self hIm), (by omega), (by omega), (by omega), zN_rf, zD9_rf⟩

set_option maxRecDepth 100000 in
set_option maxHeartbeats 4000000 in
theorem S_X6_copy_F (zn : Bool) (d : Nat) {c : Nat × Nat} {mM : zM} (hN : 107 ≤ c.1) (hC : c.1 < z_RO) (m : zM) (hIm : zI c mM m) : zCv zn (d + 1) 93 [.ref 13, .ref 4] c m (fun (m1 : zM) => zI c mM m1 ∧ zN m m1 ∧ zD9 (fun p i => 13 ≤ p ∧ p ≤ 16) m m1) := by
  refine zCv.of zu_X6_copy hC (Nat.le_of_ble_eq_true rfl) ?_
  show zW zn (d + 0) 93 c (0, [(some (.ref 13)), (some (.ref 4))], [], zk c m) (fun v h1 => ∃ (m1 : zM), v = none ∧ h1 = zk c m1 ∧ zI c mM m1 ∧ zN m m1 ∧ zD9 (fun p i => 13 ≤ p ∧ p ≤ 16) m m1)
  obtain ⟨m1, hm1⟩ : ∃ q, q = zm_cp m 14 5 5 := ⟨_, rfl⟩
  have hIm1 : zI c mM m1 := by rw [hm1]; exact zI_cp hIm (by omega) (fun i _ => ⟨Int.le_refl _, Int.le_refl _⟩)
  have tk2 : zN m m1 := by rw [hm1]; exact zN_cp zN_rf (by unfold zRow; omega)
  have tk3 : zD9 (fun p i => 13 ≤ p ∧ p ≤ 16) m m1 := by rw [hm1]; exact zD9_cp zD9_rf (fun i => by omega)
  refine zW.step (st1 := (14, [(some (.ref 13)), (some (.ref 4))], [], z_hup (zk c m) 14 (.inl (0, 5, .inl (va_cpy (fun j => Int32.ofInt (m 5 j)) (fun j => Int32.ofInt (m 14 j)) (Int32.ofInt 0).toNatClampNeg (Int32.ofInt 0).toNatClampNeg (Int32.ofInt 5).toNatClampNeg))))) (st2 := (14, [(some (.ref 13)), (some (.ref 4))], [], zk c m1)) ⟨[zo, zo, zo, zo, zo, zo, zo, (false, 0, none, (0, 0, fun _ => .inl (0, 5, .inl (fun j => Int32.ofInt (m 5 j)))), some (.inl (0, 5, .inl (fun j => Int32.ofInt (m 14 j)))))], _, rfl, ⟨trivial, (Nat.lt_of_lt_of_le (Nat.le_of_ble_eq_true rfl) hN), trivial, trivial, (Nat.lt_of_lt_of_le (Nat.le_of_ble_eq_true rfl) hN), trivial, trivial, ⟨zk_ra c m zA_14 (Nat.lt_of_lt_of_le (Nat.le_of_ble_eq_true rfl) hN), zk_ra c m zA_5 (Nat.lt_of_lt_of_le (Nat.le_of_ble_eq_true rfl) hN), (by decide), (by decide), (by decide), (by decide), (by decide), (Nat.le_of_ble_eq_true rfl)⟩, trivial⟩⟩ (z_steq rfl rfl ((zk_acp c m zA_14 rfl rfl rfl (⟨by decide, by decide⟩ : zR 5)).trans (by rw [hm1]; rfl))) ?_
  obtain ⟨m4, hm4⟩ : ∃ q, q = zm_cp m1 15 6 48 := ⟨_, rfl⟩
  have hIm4 : zI c mM m4 := by rw [hm4]; exact zI_cp hIm1 (by omega) (fun i _ => ⟨Int.le_refl _, Int.le_refl _⟩)
  have tk5 : zN m m4 := by rw [hm4]; exact zN_cp tk2 (by unfold zRow; omega)
  have tk6 : zD9 (fun p i => 13 ≤ p ∧ p ≤ 16) m m4 := by rw [hm4]; exact zD9_cp tk3 (fun i => by omega)
  refine zW.step (st1 := (29, [(some (.ref 13)), (some (.ref 4))], [], z_hup (zk c m1) 15 (.inl (0, 48, .inl (va_cpy (fun j => Int32.ofInt (m1 6 j)) (fun j => Int32.ofInt (m1 15 j)) (Int32.ofInt 0).toNatClampNeg (Int32.ofInt 0).toNatClampNeg ((Int8.ofInt 48).toInt32).toNatClampNeg))))) (st2 := (29, [(some (.ref 13)), (some (.ref 4))], [], zk c m4)) ⟨[zo, zo, zo, zo, zo, zo, zo, (false, 0, none, (0, 0, fun _ => .inl (0, 48, .inl (fun j => Int32.ofInt (m1 6 j)))), some (.inl (0, 48, .inl (fun j => Int32.ofInt (m1 15 j)))))], _, rfl, ⟨trivial, (Nat.lt_of_lt_of_le (Nat.le_of_ble_eq_true rfl) hN), trivial, trivial, (Nat.lt_of_lt_of_le (Nat.le_of_ble_eq_true rfl) hN), trivial, trivial, ⟨zk_ra c m1 zA_15 (Nat.lt_of_lt_of_le (Nat.le_of_ble_eq_true rfl) hN), zk_ra c m1 zA_6 (Nat.lt_of_lt_of_le (Nat.le_of_ble_eq_true rfl) hN), (by decide), (by decide), (by decide), (by decide), (by decide), (Nat.le_of_ble_eq_true rfl)⟩, trivial⟩⟩ (z_steq rfl rfl ((zk_acp c m1 zA_15 rfl rfl (by decide : (Int8.ofInt 48).toInt32 = Int32.ofInt 48) (⟨by decide, by decide⟩ : zR 48)).trans (by rw [hm4]; rfl))) ?_
  obtain ⟨m7, hm7⟩ : ∃ q, q = zm_cp m4 16 7 6 := ⟨_, rfl⟩
  have hIm7 : zI c mM m7 := by rw [hm7]; exact zI_cp hIm4 (by omega) (fun i _ => ⟨Int.le_refl _, Int.le_refl _⟩)
  have tk8 : zN m m7 := by rw [hm7]; exact zN_cp tk5 (by unfold zRow; omega)
  have tk9 : zD9 (fun p i => 13 ≤ p ∧ p ≤ 16) m m7 := by rw [hm7]; exact zD9_cp tk6 (fun i => by omega)
  refine zW.step (st1 := (44, [(some (.ref 13)), (some (.ref 4))], [], z_hup (zk c m4) 16 (.inl (0, 6, .inl (va_cpy (fun j => Int32.ofInt (m4 7 j)) (fun j => Int32.ofInt (m4 16 j)) (Int32.ofInt 0).toNatClampNeg (Int32.ofInt 0).toNatClampNeg ((Int8.ofInt 6).toInt32).toNatClampNeg))))) (st2 := (44, [(some (.ref 13)), (some (.ref 4))], [], zk c m7)) ⟨[zo, zo, zo, zo, zo, zo, zo, (false, 0, none, (0, 0, fun _ => .inl (0, 6, .inl (fun j => Int32.ofInt (m4 7 j)))), some (.inl (0, 6, .inl (fun j => Int32.ofInt (m4 16 j)))))], _, rfl, ⟨trivial, (Nat.lt_of_lt_of_le (Nat.le_of_ble_eq_true rfl) hN), trivial, trivial, (Nat.lt_of_lt_of_le (Nat.le_of_ble_eq_true rfl) hN), trivial, trivial, ⟨zk_ra c m4 zA_16 (Nat.lt_of_lt_of_le (Nat.le_of_ble_eq_true rfl) hN), zk_ra c m4 zA_7 (Nat.lt_of_lt_of_le (Nat.le_of_ble_eq_true rfl) hN), (by decide), (by decide), (by decide), (by decide), (by decide), (Nat.le_of_ble_eq_true rfl)⟩, trivial⟩⟩ (z_steq rfl rfl ((zk_acp c m4 zA_16 rfl rfl (by decide : (Int8.ofInt 6).toInt32 = Int32.ofInt 6) (⟨by decide, by decide⟩ : zR 6)).trans (by rw [hm7]; rfl))) ?_
  have f10 : (0 : Int) ≤ m7 4 3 ∧ m7 4 3 ≤ 5 := hIm7.1 4 3
  obtain ⟨m11, hm11⟩ : ∃ q, q = zm_up m7 13 3 (m7 4 3) := ⟨_, rfl⟩
  have hIm11 : zI c mM m11 := by rw [hm11]; exact zI_up hIm7 (zOk_p (by decide)) (show (0 : Int) ≤ (m7 4 3) ∧ (m7 4 3) ≤ 5 by omega)
  have em11 : m11 13 3 = (m7 4 3) := by rw [hm11]; exact zm_eq
  have tk12 : zN m m11 := by rw [hm11]; exact zN_up tk8 (by unfold zRow; omega)
  have tk13 : zD9 (fun p i => 13 ≤ p ∧ p ≤ 16) m m11 := by rw [hm11]; exact zD9_up tk9 (by first | rfl | omega | (dsimp only; omega))
  clear tk8 tk9
  refine zW.step (st1 := (52, [(some (.ref 13)), (some (.ref 4))], [], z_hup (zk c m7) 13 (.inr (6, [.ref 14, .ref 15, .ref 16, .int (Int32.ofInt (m7 4 3)), .int (Int32.ofInt (m7 13 4))])))) (st2 := (52, [(some (.ref 13)), (some (.ref 4))], [], zk c m11)) ⟨[zo, zo, zo, zo], _, rfl, ⟨trivial, trivial, (Nat.lt_of_lt_of_le (Nat.le_of_ble_eq_true rfl) hN), ⟨(Nat.lt_of_lt_of_le (Nat.le_of_ble_eq_true rfl) hN), rfl, rfl⟩, trivial⟩⟩ (z_steq rfl rfl ((zk_up c m7 13 3 (m7 4 3) _ rfl).trans (by rw [hm11]))) ?_
  clear f10 em11
  have f14 : (0 : Int) ≤ m11 4 4 ∧ m11 4 4 ≤ 6 := hIm11.1 4 4
  obtain ⟨m15, hm15⟩ : ∃ q, q = zm_up m11 13 4 (m11 4 4) := ⟨_, rfl⟩
  have hIm15 : zI c mM m15 := by rw [hm15]; exact zI_up hIm11 (zOk_p (by decide)) (show (0 : Int) ≤ (m11 4 4) ∧ (m11 4 4) ≤ 6 by omega)
  have em15 : m15 13 4 = (m11 4 4) := by rw [hm15]; exact zm_eq
  have tk16 : zN m m15 := by rw [hm15]; exact zN_up tk12 (by unfold zRow; omega)
  have tk17 : zD9 (fun p i => 13 ≤ p ∧ p ≤ 16) m m15 := by rw [hm15]; exact zD9_up tk13 (by first | rfl | omega | (dsimp only; omega))
  clear tk12 tk13
  refine zW.step (st1 := (60, [(some (.ref 13)), (some (.ref 4))], [], z_hup (zk c m11) 13 (.inr (6, [.ref 14, .ref 15, .ref 16, .int (Int32.ofInt (m11 13 3)), .int (Int32.ofInt (m11 4 4))])))) (st2 := (60, [(some (.ref 13)), (some (.ref 4))], [], zk c m15)) ⟨[zo, zo, zo, zo], _, rfl, ⟨trivial, trivial, (Nat.lt_of_lt_of_le (Nat.le_of_ble_eq_true rfl) hN), ⟨(Nat.lt_of_lt_of_le (Nat.le_of_ble_eq_true rfl) hN), rfl, rfl⟩, trivial⟩⟩ (z_steq rfl rfl ((zk_up c m11 13 4 (m11 4 4) _ rfl).trans (by rw [hm15]))) ?_
  clear f14 em15
  exact zW.fin (zfin_v rfl rfl) ⟨m15, rfl, rfl, hIm15, tk16, tk17⟩

set_option maxRecDepth 100000 in
set_option maxHeartbeats 4000000 in
theorem S_X5_forget_F (zn : Bool) (d : Nat) {c : Nat × Nat} {mM : zM} (hN : 107 ≤ c.1) (hC : c.1 < z_RO) (m : zM) (hIm : zI c mM m) : zCv zn (d + 1) 84 [.ref 23] c m (fun (m1 : zM) => zI c mM m1 ∧ zN m m1 ∧ zD9 (fun p i => p = 23) m m1) := by
  refine zCv.of zu_X5_forget hC (Nat.le_of_ble_eq_true rfl) ?_
  show zW zn (d + 0) 84 c (0, [(some (.ref 23))], [], zk c m) (fun v h1 => ∃ (m1 : zM), v = none ∧ h1 = zk c m1 ∧ zI c mM m1 ∧ zN m m1 ∧ zD9 (fun p i => p = 23) m m1)
  obtain ⟨m1, hm1⟩ : ∃ q, q = zm_up m 23 5 0 := ⟨_, rfl⟩
  have hIm1 : zI c mM m1 := by rw [hm1]; exact zI_up hIm (zOk_p (by decide)) (show (0 : Int) ≤ 0 ∧ 0 ≤ 40 by omega)
  have em1 : m1 23 5 = 0 := by rw [hm1]; exact zm_eq
  have tk2 : zN m m1 := by rw [hm1]; exact zN_up zN_rf (by unfold zRow; omega)
  have tk3 : zD9 (fun p i => p = 23) m m1 := by rw [hm1]; exact zD9_up zD9_rf (by first | rfl | omega | (dsimp only; omega))
  refine zW.step (st1 := (5, [(some (.ref 23))], [], z_hup (zk c m) 23 (.inr (5, [.ref 24, .ref 65, .ref 66, .ref 67, .int (Int32.ofInt (m 23 4)), .int (Int32.ofInt 0), .int (Int32.ofInt (m 23 6)), .int (Int32.ofInt (m 23 7)), .int (Int32.ofInt (m 23 8))])))) (st2 := (5, [(some (.ref 23))], [], zk c m1)) ⟨[zo, zo, zo], _, rfl, ⟨trivial, trivial, ⟨(Nat.lt_of_lt_of_le (Nat.le_of_ble_eq_true rfl) hN), rfl, rfl⟩, trivial⟩⟩ (z_steq rfl rfl ((zk_up c m 23 5 0 _ rfl).trans (by rw [hm1]))) ?_
  obtain ⟨m4, hm4⟩ : ∃ q, q = zm_up m1 23 7 0 := ⟨_, rfl⟩
  have hIm4 : zI c mM m4 := by rw [hm4]; exact zI_up hIm1 (zOk_p (by decide)) (show (0 : Int) ≤ 0 ∧ 0 ≤ 100 by omega)
  have em4 : m4 23 7 = 0 := by rw [hm4]; exact zm_eq
  have tk5 : zN m m4 := by rw [hm4]; exact zN_up tk2 (by unfold zRow; omega)
  have tk6 : zD9 (fun p i => p = 23) m m4 := by rw [hm4]; exact zD9_up tk3 (by first | rfl | omega | (dsimp only; omega))
  clear tk2 tk3
  refine zW.step (st1 := (10, [(some (.ref 23))], [], z_hup (zk c m1) 23 (.inr (5, [.ref 24, .ref 65, .ref 66, .ref 67, .int (Int32.ofInt (m1 23 4)), .int (Int32.ofInt (m1 23 5)), .int (Int32.ofInt (m1 23 6)), .int (Int32.ofInt 0), .int (Int32.ofInt (m1 23 8))])))) (st2 := (10, [(some (.ref 23))], [], zk c m4)) ⟨[zo, zo, zo], _, rfl, ⟨trivial, trivial, ⟨(Nat.lt_of_lt_of_le (Nat.le_of_ble_eq_true rfl) hN), rfl, rfl⟩, trivial⟩⟩ (z_steq rfl rfl ((zk_up c m1 23 7 0 _ rfl).trans (by rw [hm4]))) ?_
  clear em1
  obtain ⟨m7, hm7⟩ : ∃ q, q = zm_up m4 23 4 0 := ⟨_, rfl⟩
  have hIm7 : zI c mM m7 := by rw [hm7]; exact zI_up hIm4 (zOk_p (by decide)) (show (0 : Int) ≤ 0 ∧ 0 ≤ 1 by omega)
  have em7 : m7 23 4 = 0 := by rw [hm7]; exact zm_eq
  have tk8 : zN m m7 := by rw [hm7]; exact zN_up tk5 (by unfold zRow; omega)
  have tk9 : zD9 (fun p i => p = 23) m m7 := by rw [hm7]; exact zD9_up tk6 (by first | rfl | omega | (dsimp only; omega))
  clear tk5 tk6
  refine zW.step (st1 := (15, [(some (.ref 23))], [], z_hup (zk c m4) 23 (.inr (5, [.ref 24, .ref 65, .ref 66, .ref 67, .int (Int32.ofInt 0), .int (Int32.ofInt (m4 23 5)), .int (Int32.ofInt (m4 23 6)), .int (Int32.ofInt (m4 23 7)), .int (Int32.ofInt (m4 23 8))])))) (st2 := (15, [(some (.ref 23))], [], zk c m7)) ⟨[zo, zo, zo], _, rfl, ⟨trivial, trivial, ⟨(Nat.lt_of_lt_of_le (Nat.le_of_ble_eq_true rfl) hN), (z_narZ rfl (by omega)), rfl⟩, trivial⟩⟩ (z_steq rfl rfl ((zk_up c m4 23 4 0 _ rfl).trans (by rw [hm7]))) ?_
  clear em4
  exact zW.fin (zfin_v rfl rfl) ⟨m7, rfl, rfl, hIm7, tk8, tk9⟩

set_option maxRecDepth 100000 in
set_option maxHeartbeats 4000000 in
theorem S_X11_moveIn (zn : Bool) (d : Nat) {c : Nat × Nat} {mM : zM} (hN : 107 ≤ c.1) (hC : c.1 < z_RO) (t9 : Int) (m : zM) (hIm : zI c mM m) (ht : 0 ≤ t9 ∧ t9 ≤ 999999000) (hH : zH t9 m) : zCi zn (d + 3) 163 [.ref 0] c m (fun (r : Int) (m1 : zM) => zI c m1 m1 ∧ (-2147483648 ≤ r ∧ r ≤ 2147483647) ∧ (r = m 8 185 ∧ m1 1 1 = 0 ∧ m1 75 5 = 0 ∧ m1 0 12 = 1) ∧ zH (t9) m1 ∧ zD9 (fun p i => (13 ≤ p ∧ p ≤ 17) ∨ p = 23 ∨ (p = 75 ∧ i = 5) ∨ (p = 0 ∧ i = 12) ∨ (p = 1 ∧ i = 1)) m m1) := by
  refine zCi.of zu_X11_moveIn hC (Nat.le_of_ble_eq_true rfl) ?_
  show zW zn (d + 2) 163 c (0, [(some (.ref 0))], [], zk c m) (fun v h1 => ∃ (r : Int) (m1 : zM), v = some (.int (Int32.ofInt r)) ∧ h1 = zk c m1 ∧ zI c m1 m1 ∧ (-2147483648 ≤ r ∧ r ≤ 2147483647) ∧ (r = m 8 185 ∧ m1 1 1 = 0 ∧ m1 75 5 = 0 ∧ m1 0 12 = 1) ∧ zH (t9) m1 ∧ zD9 (fun p i => (13 ≤ p ∧ p ≤ 17) ∨ p = 23 ∨ (p = 75 ∧ i = 5) ∨ (p = 0 ∧ i = 12) ∨ (p = 1 ∧ i = 1)) m m1)
  have f1 : (0 : Int) ≤ m 1 1 ∧ m 1 1 ≤ 240 := hIm.1 1 1
  have f2 : (0 : Int) ≤ m 75 5 ∧ m 75 5 ≤ 6 := hIm.1 75 5
  have f3 : (0 : Int) ≤ m 0 12 ∧ m 0 12 ≤ 1 := hIm.1 0 12
  have f4 : (0 : Int) ≤ m 8 185 ∧ m 8 185 ≤ 10 := zr_c hIm zS_8
  have f5 : (0 : Int) ≤ m 17 185 ∧ m 17 185 ≤ 10 := zr_c hIm zS_17
  refine zW.step (st1 := (11, [(some (.ref 0))], [.ref 4, .ref 13], zk c m)) (st2 := (11, [(some (.ref 0))], [.ref 4, .ref 13], zk c m)) ⟨[zo, zo, zo, zo, zo], _, rfl, ⟨trivial, (Nat.lt_of_lt_of_le (Nat.le_of_ble_eq_true rfl) hN), trivial, (Nat.lt_of_lt_of_le (Nat.le_of_ble_eq_true rfl) hN), (Nat.lt_of_lt_of_le (Nat.le_of_ble_eq_true rfl) hN), trivial⟩⟩ rfl ?_
  obtain ⟨m6, hs6, hIm6, kN_6, kD_6⟩ := S_X6_copy_F zn (d + 1) hN hC m hIm
  refine zW.step (st1 := (14, [(some (.ref 0))], [], zk c m6)) ⟨[zc (none) (zk c m6)], _, rfl, ⟨⟨⟨(Nat.lt_of_lt_of_le (Nat.le_of_ble_eq_true rfl) hN), (Nat.le_of_ble_eq_true rfl)⟩, hs6, (Nat.le_of_ble_eq_true rfl), Nat.le_refl _, Nat.le_refl _, Nat.le_refl _, Nat.le_refl _⟩, trivial⟩⟩ rfl ?_
  have f7 : (0 : Int) ≤ m6 1 1 ∧ m6 1 1 ≤ 240 := hIm6.1 1 1
  have f8 : m6 1 1 = m 1 1 := kD_6 1 1 (by omega)
  have f9 : (0 : Int) ≤ m6 75 5 ∧ m6 75 5 ≤ 6 := hIm6.1 75 5
  have f10 : m6 75 5 = m 75 5 := kD_6 75 5 (by omega)
  have f11 : (0 : Int) ≤ m6 0 12 ∧ m6 0 12 ≤ 1 := hIm6.1 0 12
  have f12 : m6 0 12 = m 0 12 := kD_6 0 12 (by omega)
  have f13 : (0 : Int) ≤ m6 8 185 ∧ m6 8 185 ≤ 10 := zr_c hIm6 zS_8
  have f14 : m6 8 185 = m 8 185 := kD_6 8 185 (by omega)
  have f15 : (0 : Int) ≤ m6 17 185 ∧ m6 17 185 ≤ 10 := zr_c hIm6 zS_17
  have f16 : m6 17 185 = m 17 185 := kD_6 17 185 (by omega)
  have tk17 : zH t9 m6 := zH_N hH kN_6
  have tk18 : zD9 (fun p i => (13 ≤ p ∧ p ≤ 17) ∨ p = 23 ∨ (p = 75 ∧ i = 5) ∨ (p = 0 ∧ i = 12) ∨ (p = 1 ∧ i = 1)) m m6 := zD9_tr zD9_rf (zD9_mo kD_6 (fun p i w => by have w2 : 13 ≤ p ∧ p ≤ 16 := w; show (13 ≤ p ∧ p ≤ 17) ∨ p = 23 ∨ (p = 75 ∧ i = 5) ∨ (p = 0 ∧ i = 12) ∨ (p = 1 ∧ i = 1); omega))
  obtain ⟨m19, hm19⟩ : ∃ q, q = zm_cp m6 17 8 188 := ⟨_, rfl⟩
  have hIm19 := zI_cpE hIm6 hm19 (by omega) (fun i _ => zS_cp zS_17 zS_8 i)
  have tk20 : zH t9 m19 := by rw [hm19]; exact zH_cp tk17 (Or.inr (Or.inr (tk17 8 (by unfold zQ; omega))))
  have tk21 : zD9 (fun p i => (13 ≤ p ∧ p ≤ 17) ∨ p = 23 ∨ (p = 75 ∧ i = 5) ∨ (p = 0 ∧ i = 12) ∨ (p = 1 ∧ i = 1)) m m19 := by rw [hm19]; exact zD9_cp tk18 (fun i => by omega)
  have f22 : m19 17 185 = m6 8 185 := by rw [hm19]; exact zm_cp_eq (by decide)
  refine zW.step (st1 := (33, [(some (.ref 0))], [], z_hup (zk c m6) 17 (.inl (0, 188, .inl (va_cpy (fun j => Int32.ofInt (m6 8 j)) (fun j => Int32.ofInt (m6 17 j)) (Int32.ofInt 0).toNatClampNeg (Int32.ofInt 0).toNatClampNeg ((Int16.ofInt 188).toInt32).toNatClampNeg))))) (st2 := (33, [(some (.ref 0))], [], zk c m19)) ⟨[zo, zo, zo, zo, zo, zo, zo, zo, (false, 0, none, (0, 0, fun _ => .inl (0, 188, .inl (fun j => Int32.ofInt (m6 8 j)))), some (.inl (0, 188, .inl (fun j => Int32.ofInt (m6 17 j)))))], _, rfl, ⟨trivial, (Nat.lt_of_lt_of_le (Nat.le_of_ble_eq_true rfl) hN), (Nat.lt_of_lt_of_le (Nat.le_of_ble_eq_true rfl) hN), trivial, trivial, (Nat.lt_of_lt_of_le (Nat.le_of_ble_eq_true rfl) hN), trivial, trivial, ⟨zk_ra c m6 zA_17 (Nat.lt_of_lt_of_le (Nat.le_of_ble_eq_true rfl) hN), zk_ra c m6 zA_8 (Nat.lt_of_lt_of_le (Nat.le_of_ble_eq_true rfl) hN), (by decide), (by decide), (by decide), (by decide), (by decide), (Nat.le_of_ble_eq_true rfl)⟩, trivial⟩⟩ (z_steq rfl rfl ((zk_acp c m6 zA_17 rfl rfl (by decide : (Int16.ofInt 188).toInt32 = Int32.ofInt 188) (⟨by decide, by decide⟩ : zR 188)).trans (by rw [hm19]; rfl))) ?_
  refine zW.step (st1 := (37, [(some (.ref 0))], [.ref 23], zk c m19)) (st2 := (37, [(some (.ref 0))], [.ref 23], zk c m19)) ⟨[zo, zo], _, rfl, ⟨trivial, (Nat.lt_of_lt_of_le (Nat.le_of_ble_eq_true rfl) hN), trivial⟩⟩ rfl ?_
  obtain ⟨m23, hs23, hIm23, kN_23, kD_23⟩ := S_X5_forget_F zn (d + 1) hN hC m19 hIm19
  refine zW.step (st1 := (40, [(some (.ref 0))], [], zk c m23)) ⟨[zc (none) (zk c m23)], _, rfl, ⟨⟨⟨(Nat.lt_of_lt_of_le (Nat.le_of_ble_eq_true rfl) hN), (Nat.le_of_ble_eq_true rfl)⟩, hs23, (Nat.le_of_ble_eq_true rfl), Nat.le_refl _, Nat.le_refl _, Nat.le_refl _, Nat.le_refl _⟩, trivial⟩⟩ rfl ?_
  have f24 : (0 : Int) ≤ m23 1 1 ∧ m23 1 1 ≤ 240 := hIm23.1 1 1
  have f25 : m23 1 1 = m19 1 1 := kD_23 1 1 (by omega)
  have f26 : (0 : Int) ≤ m23 75 5 ∧ m23 75 5 ≤ 6 := hIm23.1 75 5
  have f27 : m23 75 5 = m19 75 5 := kD_23 75 5 (by omega)
  have f28 : (0 : Int) ≤ m23 0 12 ∧ m23 0 12 ≤ 1 := hIm23.1 0 12
  have f29 : m23 0 12 = m19 0 12 := kD_23 0 12 (by omega)
  have f30 : (0 : Int) ≤ m23 8 185 ∧ m23 8 185 ≤ 10 := zr_c hIm23 zS_8
  have f31 : m23 8 185 = m19 8 185 := kD_23 8 185 (by omega)
  have f32 : (0 : Int) ≤ m23 17 185 ∧ m23 17 185 ≤ 10 := zr_c hIm23 zS_17
  have f33 : m23 17 185 = m19 17 185 := kD_23 17 185 (by omega)
  have tk34 : zH t9 m23 := zH_N tk20 kN_23
  have tk35 : zD9 (fun p i => (13 ≤ p ∧ p ≤ 17) ∨ p = 23 ∨ (p = 75 ∧ i = 5) ∨ (p = 0 ∧ i = 12) ∨ (p = 1 ∧ i = 1)) m m23 := zD9_tr tk21 (zD9_mo kD_23 (fun p i w => by have w2 : p = 23 := w; show (13 ≤ p ∧ p ≤ 17) ∨ p = 23 ∨ (p = 75 ∧ i = 5) ∨ (p = 0 ∧ i = 12) ∨ (p = 1 ∧ i = 1); omega))
  obtain ⟨m36, hm36⟩ : ∃ q, q = zm_up m23 75 5 0 := ⟨_, rfl⟩
  have hIm36 := zI_upS hIm23 hm36 (by unfold zOb; omega) (show (0 : Int) ≤ 0 ∧ 0 ≤ 6 by omega)
  have em36 : m36 75 5 = 0 := by rw [hm36]; exact zm_eq
  have f37 : m36 1 1 = m23 1 1 := by rw [hm36]; exact zm_ne (by omega)
  have f38 : m36 0 12 = m23 0 12 := by rw [hm36]; exact zm_ne (by omega)
  have f39 : m36 8 185 = m23 8 185 := by rw [hm36]; exact zm_ne (by omega)
  have f40 : m36 17 185 = m23 17 185 := by rw [hm36]; exact zm_ne (by omega)
  have tk41 : zH t9 m36 := by rw [hm36]; exact zH_up tk34 (by unfold zQ; omega)
  have tk42 : zD9 (fun p i => (13 ≤ p ∧ p ≤ 17) ∨ p = 23 ∨ (p = 75 ∧ i = 5) ∨ (p = 0 ∧ i = 12) ∨ (p = 1 ∧ i = 1)) m m36 := by rw [hm36]; exact zD9_up tk35 (by first | rfl | omega | (dsimp only; omega))
  clear tk34 tk35
  refine zW.step (st1 := (48, [(some (.ref 0))], [], z_hup (zk c m23) 75 (.inr (1, [.ref 13, .ref 18, .ref 76, .ref 77, .ref 78, .int (Int32.ofInt 0)])))) (st2 := (48, [(some (.ref 0))], [], zk c m36)) ⟨[zo, zo, zo, zo], _, rfl, ⟨trivial, (Nat.lt_of_lt_of_le (Nat.le_of_ble_eq_true rfl) hN), trivial, ⟨(Nat.lt_of_lt_of_le (Nat.le_of_ble_eq_true rfl) hN), rfl, rfl⟩, trivial⟩⟩ (z_steq rfl rfl ((zk_up c m23 75 5 0 _ rfl).trans (by rw [hm36]))) ?_
  obtain ⟨m43, hm43⟩ : ∃ q, q = zm_up m36 0 12 1 := ⟨_, rfl⟩
  have hIm43 := zI_upS hIm36 hm43 (by unfold zOb; omega) (show (0 : Int) ≤ 1 ∧ 1 ≤ 1 by omega)
  have em43 : m43 0 12 = 1 := by rw [hm43]; exact zm_eq
  have f44 : m43 1 1 = m36 1 1 := by rw [hm43]; exact zm_ne (by omega)
  have f45 : m43 8 185 = m36 8 185 := by rw [hm43]; exact zm_ne (by omega)
  have f46 : m43 17 185 = m36 17 185 := by rw [hm43]; exact zm_ne (by omega)
  have f47 : m43 75 5 = m36 75 5 := by rw [hm43]; exact zm_ne (by omega)
  have tk48 : zH t9 m43 := by rw [hm43]; exact zH_up tk41 (by unfold zQ; omega)
  have tk49 : zD9 (fun p i => (13 ≤ p ∧ p ≤ 17) ∨ p = 23 ∨ (p = 75 ∧ i = 5) ∨ (p = 0 ∧ i = 12) ∨ (p = 1 ∧ i = 1)) m m43 := by rw [hm43]; exact zD9_up tk42 (by first | rfl | omega | (dsimp only; omega))
  clear tk41 tk42
  refine zW.step (st1 := (53, [(some (.ref 0))], [], z_hup (zk c m36) 0 (.inr (11, [.ref 1, .ref 3, .ref 10, .ref 12, .ref 13, .ref 17, .ref 18, .ref 23, .ref 68, .ref 69, .ref 73, .ref 75, .int (Int32.ofInt 1), .int (Int32.ofInt (m36 0 13)), .int (Int32.ofInt (m36 0 14))])))) (st2 := (53, [(some (.ref 0))], [], zk c m43)) ⟨[zo, zo, zo], _, rfl, ⟨trivial, trivial, ⟨(Nat.lt_of_lt_of_le (Nat.le_of_ble_eq_true rfl) hN), (z_narZ rfl (by omega)), rfl⟩, trivial⟩⟩ (z_steq rfl rfl ((zk_up c m36 0 12 1 _ rfl).trans (by rw [hm43]))) ?_
  obtain ⟨m50, hm50⟩ : ∃ q, q = zm_up m43 1 1 0 := ⟨_, rfl⟩
  have hIm50 := zI_upS hIm43 hm50 (by unfold zOb; omega) (show (0 : Int) ≤ 0 ∧ 0 ≤ 240 by omega)
  have em50 : m50 1 1 = 0 := by rw [hm50]; exact zm_eq
  have f51 : m50 8 185 = m43 8 185 := by rw [hm50]; exact zm_ne (by omega)
  have f52 : m50 17 185 = m43 17 185 := by rw [hm50]; exact zm_ne (by omega)
  have f53 : m50 75 5 = m43 75 5 := by rw [hm50]; exact zm_ne (by omega)
  have f54 : m50 0 12 = m43 0 12 := by rw [hm50]; exact zm_ne (by omega)
  have tk55 : zH t9 m50 := by rw [hm50]; exact zH_up tk48 (by unfold zQ; omega)
  have tk56 : zD9 (fun p i => (13 ≤ p ∧ p ≤ 17) ∨ p = 23 ∨ (p = 75 ∧ i = 5) ∨ (p = 0 ∧ i = 12) ∨ (p = 1 ∧ i = 1)) m m50 := by rw [hm50]; exact zD9_up tk49 (by first | rfl | omega | (dsimp only; omega))
  clear tk48 tk49
  refine zW.step (st1 := (61, [(some (.ref 0))], [], z_hup (zk c m43) 1 (.inr (8, [.ref 2, .int (Int32.ofInt 0), .int (Int32.ofInt (m43 1 2)), .int (Int32.ofInt (m43 1 3))])))) (st2 := (61, [(some (.ref 0))], [], zk c m50)) ⟨[zo, zo, zo, zo], _, rfl, ⟨trivial, (Nat.lt_of_lt_of_le (Nat.le_of_ble_eq_true rfl) hN), trivial, ⟨(Nat.lt_of_lt_of_le (Nat.le_of_ble_eq_true rfl) hN), rfl, rfl⟩, trivial⟩⟩ (z_steq rfl rfl ((zk_up c m43 1 1 0 _ rfl).trans (by rw [hm50]))) ?_
  have f57 : (0 : Int) ≤ m50 17 185 ∧ m50 17 185 ≤ 10 := zr_c hIm50 zS_17
  refine zW.step (st1 := (69, [(some (.ref 0))], [.int (Int32.ofInt (m50 17 ((Int16.ofInt 185).toInt32).toNatClampNeg))], zk c m50)) (st2 := (69, [(some (.ref 0))], [.int (Int32.ofInt (m50 17 185))], zk c m50)) ⟨[zo, zo, zo, (false, 0, none, zh0, some (.inl (0, 188, .inl (fun j => Int32.ofInt (m50 17 j)))))], _, rfl, ⟨trivial, (Nat.lt_of_lt_of_le (Nat.le_of_ble_eq_true rfl) hN), trivial, ⟨zk_ra c m50 zA_17 (Nat.lt_of_lt_of_le (Nat.le_of_ble_eq_true rfl) hN), zi_in (by decide : (Int16.ofInt 185).toInt32 = Int32.ofInt 185) (by omega) (by omega) (by omega)⟩, trivial⟩⟩ (z_steq rfl (z_c1 (z_vi ((zk_rd (f := m50 17) (by decide : (Int16.ofInt 185).toInt32 = Int32.ofInt 185) (⟨by decide, by decide⟩ : zR 185)).trans rfl : Int32.ofInt (m50 17 ((Int16.ofInt 185).toInt32).toNatClampNeg) = Int32.ofInt (m50 17 185))) rfl) rfl) ?_
  exact zW.fin (zfin_i rfl rfl rfl) ⟨m50 17 185, m50, rfl, rfl, (zI_self hIm50), (by omega), (by omega), (zH_le tk55 (by omega)), tk56⟩

set_option maxRecDepth 100000 in
set_option maxHeartbeats 4000000 in
theorem S_X11_text_0 (zn : Bool) (d : Nat) {c : Nat × Nat} {mM : zM} (hN : 107 ≤ c.1) (hC : c.1 < z_RO) (sort : Int) (t9 : Int) (m : zM) (hIm : zI c mM m) (r_sort : -2147483648 ≤ sort ∧ sort ≤ 2147483647) (ht : 0 ≤ t9 ∧ t9 ≤ 999999000) (hH : zH t9 m) (s0 : sort ≠ 1) : zCi zn (d + 9) 180 [.ref 0, .int (Int32.ofInt sort)] c m (fun (r : Int) (m1 : zM) => zI c m1 m1 ∧ (-2147483648 ≤ r ∧ r ≤ 2147483647) ∧ (sort = 0 ∧ zhF (mM 2) (mM 1 1) = -1 → r = ((zhs (mM 2) (mM 1 1)).2.2 79 29) ∧ m1 1 1 = 0 ∧ m1 75 5 = 0 ∧ m1 0 12 = 1) ∧ (sort ≠ 0 ∨ zhF (mM 2) (mM 1 1) ≠ -1 → r = -1 ∧ m1 1 1 = mM 1 1 ∧ m1 75 5 = mM 75 5 ∧ m1 0 12 = mM 0 12) ∧ zH (t9) m1 ∧ zD9 (fun p i => (p = 1 ∧ (i = 1 ∨ i = 2 ∨ i = 3)) ∨ (4 ≤ p ∧ p ≤ 9) ∨ (13 ≤ p ∧ p ≤ 17) ∨ p = 23 ∨ (p = 75 ∧ i = 5) ∨ (p = 0 ∧ i = 12)) m m1) := by
  refine zCi.of zu_X11_text hC (Nat.le_of_ble_eq_true rfl) ?_
  show zW zn (d + 8) 180 c (0, [(some (.ref 0)), (some (.int (Int32.ofInt sort)))], [], zk c m) (fun v h1 => ∃ (r : Int) (m1 : zM), v = some (.int (Int32.ofInt r)) ∧ h1 = zk c m1 ∧ zI c m1 m1 ∧ (-2147483648 ≤ r ∧ r ≤ 2147483647) ∧ (sort = 0 ∧ zhF (mM 2) (mM 1 1) = -1 → r = ((zhs (mM 2) (mM 1 1)).2.2 79 29) ∧ m1 1 1 = 0 ∧ m1 75 5 = 0 ∧ m1 0 12 = 1) ∧ (sort ≠ 0 ∨ zhF (mM 2) (mM 1 1) ≠ -1 → r = -1 ∧ m1 1 1 = mM 1 1 ∧ m1 75 5 = mM 75 5 ∧ m1 0 12 = mM 0 12) ∧ zH (t9) m1 ∧ zD9 (fun p i => (p = 1 ∧ (i = 1 ∨ i = 2 ∨ i = 3)) ∨ (4 ≤ p ∧ p ≤ 9) ∨ (13 ≤ p ∧ p ≤ 17) ∨ p = 23 ∨ (p = 75 ∧ i = 5) ∨ (p = 0 ∧ i = 12)) m m1)
  have f1 : (0 : Int) ≤ m 1 1 ∧ m 1 1 ≤ 240 := hIm.1 1 1
  have f2 : (0 : Int) ≤ m 75 5 ∧ m 75 5 ≤ 6 := hIm.1 75 5
  have f3 : (0 : Int) ≤ m 0 12 ∧ m 0 12 ≤ 1 := hIm.1 0 12
  have f4 : (0 : Int) ≤ m 8 185 ∧ m 8 185 ≤ 10 := zr_c hIm zS_8
  have q5 := zn_k hIm
  by_cases b6 : sort = 0
  · refine zW.step (st1 := (4, [(some (.ref 0)), (some (.int (Int32.ofInt sort)))], [], zk c m)) (st2 := (4, [(some (.ref 0)), (some (.int (Int32.ofInt sort)))], [], zk c m)) ⟨[zo, zo], _, rfl, ⟨trivial, zbf (fun q => q ((zi_eq rfl (rfl : (0 : Int32) = Int32.ofInt 0) (by unfold zR; omega) (⟨by decide, by decide⟩ : zR 0)).mpr b6)), trivial⟩⟩ rfl ?_
    refine zW.step (st1 := (8, [(some (.ref 0)), (some (.int (Int32.ofInt sort)))], [.ref 3], zk c m)) (st2 := (8, [(some (.ref 0)), (some (.int (Int32.ofInt sort)))], [.ref 3], zk c m)) ⟨[zo, zo], _, rfl, ⟨trivial, (Nat.lt_of_lt_of_le (Nat.le_of_ble_eq_true rfl) hN), trivial⟩⟩ rfl ?_
    obtain ⟨r7, m7, hs7, hIm7, q_7, f_7, s_7, kD_7, kH_7⟩ := S_X4_read_F zn (d + 0) hN hC t9 m hIm (by omega) hH
    refine zW.step (st1 := (11, [(some (.ref 0)), (some (.int (Int32.ofInt sort)))], [.int (Int32.ofInt r7)], zk c m7)) ⟨[zc (some (.int (Int32.ofInt r7))) (zk c m7)], _, rfl, ⟨⟨⟨(Nat.lt_of_lt_of_le (Nat.le_of_ble_eq_true rfl) hN), (Nat.le_of_ble_eq_true rfl)⟩, hs7, (Nat.le_of_ble_eq_true rfl), Nat.le_refl _, Nat.le_refl _, Nat.le_refl _, Nat.le_refl _⟩, trivial⟩⟩ rfl ?_
    have f8 : (0 : Int) ≤ m7 1 1 ∧ m7 1 1 ≤ 240 := hIm7.1 1 1
    have f9 : m7 1 1 = m 1 1 := kD_7 1 1 (by omega)
    have f10 : (0 : Int) ≤ m7 75 5 ∧ m7 75 5 ≤ 6 := hIm7.1 75 5
    have f11 : m7 75 5 = m 75 5 := kD_7 75 5 (by omega)
    have f12 : (0 : Int) ≤ m7 0 12 ∧ m7 0 12 ≤ 1 := hIm7.1 0 12
    have f13 : m7 0 12 = m 0 12 := kD_7 0 12 (by omega)
    have f14 : (0 : Int) ≤ m7 8 185 ∧ m7 8 185 ≤ 10 := zr_c hIm7 zS_8
    have tk15 : zH t9 m7 := kH_7
    have tk16 : zD9 (fun p i => (p = 1 ∧ (i = 1 ∨ i = 2 ∨ i = 3)) ∨ (4 ≤ p ∧ p ≤ 9) ∨ (13 ≤ p ∧ p ≤ 17) ∨ p = 23 ∨ (p = 75 ∧ i = 5) ∨ (p = 0 ∧ i = 12)) m m7 := zD9_tr zD9_rf (zD9_mo kD_7 (fun p i w => by have w2 : (p = 1 ∧ (i = 2 ∨ i = 3)) ∨ (4 ≤ p ∧ p ≤ 9) := w; show (p = 1 ∧ (i = 1 ∨ i = 2 ∨ i = 3)) ∨ (4 ≤ p ∧ p ≤ 9) ∨ (13 ≤ p ∧ p ≤ 17) ∨ p = 23 ∨ (p = 75 ∧ i = 5) ∨ (p = 0 ∧ i = 12); omega))
    have q8 := zhf_F f_7
    by_cases b18 : r7 = (-1)
    · refine zW.step (st1 := (15, [(some (.ref 0)), (some (.int (Int32.ofInt sort)))], [], zk c m7)) (st2 := (15, [(some (.ref 0)), (some (.int (Int32.ofInt sort)))], [], zk c m7)) ⟨[zo, zo], _, rfl, ⟨trivial, zbf (fun q => q ((zi_eq rfl rfl (by unfold zR; omega) (⟨by decide, by decide⟩ : zR (-1))).mpr b18)), trivial⟩⟩ rfl ?_
      have q9 : ((zhs (mM 2) (mM 1 1)).2.2 79 29) = m7 8 185 := by rw [← s_7 (by omega)]; exact zWc_29 _
      refine zW.step (st1 := (16, [(some (.ref 0)), (some (.int (Int32.ofInt sort)))], [.ref 0], zk c m7)) (st2 := (16, [(some (.ref 0)), (some (.int (Int32.ofInt sort)))], [.ref 0], zk c m7)) ⟨[zo], _, rfl, ⟨trivial, trivial⟩⟩ rfl ?_
      obtain ⟨r20, m20, hs20, hIm20, q_20, v_20, kH_20, kD_20⟩ := S_X11_moveIn zn (d + 5) hN hC t9 m7 hIm7 (by omega) tk15
      refine zW.step (st1 := (19, [(some (.ref 0)), (some (.int (Int32.ofInt sort)))], [.int (Int32.ofInt r20)], zk c m20)) ⟨[zc (some (.int (Int32.ofInt r20))) (zk c m20)], _, rfl, ⟨⟨⟨(Nat.lt_of_lt_of_le (Nat.le_of_ble_eq_true rfl) hN), (Nat.le_of_ble_eq_true rfl)⟩, hs20, (Nat.le_of_ble_eq_true rfl), Nat.le_refl _, Nat.le_refl _, Nat.le_refl _, Nat.le_refl _⟩, trivial⟩⟩ rfl ?_
      have f21 : (0 : Int) ≤ m20 1 1 ∧ m20 1 1 ≤ 240 := hIm20.1 1 1
      have f22 : (0 : Int) ≤ m20 75 5 ∧ m20 75 5 ≤ 6 := hIm20.1 75 5
      have f23 : (0 : Int) ≤ m20 0 12 ∧ m20 0 12 ≤ 1 := hIm20.1 0 12
      have f24 : (0 : Int) ≤ m20 8 185 ∧ m20 8 185 ≤ 10 := zr_c hIm20 zS_8
      have f25 : m20 8 185 = m7 8 185 := kD_20 8 185 (by omega)
      have tk26 : zH t9 m20 := kH_20
      have tk27 : zD9 (fun p i => (p = 1 ∧ (i = 1 ∨ i = 2 ∨ i = 3)) ∨ (4 ≤ p ∧ p ≤ 9) ∨ (13 ≤ p ∧ p ≤ 17) ∨ p = 23 ∨ (p = 75 ∧ i = 5) ∨ (p = 0 ∧ i = 12)) m m20 := zD9_tr tk16 (zD9_mo kD_20 (fun p i w => by have w2 : (13 ≤ p ∧ p ≤ 17) ∨ p = 23 ∨ (p = 75 ∧ i = 5) ∨ (p = 0 ∧ i = 12) ∨ (p = 1 ∧ i = 1) := w; show (p = 1 ∧ (i = 1 ∨ i = 2 ∨ i = 3)) ∨ (4 ≤ p ∧ p ≤ 9) ∨ (13 ≤ p ∧ p ≤ 17) ∨ p = 23 ∨ (p = 75 ∧ i = 5) ∨ (p = 0 ∧ i = 12); omega))
      refine zW.step (st1 := (23, [(some (.ref 0)), (some (.int (Int32.ofInt sort)))], [.int (Int32.ofInt r20)], zk c m20)) (st2 := (23, [(some (.ref 0)), (some (.int (Int32.ofInt sort)))], [.int (Int32.ofInt r20)], zk c m20)) ⟨[zo], _, rfl, ⟨trivial, trivial⟩⟩ rfl ?_
      exact zW.fin (zfin_i rfl rfl rfl) ⟨r20, m20, rfl, rfl, (zI_self hIm20), (by omega), (by omega), (by omega), (zH_le tk26 (by omega)), tk27⟩
    · refine zW.step (st1 := (22, [(some (.ref 0)), (some (.int (Int32.ofInt sort)))], [], zk c m7)) (st2 := (22, [(some (.ref 0)), (some (.int (Int32.ofInt sort)))], [], zk c m7)) ⟨[zo, zt], _, rfl, ⟨trivial, zbt (fun q => b18 ((zi_eq rfl rfl (by unfold zR; omega) (⟨by decide, by decide⟩ : zR (-1))).mp q)), trivial⟩⟩ rfl ?_
      have q28 := zn_k hIm7
      refine zW.step (st1 := (23, [(some (.ref 0)), (some (.int (Int32.ofInt sort)))], [.int (Int32.ofInt (-1))], zk c m7)) (st2 := (23, [(some (.ref 0)), (some (.int (Int32.ofInt sort)))], [.int (Int32.ofInt (-1))], zk c m7)) ⟨[zo], _, rfl, ⟨trivial, trivial⟩⟩ rfl ?_
      exact zW.fin (zfin_i rfl rfl rfl) ⟨(-1), m7, rfl, rfl, (zI_self hIm7), (by omega), (by omega), (by omega), (zH_le tk15 (by omega)), tk16⟩
  · refine zW.step (st1 := (24, [(some (.ref 0)), (some (.int (Int32.ofInt sort)))], [], zk c m)) (st2 := (24, [(some (.ref 0)), (some (.int (Int32.ofInt sort)))], [], zk c m)) ⟨[zo, zt], _, rfl, ⟨trivial, zbt (fun q => b6 ((zi_eq rfl (rfl : (0 : Int32) = Int32.ofInt 0) (by unfold zR; omega) (⟨by decide, by decide⟩ : zR 0)).mp q)), trivial⟩⟩ rfl ?_
    by_cases b29 : sort = 1
    · refine zW.step (st1 := (29, [(some (.ref 0)), (some (.int (Int32.ofInt sort)))], [], zk c m)) (st2 := (29, [(some (.ref 0)), (some (.int (Int32.ofInt sort)))], [], zk c m)) ⟨[zo, zo, zo], _, rfl, ⟨trivial, trivial, zbf (fun q => q ((zi_eq rfl rfl (by unfold zR; omega) (⟨by decide, by decide⟩ : zR 1)).mpr b29)), trivial⟩⟩ rfl ?_
      exfalso; omega
    · refine zW.step (st1 := (57, [(some (.ref 0)), (some (.int (Int32.ofInt sort)))], [], zk c m)) (st2 := (57, [(some (.ref 0)), (some (.int (Int32.ofInt sort)))], [], zk c m)) ⟨[zo, zo, zt], _, rfl, ⟨trivial, trivial, zbt (fun q => b29 ((zi_eq rfl rfl (by unfold zR; omega) (⟨by decide, by decide⟩ : zR 1)).mp q)), trivial⟩⟩ rfl ?_
      refine zW.step (st1 := (58, [(some (.ref 0)), (some (.int (Int32.ofInt sort)))], [.int (Int32.ofInt (-1))], zk c m)) (st2 := (58, [(some (.ref 0)), (some (.int (Int32.ofInt sort)))], [.int (Int32.ofInt (-1))], zk c m)) ⟨[zo], _, rfl, ⟨trivial, trivial⟩⟩ rfl ?_
      exact zW.fin (zfin_i rfl rfl rfl) ⟨(-1), m, rfl, rfl, (zI_self hIm), (by omega), (by omega), (by omega), (zH_le hH (by omega)), zD9_rf⟩

set_option maxRecDepth 100000 in
set_option maxHeartbeats 4000000 in
theorem S_X11_fault_F (zn : Bool) (d : Nat) {c : Nat × Nat} {mM : zM} (hN : 107 ≤ c.1) (hC : c.1 < z_RO) (which : Int) (t9 : Int) (m : zM) (hIm : zI c mM m) (r_which : -2147483648 ≤ which ∧ which ≤ 2147483647) (ht : 0 ≤ t9 ∧ t9 ≤ 999999000) (hH : zH t9 m) : zCi zn (d + 37) 140 [.ref 0, .int (Int32.ofInt which)] c m (fun (r : Int) (m1 : zM) => zI c mM m1 ∧ (-2147483648 ≤ r ∧ r ≤ 2147483647) ∧ (which = 0 → r = zhF (mM 2) (mM 1 1)) ∧ (which = 1 → r = zt_fault (mM 2) (mM 1 1)) ∧ (which ≠ 0 ∧ which ≠ 1 → r = -2) ∧ zH (t9) m1) := by
  refine zCi.of zu_X11_fault hC (Nat.le_of_ble_eq_true rfl) ?_
  show zW zn (d + 36) 140 c (0, [(some (.ref 0)), (some (.int (Int32.ofInt which)))], [], zk c m) (fun v h1 => ∃ (r : Int) (m1 : zM), v = some (.int (Int32.ofInt r)) ∧ h1 = zk c m1 ∧ zI c mM m1 ∧ (-2147483648 ≤ r ∧ r ≤ 2147483647) ∧ (which = 0 → r = zhF (mM 2) (mM 1 1)) ∧ (which = 1 → r = zt_fault (mM 2) (mM 1 1)) ∧ (which ≠ 0 ∧ which ≠ 1 → r = -2) ∧ zH (t9) m1)
  by_cases b1 : which = 0
  · refine zW.step (st1 := (28, [(some (.ref 0)), (some (.int (Int32.ofInt which)))], [], zk c m)) (st2 := (28, [(some (.ref 0)), (some (.int (Int32.ofInt which)))], [], zk c m)) ⟨[zo, (true, 0, none, zh0, none)], _, rfl, ⟨trivial, zls rfl (by unfold zR; omega) (by rw [b1]; rfl), trivial⟩⟩ rfl ?_
    refine zW.step (st1 := (32, [(some (.ref 0)), (some (.int (Int32.ofInt which)))], [.ref 3], zk c m)) (st2 := (32, [(some (.ref 0)), (some (.int (Int32.ofInt which)))], [.ref 3], zk c m)) ⟨[zo, zo], _, rfl, ⟨trivial, (Nat.lt_of_lt_of_le (Nat.le_of_ble_eq_true rfl) hN), trivial⟩⟩ rfl ?_
    obtain ⟨r2, m2, hs2, hIm2, q_2, f_2, s_2, kD_2, kH_2⟩ := S_X4_read_F zn (d + 28) hN hC t9 m hIm (by omega) hH
    refine zW.step (st1 := (35, [(some (.ref 0)), (some (.int (Int32.ofInt which)))], [.int (Int32.ofInt r2)], zk c m2)) ⟨[zc (some (.int (Int32.ofInt r2))) (zk c m2)], _, rfl, ⟨⟨⟨(Nat.lt_of_lt_of_le (Nat.le_of_ble_eq_true rfl) hN), (Nat.le_of_ble_eq_true rfl)⟩, hs2, (Nat.le_of_ble_eq_true rfl), Nat.le_refl _, Nat.le_refl _, Nat.le_refl _, Nat.le_refl _⟩, trivial⟩⟩ rfl ?_
    have tk3 : zH t9 m2 := kH_2
    have q8 := zhf_F f_2
    exact zW.fin (zfin_i rfl rfl rfl) ⟨r2, m2, rfl, rfl, hIm2, (by omega), (by first | (intro h; exact absurd h (by omega)) | (intro _; exact q8)), (by omega), (by omega), (zH_le tk3 (by omega))⟩
  by_cases b5 : which = 1
  · refine zW.step (st1 := (36, [(some (.ref 0)), (some (.int (Int32.ofInt which)))], [], zk c m)) (st2 := (36, [(some (.ref 0)), (some (.int (Int32.ofInt which)))], [], zk c m)) ⟨[zo, (true, 1, none, zh0, none)], _, rfl, ⟨trivial, zls rfl (by unfold zR; omega) (by rw [b5]; rfl), trivial⟩⟩ rfl ?_
    refine zW.step (st1 := (40, [(some (.ref 0)), (some (.int (Int32.ofInt which)))], [.ref 10], zk c m)) (st2 := (40, [(some (.ref 0)), (some (.int (Int32.ofInt which)))], [.ref 10], zk c m)) ⟨[zo, zo], _, rfl, ⟨trivial, (Nat.lt_of_lt_of_le (Nat.le_of_ble_eq_true rfl) hN), trivial⟩⟩ rfl ?_
    obtain ⟨r6, m6, hs6, hIm6, q_6, f_6, p9_6, kN_6⟩ := S_X10_read_F zn (d + 0) hN hC m hIm
    refine zW.step (st1 := (43, [(some (.ref 0)), (some (.int (Int32.ofInt which)))], [.int (Int32.ofInt r6)], zk c m6)) ⟨[zc (some (.int (Int32.ofInt r6))) (zk c m6)], _, rfl, ⟨⟨⟨(Nat.lt_of_lt_of_le (Nat.le_of_ble_eq_true rfl) hN), (Nat.le_of_ble_eq_true rfl)⟩, hs6, (Nat.le_of_ble_eq_true rfl), Nat.le_refl _, Nat.le_refl _, Nat.le_refl _, Nat.le_refl _⟩, trivial⟩⟩ rfl ?_
    have tk7 : zH t9 m6 := zH_N hH kN_6
    exact zW.fin (zfin_i rfl rfl rfl) ⟨r6, m6, rfl, rfl, hIm6, (by omega), (by first | (intro h; exact absurd h (by omega)) | (intro _; exact q8)), (by omega), (by omega), (zH_le tk7 (by omega))⟩
  refine zW.step (st1 := (44, [(some (.ref 0)), (some (.int (Int32.ofInt which)))], [], zk c m)) (st2 := (44, [(some (.ref 0)), (some (.int (Int32.ofInt which)))], [], zk c m)) ⟨[zo, zo], _, rfl, ⟨trivial, zls rfl (by unfold zR; omega) (by show (if (0 : Int) = which then _ else if (1 : Int) = which then _ else _) = _; rw [if_neg (by omega), if_neg (by omega)] <;> rfl), trivial⟩⟩ rfl ?_
  refine zW.step (st1 := (46, [(some (.ref 0)), (some (.int (Int32.ofInt which)))], [.int ((Int8.ofInt (-2)).toInt32)], zk c m)) (st2 := (46, [(some (.ref 0)), (some (.int (Int32.ofInt which)))], [.int (Int32.ofInt (-2))], zk c m)) ⟨[zo], _, rfl, ⟨trivial, trivial⟩⟩ (z_steq rfl (z_c1 (z_vi (by decide : (Int8.ofInt (-2)).toInt32 = Int32.ofInt (-2))) rfl) rfl) ?_
  exact zW.fin (zfin_i rfl rfl rfl) ⟨(-2), m, rfl, rfl, hIm, (by omega), (by first | (intro h; exact absurd h (by omega)) | (intro _; exact q8)), (by omega), (by omega), (zH_le hH (by omega))⟩

set_option maxRecDepth 100000 in
set_option maxHeartbeats 4000000 in
theorem S_X11_taste_F (zn : Bool) (d : Nat) {c : Nat × Nat} {mM : zM} (hN : 107 ≤ c.1) (hC : c.1 < z_RO) (t : Int) (m : zM) (hIm : zI c mM m) (r_t : -2147483648 ≤ t ∧ t ≤ 2147483647) : zCi zn (d + 1) 179 [.ref 0, .int (Int32.ofInt t)] c m (fun (r : Int) (m1 : zM) => zI c mM m1 ∧ (-2147483648 ≤ r ∧ r ≤ 2147483647) ∧ (r = 1 ↔ -1 ≤ t ∧ t < m 0 13) ∧ (0 ≤ r ∧ r ≤ 1) ∧ zN m m1) := by
  refine zCi.of zu_X11_taste hC (Nat.le_of_ble_eq_true rfl) ?_
  show zW zn (d + 0) 179 c (0, [(some (.ref 0)), (some (.int (Int32.ofInt t)))], [], zk c m) (fun v h1 => ∃ (r : Int) (m1 : zM), v = some (.int (Int32.ofInt r)) ∧ h1 = zk c m1 ∧ zI c mM m1 ∧ (-2147483648 ≤ r ∧ r ≤ 2147483647) ∧ (r = 1 ↔ -1 ≤ t ∧ t < m 0 13) ∧ (0 ≤ r ∧ r ≤ 1) ∧ zN m m1)
  have f1 : (0 : Int) ≤ m 0 13 ∧ m 0 13 ≤ 4 := hIm.1 0 13
  by_cases b2 : t < (-1)
  · refine zW.step (st1 := (13, [(some (.ref 0)), (some (.int (Int32.ofInt t)))], [], zk c m)) (st2 := (13, [(some (.ref 0)), (some (.int (Int32.ofInt t)))], [], zk c m)) ⟨[zo, zo, zt], _, rfl, ⟨trivial, trivial, zbt ((zi_lt rfl rfl (by unfold zR; omega) (⟨by decide, by decide⟩ : zR (-1))).mpr b2), trivial⟩⟩ rfl ?_
    refine zW.step (st1 := (14, [(some (.ref 0)), (some (.int (Int32.ofInt t)))], [.int (Int32.ofInt 0)], zk c m)) (st2 := (14, [(some (.ref 0)), (some (.int (Int32.ofInt t)))], [.int (Int32.ofInt 0)], zk c m)) ⟨[zo], _, rfl, ⟨trivial, trivial⟩⟩ rfl ?_
    exact zW.fin (zfin_i rfl rfl rfl) ⟨0, m, rfl, rfl, hIm, (by omega), (by omega), (by omega), zN_rf⟩
  · refine zW.step (st1 := (5, [(some (.ref 0)), (some (.int (Int32.ofInt t)))], [], zk c m)) (st2 := (5, [(some (.ref 0)), (some (.int (Int32.ofInt t)))], [], zk c m)) ⟨[zo, zo, zo], _, rfl, ⟨trivial, trivial, zbf (fun q => b2 ((zi_lt rfl rfl (by unfold zR; omega) (⟨by decide, by decide⟩ : zR (-1))).mp q)), trivial⟩⟩ rfl ?_
    by_cases b3 : t < (m 0 13)
    · refine zW.step (st1 := (15, [(some (.ref 0)), (some (.int (Int32.ofInt t)))], [], zk c m)) (st2 := (15, [(some (.ref 0)), (some (.int (Int32.ofInt t)))], [], zk c m)) ⟨[zo, zo, zo, zt], _, rfl, ⟨trivial, trivial, (Nat.lt_of_lt_of_le (Nat.le_of_ble_eq_true rfl) hN), zbt ((zi_lt rfl rfl (by unfold zR; omega) (by unfold zR; omega)).mpr b3), trivial⟩⟩ rfl ?_
      obtain ⟨m4, hm4⟩ : ∃ q, q = zm_up m 0 14 t := ⟨_, rfl⟩
      have hIm4 : zI c mM m4 := by rw [hm4]; exact zI_up hIm (by unfold zOk; decide) (show (-1 : Int) ≤ t ∧ t ≤ 3 by omega)
      have em4 : m4 0 14 = t := by rw [hm4]; exact zm_eq
      have f5 : m4 0 13 = m 0 13 := by rw [hm4]; exact zm_ne (by omega)
      have tk6 : zN m m4 := by rw [hm4]; exact zN_up zN_rf (by unfold zRow; omega)
      refine zW.step (st1 := (20, [(some (.ref 0)), (some (.int (Int32.ofInt t)))], [], z_hup (zk c m) 0 (.inr (11, [.ref 1, .ref 3, .ref 10, .ref 12, .ref 13, .ref 17, .ref 18, .ref 23, .ref 68, .ref 69, .ref 73, .ref 75, .int (Int32.ofInt (m 0 12)), .int (Int32.ofInt (m 0 13)), .int (Int32.ofInt t)])))) (st2 := (20, [(some (.ref 0)), (some (.int (Int32.ofInt t)))], [], zk c m4)) ⟨[zo, zo, zo], _, rfl, ⟨trivial, trivial, ⟨(Nat.lt_of_lt_of_le (Nat.le_of_ble_eq_true rfl) hN), rfl, rfl⟩, trivial⟩⟩ (z_steq rfl rfl ((zk_up c m 0 14 t _ rfl).trans (by rw [hm4]))) ?_
      by_cases b7 : t = (-1)
      · refine zW.step (st1 := (29, [(some (.ref 0)), (some (.int (Int32.ofInt t)))], [.ref 18], zk c m4)) (st2 := (29, [(some (.ref 0)), (some (.int (Int32.ofInt t)))], [.ref 18], zk c m4)) ⟨[zo, zo, zo, zo, zo], _, rfl, ⟨trivial, (Nat.lt_of_lt_of_le (Nat.le_of_ble_eq_true rfl) hN), trivial, trivial, zbf (fun q => q ((zi_eq rfl rfl (by unfold zR; omega) (⟨by decide, by decide⟩ : zR (-1))).mpr b7)), trivial⟩⟩ rfl ?_
        have f8 : (0 : Int) ≤ m4 0 13 ∧ m4 0 13 ≤ 4 := hIm4.1 0 13
        obtain ⟨m9, hm9⟩ : ∃ q, q = zm_up m4 18 1 0 := ⟨_, rfl⟩
        have hIm9 : zI c mM m9 := by rw [hm9]; exact zI_tas hIm4 (by omega)
        have em9 : m9 18 1 = 0 := by rw [hm9]; exact zm_eq
        have f10 : m9 0 13 = m4 0 13 := by rw [hm9]; exact zm_ne (by omega)
        have tk11 : zN m m9 := by rw [hm9]; exact zN_up tk6 (by unfold zRow; omega)
        clear tk6
        refine zW.step (st1 := (42, [(some (.ref 0)), (some (.int (Int32.ofInt t)))], [], z_hup (zk c m4) 18 (.inr (3, [.ref 13, .null, .ref 19, .int (Int32.ofInt (m4 18 3)), .int (Int32.ofInt (m4 18 4)), .int (Int32.ofInt (m4 18 5)), .int (Int32.ofInt (m4 18 6)), .int (Int32.ofInt (m4 18 7)), .int (Int32.ofInt (m4 18 8)), .ref 20, .ref 21, .ref 22])))) (st2 := (42, [(some (.ref 0)), (some (.int (Int32.ofInt t)))], [], zk c m9)) ⟨[zo, zo, zo], _, rfl, ⟨trivial, trivial, ⟨(Nat.lt_of_lt_of_le (Nat.le_of_ble_eq_true rfl) hN), rfl, rfl⟩, trivial⟩⟩ (z_steq rfl rfl ((zk_up c m4 18 1 0 _ rfl).trans (by rw [hm9]))) ?_
        refine zW.step (st1 := (43, [(some (.ref 0)), (some (.int (Int32.ofInt t)))], [.int (Int32.ofInt 1)], zk c m9)) (st2 := (43, [(some (.ref 0)), (some (.int (Int32.ofInt t)))], [.int (Int32.ofInt 1)], zk c m9)) ⟨[zo], _, rfl, ⟨trivial, trivial⟩⟩ rfl ?_
        exact zW.fin (zfin_i rfl rfl rfl) ⟨1, m9, rfl, rfl, hIm9, (by omega), (by omega), (by omega), tk11⟩
      · refine zW.step (st1 := (33, [(some (.ref 0)), (some (.int (Int32.ofInt t)))], [.ref 18], zk c m4)) (st2 := (33, [(some (.ref 0)), (some (.int (Int32.ofInt t)))], [.ref 18], zk c m4)) ⟨[zo, zo, zo, zo, zt], _, rfl, ⟨trivial, (Nat.lt_of_lt_of_le (Nat.le_of_ble_eq_true rfl) hN), trivial, trivial, zbt (fun q => b7 ((zi_eq rfl rfl (by unfold zR; omega) (⟨by decide, by decide⟩ : zR (-1))).mp q)), trivial⟩⟩ rfl ?_
        have f12 : (0 : Int) ≤ m4 0 13 ∧ m4 0 13 ≤ 4 := hIm4.1 0 13
        obtain ⟨T13, hT13⟩ : ∃ q : Nat, q = 107 + 4 * t.toNat := ⟨_, rfl⟩
        have kT13 : zTp T13 := by unfold zTp; omega
        have jT13 : T13 = 107 ∨ T13 = 111 ∨ T13 = 115 ∨ T13 = 119 := by omega
        have lT13 : T13 + 4 ≤ c.1 := by have q9 := hIm4.2.2.1; omega
        obtain ⟨m14, hm14⟩ : ∃ q, q = zm_up m4 18 1 (T13 : Int) := ⟨_, rfl⟩
        have hIm14 : zI c mM m14 := by rw [hm14]; exact zI_tas hIm4 (by omega)
        have em14 : m14 18 1 = (T13 : Int) := by rw [hm14]; exact zm_eq
        have f15 : m14 0 13 = m4 0 13 := by rw [hm14]; exact zm_ne (by omega)
        have tk16 : zN m m14 := by rw [hm14]; exact zN_up tk6 (by unfold zRow; omega)
        clear tk6
        refine zW.step (st1 := (42, [(some (.ref 0)), (some (.int (Int32.ofInt t)))], [], z_hup (zk c m4) 18 (.inr (3, [.ref 13, .ref T13, .ref 19, .int (Int32.ofInt (m4 18 3)), .int (Int32.ofInt (m4 18 4)), .int (Int32.ofInt (m4 18 5)), .int (Int32.ofInt (m4 18 6)), .int (Int32.ofInt (m4 18 7)), .int (Int32.ofInt (m4 18 8)), .ref 20, .ref 21, .ref 22])))) (st2 := (42, [(some (.ref 0)), (some (.int (Int32.ofInt t)))], [], zk c m14)) ⟨[zo, zo, zo, (false, 0, some (.ref T13), zh0, none), zo], _, rfl, ⟨trivial, (Nat.lt_of_lt_of_le (Nat.le_of_ble_eq_true rfl) hN), trivial, ⟨(Nat.lt_of_lt_of_le (Nat.le_of_ble_eq_true rfl) hN), zi_in rfl (by omega) (by omega) (by decide), zk_tasl hIm4 rfl (by unfold zR; omega) (by omega) hT13⟩, ⟨(Nat.lt_of_lt_of_le (Nat.le_of_ble_eq_true rfl) hN), rfl, rfl⟩, trivial⟩⟩ (z_steq rfl rfl ((zk_up c m4 18 1 (T13 : Int) _ ((congrArg (fun q => (.inr (3, [.ref 13, q, .ref 19, .int (Int32.ofInt (m4 18 3)), .int (Int32.ofInt (m4 18 4)), .int (Int32.ofInt (m4 18 5)), .int (Int32.ofInt (m4 18 6)), .int (Int32.ofInt (m4 18 7)), .int (Int32.ofInt (m4 18 8)), .ref 20, .ref 21, .ref 22]) : z_E)) (zm_rf_1 (x := (T13 : Int)) rfl (by omega)).symm).trans rfl)).trans (by rw [hm14]))) ?_
        refine zW.step (st1 := (43, [(some (.ref 0)), (some (.int (Int32.ofInt t)))], [.int (Int32.ofInt 1)], zk c m14)) (st2 := (43, [(some (.ref 0)), (some (.int (Int32.ofInt t)))], [.int (Int32.ofInt 1)], zk c m14)) ⟨[zo], _, rfl, ⟨trivial, trivial⟩⟩ rfl ?_
        exact zW.fin (zfin_i rfl rfl rfl) ⟨1, m14, rfl, rfl, hIm14, (by omega), (by omega), (by omega), tk16⟩
    · refine zW.step (st1 := (13, [(some (.ref 0)), (some (.int (Int32.ofInt t)))], [], zk c m)) (st2 := (13, [(some (.ref 0)), (some (.int (Int32.ofInt t)))], [], zk c m)) ⟨[zo, zo, zo, zo], _, rfl, ⟨trivial, trivial, (Nat.lt_of_lt_of_le (Nat.le_of_ble_eq_true rfl) hN), zbf (fun q => b3 ((zi_lt rfl rfl (by unfold zR; omega) (by unfold zR; omega)).mp q)), trivial⟩⟩ rfl ?_
      refine zW.step (st1 := (14, [(some (.ref 0)), (some (.int (Int32.ofInt t)))], [.int (Int32.ofInt 0)], zk c m)) (st2 := (14, [(some (.ref 0)), (some (.int (Int32.ofInt t)))], [.int (Int32.ofInt 0)], zk c m)) ⟨[zo], _, rfl, ⟨trivial, trivial⟩⟩ rfl ?_
      exact zW.fin (zfin_i rfl rfl rfl) ⟨0, m, rfl, rfl, hIm, (by omega), (by omega), (by omega), zN_rf⟩

set_option maxRecDepth 100000 in
set_option maxHeartbeats 4000000 in
theorem S_X11_crowd (zn : Bool) (d : Nat) {c : Nat × Nat} {mM : zM} (hN : 107 ≤ c.1) (hC : c.1 < z_RO) (y : Int) (m : zM) (hIm : zI c mM m) (r_y : -2147483648 ≤ y ∧ y ≤ 2147483647) : zCi zn (d + 1) 134 [.ref 0, .int (Int32.ofInt y)] c m (fun (r : Int) (m1 : zM) => zI c m1 m1 ∧ ((r = 1 ∧ m1 68 0 = y ∧ 0 ≤ y ∧ y ≤ 99 ∧ y ≠ m 68 0) ∨ (r = 0 ∧ m1 68 0 = m 68 0 ∧ (y < 0 ∨ 99 < y ∨ y = m 68 0))) ∧ (∀ p i, (p ≠ 68 ∨ i ≠ 0) → m1 p i = m p i) ∧ zN m m1) := by
  refine zCi.of zu_X11_crowd hC (Nat.le_of_ble_eq_true rfl) ?_
  show zW zn (d + 0) 134 c (0, [(some (.ref 0)), (some (.int (Int32.ofInt y)))], [], zk c m) (fun v h1 => ∃ (r : Int) (m1 : zM), v = some (.int (Int32.ofInt r)) ∧ h1 = zk c m1 ∧ zI c m1 m1 ∧ ((r = 1 ∧ m1 68 0 = y ∧ 0 ≤ y ∧ y ≤ 99 ∧ y ≠ m 68 0) ∨ (r = 0 ∧ m1 68 0 = m 68 0 ∧ (y < 0 ∨ 99 < y ∨ y = m 68 0))) ∧ (∀ p i, (p ≠ 68 ∨ i ≠ 0) → m1 p i = m p i) ∧ zN m m1)
  have f1 : (0 : Int) ≤ m 68 0 ∧ m 68 0 ≤ 99 := hIm.1 68 0
  by_cases b2 : y < 0
  · refine zW.step (st1 := (21, [(some (.ref 0)), (some (.int (Int32.ofInt y)))], [], zk c m)) (st2 := (21, [(some (.ref 0)), (some (.int (Int32.ofInt y)))], [], zk c m)) ⟨[zo, zt], _, rfl, ⟨trivial, zbt ((zi_lt rfl (rfl : (0 : Int32) = Int32.ofInt 0) (by unfold zR; omega) (⟨by decide, by decide⟩ : zR 0)).mpr b2), trivial⟩⟩ rfl ?_
    refine zW.step (st1 := (22, [(some (.ref 0)), (some (.int (Int32.ofInt y)))], [.int (Int32.ofInt 0)], zk c m)) (st2 := (22, [(some (.ref 0)), (some (.int (Int32.ofInt y)))], [.int (Int32.ofInt 0)], zk c m)) ⟨[zo], _, rfl, ⟨trivial, trivial⟩⟩ rfl ?_
    exact zW.fin (zfin_i rfl rfl rfl) ⟨0, m, rfl, rfl, (zI_self hIm), (by omega), (by intro p i h9; rfl), zN_rf⟩
  · refine zW.step (st1 := (4, [(some (.ref 0)), (some (.int (Int32.ofInt y)))], [], zk c m)) (st2 := (4, [(some (.ref 0)), (some (.int (Int32.ofInt y)))], [], zk c m)) ⟨[zo, zo], _, rfl, ⟨trivial, zbf (fun q => b2 ((zi_lt rfl (rfl : (0 : Int32) = Int32.ofInt 0) (by unfold zR; omega) (⟨by decide, by decide⟩ : zR 0)).mp q)), trivial⟩⟩ rfl ?_
    by_cases b3 : 99 < y
    · refine zW.step (st1 := (21, [(some (.ref 0)), (some (.int (Int32.ofInt y)))], [], zk c m)) (st2 := (21, [(some (.ref 0)), (some (.int (Int32.ofInt y)))], [], zk c m)) ⟨[zo, zo, zt], _, rfl, ⟨trivial, trivial, zbt ((zi_lt (by decide : (Int8.ofInt 99).toInt32 = Int32.ofInt 99) rfl (⟨by decide, by decide⟩ : zR 99) (by unfold zR; omega)).mpr b3), trivial⟩⟩ rfl ?_
      refine zW.step (st1 := (22, [(some (.ref 0)), (some (.int (Int32.ofInt y)))], [.int (Int32.ofInt 0)], zk c m)) (st2 := (22, [(some (.ref 0)), (some (.int (Int32.ofInt y)))], [.int (Int32.ofInt 0)], zk c m)) ⟨[zo], _, rfl, ⟨trivial, trivial⟩⟩ rfl ?_
      exact zW.fin (zfin_i rfl rfl rfl) ⟨0, m, rfl, rfl, (zI_self hIm), (by omega), (by intro p i h9; rfl), zN_rf⟩
    · refine zW.step (st1 := (10, [(some (.ref 0)), (some (.int (Int32.ofInt y)))], [], zk c m)) (st2 := (10, [(some (.ref 0)), (some (.int (Int32.ofInt y)))], [], zk c m)) ⟨[zo, zo, zo], _, rfl, ⟨trivial, trivial, zbf (fun q => b3 ((zi_lt (by decide : (Int8.ofInt 99).toInt32 = Int32.ofInt 99) rfl (⟨by decide, by decide⟩ : zR 99) (by unfold zR; omega)).mp q)), trivial⟩⟩ rfl ?_
      by_cases b4 : y = (m 68 0)
      · refine zW.step (st1 := (21, [(some (.ref 0)), (some (.int (Int32.ofInt y)))], [], zk c m)) (st2 := (21, [(some (.ref 0)), (some (.int (Int32.ofInt y)))], [], zk c m)) ⟨[zo, zo, zo, zo, zo], _, rfl, ⟨trivial, trivial, (Nat.lt_of_lt_of_le (Nat.le_of_ble_eq_true rfl) hN), (Nat.lt_of_lt_of_le (Nat.le_of_ble_eq_true rfl) hN), zbf (fun q => q ((zi_eq rfl rfl (by unfold zR; omega) (by unfold zR; omega)).mpr b4)), trivial⟩⟩ rfl ?_
        refine zW.step (st1 := (22, [(some (.ref 0)), (some (.int (Int32.ofInt y)))], [.int (Int32.ofInt 0)], zk c m)) (st2 := (22, [(some (.ref 0)), (some (.int (Int32.ofInt y)))], [.int (Int32.ofInt 0)], zk c m)) ⟨[zo], _, rfl, ⟨trivial, trivial⟩⟩ rfl ?_
        exact zW.fin (zfin_i rfl rfl rfl) ⟨0, m, rfl, rfl, (zI_self hIm), (by omega), (by intro p i h9; rfl), zN_rf⟩
      · refine zW.step (st1 := (23, [(some (.ref 0)), (some (.int (Int32.ofInt y)))], [], zk c m)) (st2 := (23, [(some (.ref 0)), (some (.int (Int32.ofInt y)))], [], zk c m)) ⟨[zo, zo, zo, zo, zt], _, rfl, ⟨trivial, trivial, (Nat.lt_of_lt_of_le (Nat.le_of_ble_eq_true rfl) hN), (Nat.lt_of_lt_of_le (Nat.le_of_ble_eq_true rfl) hN), zbt (fun q => b4 ((zi_eq rfl rfl (by unfold zR; omega) (by unfold zR; omega)).mp q)), trivial⟩⟩ rfl ?_
        obtain ⟨m5, hm5⟩ : ∃ q, q = zm_up m 68 0 y := ⟨_, rfl⟩
        have hIm5 := zI_upS hIm hm5 (by unfold zOb; omega) (show (0 : Int) ≤ y ∧ y ≤ 99 by omega)
        have em5 : m5 68 0 = y := by rw [hm5]; exact zm_eq
        have tk6 : zN m m5 := by rw [hm5]; exact zN_up zN_rf (by unfold zRow; omega)
        refine zW.step (st1 := (31, [(some (.ref 0)), (some (.int (Int32.ofInt y)))], [], z_hup (zk c m) 68 (.inr (0, [.int (Int32.ofInt y), .long (Int64.ofInt (m 68 1))])))) (st2 := (31, [(some (.ref 0)), (some (.int (Int32.ofInt y)))], [], zk c m5)) ⟨[zo, zo, zo, zo], _, rfl, ⟨trivial, (Nat.lt_of_lt_of_le (Nat.le_of_ble_eq_true rfl) hN), trivial, ⟨(Nat.lt_of_lt_of_le (Nat.le_of_ble_eq_true rfl) hN), rfl, rfl⟩, trivial⟩⟩ (z_steq rfl rfl ((zk_up c m 68 0 y _ rfl).trans (by rw [hm5]))) ?_
        refine zW.step (st1 := (32, [(some (.ref 0)), (some (.int (Int32.ofInt y)))], [.int (Int32.ofInt 1)], zk c m5)) (st2 := (32, [(some (.ref 0)), (some (.int (Int32.ofInt y)))], [.int (Int32.ofInt 1)], zk c m5)) ⟨[zo], _, rfl, ⟨trivial, trivial⟩⟩ rfl ?_
        exact zW.fin (zfin_i rfl rfl rfl) ⟨1, m5, rfl, rfl, (zI_self hIm5), (by omega), (by intro p i h9; rw [hm5]; exact zm_ne h9), tk6⟩

