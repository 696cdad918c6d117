/-! what methods do over memory, by program (wip/tools/gw): X3_bear -/
set_option maxRecDepth 100000 in
set_option maxHeartbeats 4000000 in
theorem L_X3_bear_152 (zn : Bool) (d : Nat) {c : Nat × Nat} (hN : 107 ≤ c.1) (hC : c.1 < z_RO) (s : Nat) (a : Int) (r_a : -2147483648 ≤ a ∧ a ≤ 2147483647) (h_s : zS s) (k_s : s = 17 ∨ s = 70 ∨ s = 74 ∨ s = 76) (ha : 0 ≤ a ∧ a ≤ 9) (m0 : zM) (Q : Option Value → z_H → Prop) (KR : ∀ v h1, (fun v h1 => ∃ (m1 : zM), v = none ∧ h1 = zk c m1 ∧ zI c m1 ∧ (m1 s 185 = m0 s 185 + 1) ∧ zF s m0 m1 ∧ zG s m0 m1) v h1 → Q v h1) :
    ∀ (w : Nat) (x3 : Int) (m : zM), zI c m → 0 ≤ x3 ∧ x3 ≤ 9 → m s 185 = x3 → zF s m0 m → zG s m0 m → m s 185 = m0 s 185 → w = ((0 : Int)).toNat → zW zn (d + 1) 59 c (152, [(some (.ref 18)), (some (.ref s)), (some (.int (Int32.ofInt a))), (some (.int (Int32.ofInt x3)))], [], zk c m) Q := by
  intro w
  induction w using Nat.strongRecOn with | _ w ih => ?_
  intro x3 m hIm j1 j2 tF tG tCn hw
  obtain ⟨m1, hm1⟩ : ∃ q, q = zm_up m s ((140 + x3).toNat) a := ⟨_, rfl⟩
  have hIm1 : zI c m1 := by rw [hm1]; exact zI_up hIm (by unfold zOk; omega) (zrw_i h_s (by omega) (show (-2147483648 : Int) ≤ a ∧ a ≤ 2147483647 by omega))
  have em1 : m1 s ((140 + x3).toNat) = a := by rw [hm1]; exact zm_eq
  have tk2 : zF s m0 m1 := by rw [hm1]; exact zF_up tF (by unfold zQ; omega)
  have tk3 : zG s m0 m1 := by rw [hm1]; exact zG_up tG (by omega)
  have tk4 : m1 s 185 = m0 s 185 := by rw [hm1, zm_ne (by omega)]; exact tCn
  refine zW.step (st1 := (160, [(some (.ref 18)), (some (.ref s)), (some (.int (Int32.ofInt a))), (some (.int (Int32.ofInt x3)))], [], z_hup (zk c m) s (.inl (0, 188, .inl (upd (fun j => Int32.ofInt (m s j)) (((Int16.ofInt 140).toInt32) + (Int32.ofInt x3)).toNatClampNeg (Int32.ofInt a)))))) (st2 := (160, [(some (.ref 18)), (some (.ref s)), (some (.int (Int32.ofInt a))), (some (.int (Int32.ofInt x3)))], [], zk c m1)) ⟨[zo, zo, zo, zo, zo, (false, 0, none, zh0, some (.inl (0, 188, .inl (fun j => Int32.ofInt (m s j)))))], _, rfl, ⟨trivial, trivial, trivial, trivial, trivial, ⟨zk_ra c m h_s.1 (by omega), zi_in (zi_add (by decide : (Int16.ofInt 140).toInt32 = Int32.ofInt 140) rfl) (by omega) (by omega) (by decide)⟩, trivial⟩⟩ (z_steq rfl rfl ((zk_ias c m h_s.1 (zi_add (by decide : (Int16.ofInt 140).toInt32 = Int32.ofInt 140) rfl) (by unfold zR; omega) rfl).trans (by rw [hm1]))) ?_
  obtain ⟨m5, hm5⟩ : ∃ q, q = zm_up m1 s ((150 + x3).toNat) 0 := ⟨_, rfl⟩
  have hIm5 : zI c m5 := by rw [hm5]; exact zI_up hIm1 (by unfold zOk; omega) (zrw_i h_s (by omega) (show (-2147483648 : Int) ≤ 0 ∧ 0 ≤ 2147483647 by omega))
  have em5 : m5 s ((150 + x3).toNat) = 0 := by rw [hm5]; exact zm_eq
  have tk6 : zF s m0 m5 := by rw [hm5]; exact zF_up tk2 (by unfold zQ; omega)
  have tk7 : zG s m0 m5 := by rw [hm5]; exact zG_up tk3 (by omega)
  have tk8 : m5 s 185 = m0 s 185 := by rw [hm5, zm_ne (by omega)]; exact tk4
  clear tk2 tk3
  refine zW.step (st1 := (168, [(some (.ref 18)), (some (.ref s)), (some (.int (Int32.ofInt a))), (some (.int (Int32.ofInt x3)))], [], z_hup (zk c m1) s (.inl (0, 188, .inl (upd (fun j => Int32.ofInt (m1 s j)) (((Int16.ofInt 150).toInt32) + (Int32.ofInt x3)).toNatClampNeg (Int32.ofInt 0)))))) (st2 := (168, [(some (.ref 18)), (some (.ref s)), (some (.int (Int32.ofInt a))), (some (.int (Int32.ofInt x3)))], [], zk c m5)) ⟨[zo, zo, zo, zo, zo, (false, 0, none, zh0, some (.inl (0, 188, .inl (fun j => Int32.ofInt (m1 s j)))))], _, rfl, ⟨trivial, trivial, trivial, trivial, trivial, ⟨zk_ra c m1 h_s.1 (by omega), zi_in (zi_add (by decide : (Int16.ofInt 150).toInt32 = Int32.ofInt 150) rfl) (by omega) (by omega) (by decide)⟩, trivial⟩⟩ (z_steq rfl rfl ((zk_ias c m1 h_s.1 (zi_add (by decide : (Int16.ofInt 150).toInt32 = Int32.ofInt 150) rfl) (by unfold zR; omega) rfl).trans (by rw [hm5]))) ?_
  clear em1
  have f9 : (0 : Int) ≤ m5 s 185 ∧ m5 s 185 ≤ 10 := zr_c hIm5 h_s
  obtain ⟨m10, hm10⟩ : ∃ q, q = zm_up m5 s 185 ((m5 s 185) + 1) := ⟨_, rfl⟩
  have hIm10 : zI c m10 := by rw [hm10]; exact zI_up hIm5 (by unfold zOk; omega) (zrw_c h_s (show (0 : Int) ≤ ((m5 s 185) + 1) ∧ ((m5 s 185) + 1) ≤ 10 by omega))
  have em10 : m10 s 185 = ((m5 s 185) + 1) := by rw [hm10]; exact zm_eq
  have tk11 : zF s m0 m10 := by rw [hm10]; exact zF_up tk6 (by unfold zQ; omega)
  have tk12 : zG s m0 m10 := by rw [hm10]; exact zG_up tk7 (by omega)
  have tk13 : m10 s 185 = (m5 s 185) + 1 := em10
  clear tk6 tk7
  refine zW.step (st1 := (177, [(some (.ref 18)), (some (.ref s)), (some (.int (Int32.ofInt a))), (some (.int (Int32.ofInt x3)))], [], z_hup (zk c m5) s (.inl (0, 188, .inl (upd (fun j => Int32.ofInt (m5 s j)) ((Int16.ofInt 185).toInt32).toNatClampNeg ((Int32.ofInt (m5 s ((Int16.ofInt 185).toInt32).toNatClampNeg)) + (Int32.ofInt 1))))))) (st2 := (177, [(some (.ref 18)), (some (.ref s)), (some (.int (Int32.ofInt a))), (some (.int (Int32.ofInt x3)))], [], zk c m10)) ⟨[zo, zo, zo, (false, 0, none, zh0, some (.inl (0, 188, .inl (fun j => Int32.ofInt (m5 s j))))), zo, zo, (false, 0, none, zh0, some (.inl (0, 188, .inl (fun j => Int32.ofInt (m5 s j)))))], _, rfl, ⟨trivial, trivial, trivial, ⟨zk_ra c m5 h_s.1 (by omega), zi_in (by decide : (Int16.ofInt 185).toInt32 = Int32.ofInt 185) (by omega) (by omega) (by decide)⟩, trivial, trivial, ⟨zk_ra c m5 h_s.1 (by omega), zi_in (by decide : (Int16.ofInt 185).toInt32 = Int32.ofInt 185) (by omega) (by omega) (by decide)⟩, trivial⟩⟩ (z_steq rfl rfl ((zk_ias c m5 h_s.1 (by decide : (Int16.ofInt 185).toInt32 = Int32.ofInt 185) (⟨by decide, by decide⟩ : zR 185) (zi_add ((zk_rd (f := m5 s) (by decide : (Int16.ofInt 185).toInt32 = Int32.ofInt 185) (⟨by decide, by decide⟩ : zR 185)).trans rfl : Int32.ofInt (m5 s ((Int16.ofInt 185).toInt32).toNatClampNeg) = Int32.ofInt (m5 s 185)) rfl)).trans (by rw [hm10]; rfl))) ?_
  clear em5 f9 em10
  have f14 : (-2147483648 : Int) ≤ m10 18 6 ∧ m10 18 6 ≤ 2147483647 := hIm10.1 18 6
  have f15 := zwR ((m10 18 6) + 1)
  have f16 := zwI ((m10 18 6) + 1)
  obtain ⟨m17, hm17⟩ : ∃ q, q = zm_up m10 18 6 (zw ((m10 18 6) + 1)) := ⟨_, rfl⟩
  have hIm17 : zI c m17 := by rw [hm17]; exact zI_up hIm10 (by unfold zOk; omega) (show (-2147483648 : Int) ≤ (zw ((m10 18 6) + 1)) ∧ (zw ((m10 18 6) + 1)) ≤ 2147483647 by omega)
  have em17 : m17 18 6 = (zw ((m10 18 6) + 1)) := by rw [hm17]; exact zm_eq
  have tk18 : zF s m0 m17 := by rw [hm17]; exact zF_up tk11 (by unfold zQ; omega)
  have tk19 : zG s m0 m17 := by rw [hm17]; exact zG_up tk12 (by omega)
  have tk20 : m17 s 185 = (m5 s 185) + 1 := by rw [hm17, zm_ne (by omega)]; exact tk13
  clear tk11 tk12
  refine zW.step (st1 := (187, [(some (.ref 18)), (some (.ref s)), (some (.int (Int32.ofInt a))), (some (.int (Int32.ofInt x3)))], [], z_hup (zk c m10) 18 (.inr (3, [.ref 13, zm_rf (m10 18 1), .ref 19, .int (Int32.ofInt (m10 18 3)), .int (Int32.ofInt (m10 18 4)), .int (Int32.ofInt (m10 18 5)), .int ((Int32.ofInt (m10 18 6)) + (Int32.ofInt 1)), .int (Int32.ofInt (m10 18 7)), .int (Int32.ofInt (m10 18 8)), .ref 20, .ref 21, .ref 22])))) (st2 := (187, [(some (.ref 18)), (some (.ref s)), (some (.int (Int32.ofInt a))), (some (.int (Int32.ofInt x3)))], [], zk c m17)) ⟨[zo, zo, zo, zo, zo, zo], _, rfl, ⟨trivial, trivial, (Nat.lt_of_lt_of_le (Nat.le_of_ble_eq_true rfl) hN), trivial, trivial, ⟨(Nat.lt_of_lt_of_le (Nat.le_of_ble_eq_true rfl) hN), rfl, rfl⟩, trivial⟩⟩ (z_steq rfl rfl ((zk_up c m10 18 6 (zw ((m10 18 6) + 1)) _ ((congrArg (fun q => (.inr (3, [.ref 13, zm_rf (m10 18 1), .ref 19, .int (Int32.ofInt (m10 18 3)), .int (Int32.ofInt (m10 18 4)), .int (Int32.ofInt (m10 18 5)), .int q, .int (Int32.ofInt (m10 18 7)), .int (Int32.ofInt (m10 18 8)), .ref 20, .ref 21, .ref 22]) : z_E)) (Eq.trans (zi_add rfl rfl) (zw_eq _))).trans rfl)).trans (by rw [hm17]))) ?_
  clear f14 f15 f16 em17
  exact zW.fin (zfin_v rfl rfl) (KR _ _ ⟨m17, rfl, rfl, hIm17, (by omega), tk18, tk19⟩)

set_option maxRecDepth 100000 in
set_option maxHeartbeats 4000000 in
theorem L_X3_bear_124 (zn : Bool) (d : Nat) {c : Nat × Nat} (hN : 107 ≤ c.1) (hC : c.1 < z_RO) (s : Nat) (a : Int) (r_a : -2147483648 ≤ a ∧ a ≤ 2147483647) (h_s : zS s) (k_s : s = 17 ∨ s = 70 ∨ s = 74 ∨ s = 76) (ha : 0 ≤ a ∧ a ≤ 9) (m0 : zM) (Q : Option Value → z_H → Prop) (KR : ∀ v h1, (fun v h1 => ∃ (m1 : zM), v = none ∧ h1 = zk c m1 ∧ zI c m1 ∧ (m1 s 185 = m0 s 185 + 1) ∧ zF s m0 m1 ∧ zG s m0 m1) v h1 → Q v h1) :
    ∀ (w : Nat) (x3 : Int) (m : zM), zI c m → 0 ≤ x3 ∧ x3 ≤ 9 → m s 185 = x3 → zF s m0 m → zG s m0 m → m s 185 = m0 s 185 → w = ((0 : Int)).toNat → zW zn (d + 1) 59 c (124, [(some (.ref 18)), (some (.ref s)), (some (.int (Int32.ofInt a))), (some (.int (Int32.ofInt x3)))], [], zk c m) Q := by
  intro w
  induction w using Nat.strongRecOn with | _ w ih => ?_
  intro x3 m hIm j1 j2 tF tG tCn hw
  obtain ⟨m21, hm21⟩ : ∃ q, q = zm_up m s ((110 + x3).toNat) 0 := ⟨_, rfl⟩
  have hIm21 : zI c m21 := by rw [hm21]; exact zI_up hIm (by unfold zOk; omega) (zrw_i h_s (by omega) (show (-2147483648 : Int) ≤ 0 ∧ 0 ≤ 2147483647 by omega))
  have em21 : m21 s ((110 + x3).toNat) = 0 := by rw [hm21]; exact zm_eq
  have tk22 : zF s m0 m21 := by rw [hm21]; exact zF_up tF (by unfold zQ; omega)
  have tk23 : zG s m0 m21 := by rw [hm21]; exact zG_up tG (by omega)
  have tk24 : m21 s 185 = m0 s 185 := by rw [hm21, zm_ne (by omega)]; exact tCn
  refine zW.step (st1 := (131, [(some (.ref 18)), (some (.ref s)), (some (.int (Int32.ofInt a))), (some (.int (Int32.ofInt x3)))], [], z_hup (zk c m) s (.inl (0, 188, .inl (upd (fun j => Int32.ofInt (m s j)) (((Int8.ofInt 110).toInt32) + (Int32.ofInt x3)).toNatClampNeg (Int32.ofInt 0)))))) (st2 := (131, [(some (.ref 18)), (some (.ref s)), (some (.int (Int32.ofInt a))), (some (.int (Int32.ofInt x3)))], [], zk c m21)) ⟨[zo, zo, zo, zo, zo, (false, 0, none, zh0, some (.inl (0, 188, .inl (fun j => Int32.ofInt (m s j)))))], _, rfl, ⟨trivial, trivial, trivial, trivial, trivial, ⟨zk_ra c m h_s.1 (by omega), zi_in (zi_add (by decide : (Int8.ofInt 110).toInt32 = Int32.ofInt 110) rfl) (by omega) (by omega) (by decide)⟩, trivial⟩⟩ (z_steq rfl rfl ((zk_ias c m h_s.1 (zi_add (by decide : (Int8.ofInt 110).toInt32 = Int32.ofInt 110) rfl) (by unfold zR; omega) rfl).trans (by rw [hm21]))) ?_
  have f25 : (0 : Int) ≤ m21 s 184 ∧ m21 s 184 ≤ 1000000000 := zr_h hIm21 h_s
  have f26 := zwR ((m21 s 184) + 1)
  have f27 := zwI ((m21 s 184) + 1)
  obtain ⟨m28, hm28⟩ : ∃ q, q = zm_up m21 s ((120 + x3).toNat) (zw ((m21 s 184) + 1)) := ⟨_, rfl⟩
  have hIm28 : zI c m28 := by rw [hm28]; exact zI_up hIm21 (by unfold zOk; omega) (zrw_i h_s (by omega) (show (-2147483648 : Int) ≤ (zw ((m21 s 184) + 1)) ∧ (zw ((m21 s 184) + 1)) ≤ 2147483647 by omega))
  have em28 : m28 s ((120 + x3).toNat) = (zw ((m21 s 184) + 1)) := by rw [hm28]; exact zm_eq
  have tk29 : zF s m0 m28 := by rw [hm28]; exact zF_up tk22 (by unfold zQ; omega)
  have tk30 : zG s m0 m28 := by rw [hm28]; exact zG_up tk23 (by omega)
  have tk31 : m28 s 185 = m0 s 185 := by rw [hm28, zm_ne (by omega)]; exact tk24
  clear tk22 tk23
  refine zW.step (st1 := (144, [(some (.ref 18)), (some (.ref s)), (some (.int (Int32.ofInt a))), (some (.int (Int32.ofInt x3)))], [], z_hup (zk c m21) s (.inl (0, 188, .inl (upd (fun j => Int32.ofInt (m21 s j)) (((Int8.ofInt 120).toInt32) + (Int32.ofInt x3)).toNatClampNeg ((Int32.ofInt (m21 s ((Int16.ofInt 184).toInt32).toNatClampNeg)) + (Int32.ofInt 1))))))) (st2 := (144, [(some (.ref 18)), (some (.ref s)), (some (.int (Int32.ofInt a))), (some (.int (Int32.ofInt x3)))], [], zk c m28)) ⟨[zo, zo, zo, zo, zo, zo, (false, 0, none, zh0, some (.inl (0, 188, .inl (fun j => Int32.ofInt (m21 s j))))), zo, zo, (false, 0, none, zh0, some (.inl (0, 188, .inl (fun j => Int32.ofInt (m21 s j)))))], _, rfl, ⟨trivial, trivial, trivial, trivial, trivial, trivial, ⟨zk_ra c m21 h_s.1 (by omega), zi_in (by decide : (Int16.ofInt 184).toInt32 = Int32.ofInt 184) (by omega) (by omega) (by decide)⟩, trivial, trivial, ⟨zk_ra c m21 h_s.1 (by omega), zi_in (zi_add (by decide : (Int8.ofInt 120).toInt32 = Int32.ofInt 120) rfl) (by omega) (by omega) (by decide)⟩, trivial⟩⟩ (z_steq rfl rfl ((zk_ias c m21 h_s.1 (zi_add (by decide : (Int8.ofInt 120).toInt32 = Int32.ofInt 120) rfl) (by unfold zR; omega) (Eq.trans (zi_add ((zk_rd (f := m21 s) (by decide : (Int16.ofInt 184).toInt32 = Int32.ofInt 184) (⟨by decide, by decide⟩ : zR 184)).trans rfl : Int32.ofInt (m21 s ((Int16.ofInt 184).toInt32).toNatClampNeg) = Int32.ofInt (m21 s 184)) rfl) (zw_eq _))).trans (by rw [hm28]))) ?_
  clear em21 f25 f26 f27 em28
  obtain ⟨m32, hm32⟩ : ∃ q, q = zm_up m28 s ((130 + x3).toNat) 0 := ⟨_, rfl⟩
  have hIm32 : zI c m32 := by rw [hm32]; exact zI_up hIm28 (by unfold zOk; omega) (zrw_i h_s (by omega) (show (-2147483648 : Int) ≤ 0 ∧ 0 ≤ 2147483647 by omega))
  have em32 : m32 s ((130 + x3).toNat) = 0 := by rw [hm32]; exact zm_eq
  have tk33 : zF s m0 m32 := by rw [hm32]; exact zF_up tk29 (by unfold zQ; omega)
  have tk34 : zG s m0 m32 := by rw [hm32]; exact zG_up tk30 (by omega)
  have tk35 : m32 s 185 = m0 s 185 := by rw [hm32, zm_ne (by omega)]; exact tk31
  clear tk29 tk30
  refine zW.step (st1 := (152, [(some (.ref 18)), (some (.ref s)), (some (.int (Int32.ofInt a))), (some (.int (Int32.ofInt x3)))], [], z_hup (zk c m28) s (.inl (0, 188, .inl (upd (fun j => Int32.ofInt (m28 s j)) (((Int16.ofInt 130).toInt32) + (Int32.ofInt x3)).toNatClampNeg (Int32.ofInt 0)))))) (st2 := (152, [(some (.ref 18)), (some (.ref s)), (some (.int (Int32.ofInt a))), (some (.int (Int32.ofInt x3)))], [], zk c m32)) ⟨[zo, zo, zo, zo, zo, (false, 0, none, zh0, some (.inl (0, 188, .inl (fun j => Int32.ofInt (m28 s j)))))], _, rfl, ⟨trivial, trivial, trivial, trivial, trivial, ⟨zk_ra c m28 h_s.1 (by omega), zi_in (zi_add (by decide : (Int16.ofInt 130).toInt32 = Int32.ofInt 130) rfl) (by omega) (by omega) (by decide)⟩, trivial⟩⟩ (z_steq rfl rfl ((zk_ias c m28 h_s.1 (zi_add (by decide : (Int16.ofInt 130).toInt32 = Int32.ofInt 130) rfl) (by unfold zR; omega) rfl).trans (by rw [hm32]))) ?_
  exact L_X3_bear_152 zn _ hN hC s a r_a h_s k_s ha m0 _ (fun v9 h9 hq9 => KR _ _ hq9) _ x3 m32 hIm32 (by omega) (by omega) tk33 tk34 tk35 rfl

set_option maxRecDepth 100000 in
set_option maxHeartbeats 4000000 in
theorem L_X3_bear_96 (zn : Bool) (d : Nat) {c : Nat × Nat} (hN : 107 ≤ c.1) (hC : c.1 < z_RO) (s : Nat) (a : Int) (r_a : -2147483648 ≤ a ∧ a ≤ 2147483647) (h_s : zS s) (k_s : s = 17 ∨ s = 70 ∨ s = 74 ∨ s = 76) (ha : 0 ≤ a ∧ a ≤ 9) (m0 : zM) (Q : Option Value → z_H → Prop) (KR : ∀ v h1, (fun v h1 => ∃ (m1 : zM), v = none ∧ h1 = zk c m1 ∧ zI c m1 ∧ (m1 s 185 = m0 s 185 + 1) ∧ zF s m0 m1 ∧ zG s m0 m1) v h1 → Q v h1) :
    ∀ (w : Nat) (x3 : Int) (m : zM), zI c m → 0 ≤ x3 ∧ x3 ≤ 9 → m s 185 = x3 → zF s m0 m → zG s m0 m → m s 185 = m0 s 185 → w = ((0 : Int)).toNat → zW zn (d + 1) 59 c (96, [(some (.ref 18)), (some (.ref s)), (some (.int (Int32.ofInt a))), (some (.int (Int32.ofInt x3)))], [], zk c m) Q := by
  intro w
  induction w using Nat.strongRecOn with | _ w ih => ?_
  intro x3 m hIm j1 j2 tF tG tCn hw
  obtain ⟨m37, hm37⟩ : ∃ q, q = zm_up m s ((70 + x3).toNat) 1 := ⟨_, rfl⟩
  have hIm37 : zI c m37 := by rw [hm37]; exact zI_up hIm (by unfold zOk; omega) (zrw_l h_s (by omega) (show (0 : Int) ≤ 1 ∧ 1 ≤ 1 by omega))
  have em37 : m37 s ((70 + x3).toNat) = 1 := by rw [hm37]; exact zm_eq
  have tk38 : zF s m0 m37 := by rw [hm37]; exact zF_up tF (by unfold zQ; omega)
  have tk39 : zG s m0 m37 := by rw [hm37]; exact zG_up tG (by omega)
  have tk40 : m37 s 185 = m0 s 185 := by rw [hm37, zm_ne (by omega)]; exact tCn
  refine zW.step (st1 := (103, [(some (.ref 18)), (some (.ref s)), (some (.int (Int32.ofInt a))), (some (.int (Int32.ofInt x3)))], [], z_hup (zk c m) s (.inl (0, 188, .inl (upd (fun j => Int32.ofInt (m s j)) (((Int8.ofInt 70).toInt32) + (Int32.ofInt x3)).toNatClampNeg (Int32.ofInt 1)))))) (st2 := (103, [(some (.ref 18)), (some (.ref s)), (some (.int (Int32.ofInt a))), (some (.int (Int32.ofInt x3)))], [], zk c m37)) ⟨[zo, zo, zo, zo, zo, (false, 0, none, zh0, some (.inl (0, 188, .inl (fun j => Int32.ofInt (m s j)))))], _, rfl, ⟨trivial, trivial, trivial, trivial, trivial, ⟨zk_ra c m h_s.1 (by omega), zi_in (zi_add (by decide : (Int8.ofInt 70).toInt32 = Int32.ofInt 70) rfl) (by omega) (by omega) (by decide)⟩, trivial⟩⟩ (z_steq rfl rfl ((zk_ias c m h_s.1 (zi_add (by decide : (Int8.ofInt 70).toInt32 = Int32.ofInt 70) rfl) (by unfold zR; omega) rfl).trans (by rw [hm37]))) ?_
  obtain ⟨m41, hm41⟩ : ∃ q, q = zm_up m37 s ((80 + x3).toNat) 0 := ⟨_, rfl⟩
  have hIm41 : zI c m41 := by rw [hm41]; exact zI_up hIm37 (by unfold zOk; omega) (zrw_i h_s (by omega) (show (-2147483648 : Int) ≤ 0 ∧ 0 ≤ 2147483647 by omega))
  have em41 : m41 s ((80 + x3).toNat) = 0 := by rw [hm41]; exact zm_eq
  have tk42 : zF s m0 m41 := by rw [hm41]; exact zF_up tk38 (by unfold zQ; omega)
  have tk43 : zG s m0 m41 := by rw [hm41]; exact zG_up tk39 (by omega)
  have tk44 : m41 s 185 = m0 s 185 := by rw [hm41, zm_ne (by omega)]; exact tk40
  clear tk38 tk39
  refine zW.step (st1 := (110, [(some (.ref 18)), (some (.ref s)), (some (.int (Int32.ofInt a))), (some (.int (Int32.ofInt x3)))], [], z_hup (zk c m37) s (.inl (0, 188, .inl (upd (fun j => Int32.ofInt (m37 s j)) (((Int8.ofInt 80).toInt32) + (Int32.ofInt x3)).toNatClampNeg (Int32.ofInt 0)))))) (st2 := (110, [(some (.ref 18)), (some (.ref s)), (some (.int (Int32.ofInt a))), (some (.int (Int32.ofInt x3)))], [], zk c m41)) ⟨[zo, zo, zo, zo, zo, (false, 0, none, zh0, some (.inl (0, 188, .inl (fun j => Int32.ofInt (m37 s j)))))], _, rfl, ⟨trivial, trivial, trivial, trivial, trivial, ⟨zk_ra c m37 h_s.1 (by omega), zi_in (zi_add (by decide : (Int8.ofInt 80).toInt32 = Int32.ofInt 80) rfl) (by omega) (by omega) (by decide)⟩, trivial⟩⟩ (z_steq rfl rfl ((zk_ias c m37 h_s.1 (zi_add (by decide : (Int8.ofInt 80).toInt32 = Int32.ofInt 80) rfl) (by unfold zR; omega) rfl).trans (by rw [hm41]))) ?_
  clear em37
  obtain ⟨m45, hm45⟩ : ∃ q, q = zm_up m41 s ((90 + x3).toNat) 0 := ⟨_, rfl⟩
  have hIm45 : zI c m45 := by rw [hm45]; exact zI_up hIm41 (by unfold zOk; omega) (zrw_i h_s (by omega) (show (-2147483648 : Int) ≤ 0 ∧ 0 ≤ 2147483647 by omega))
  have em45 : m45 s ((90 + x3).toNat) = 0 := by rw [hm45]; exact zm_eq
  have tk46 : zF s m0 m45 := by rw [hm45]; exact zF_up tk42 (by unfold zQ; omega)
  have tk47 : zG s m0 m45 := by rw [hm45]; exact zG_up tk43 (by omega)
  have tk48 : m45 s 185 = m0 s 185 := by rw [hm45, zm_ne (by omega)]; exact tk44
  clear tk42 tk43
  refine zW.step (st1 := (117, [(some (.ref 18)), (some (.ref s)), (some (.int (Int32.ofInt a))), (some (.int (Int32.ofInt x3)))], [], z_hup (zk c m41) s (.inl (0, 188, .inl (upd (fun j => Int32.ofInt (m41 s j)) (((Int8.ofInt 90).toInt32) + (Int32.ofInt x3)).toNatClampNeg (Int32.ofInt 0)))))) (st2 := (117, [(some (.ref 18)), (some (.ref s)), (some (.int (Int32.ofInt a))), (some (.int (Int32.ofInt x3)))], [], zk c m45)) ⟨[zo, zo, zo, zo, zo, (false, 0, none, zh0, some (.inl (0, 188, .inl (fun j => Int32.ofInt (m41 s j)))))], _, rfl, ⟨trivial, trivial, trivial, trivial, trivial, ⟨zk_ra c m41 h_s.1 (by omega), zi_in (zi_add (by decide : (Int8.ofInt 90).toInt32 = Int32.ofInt 90) rfl) (by omega) (by omega) (by decide)⟩, trivial⟩⟩ (z_steq rfl rfl ((zk_ias c m41 h_s.1 (zi_add (by decide : (Int8.ofInt 90).toInt32 = Int32.ofInt 90) rfl) (by unfold zR; omega) rfl).trans (by rw [hm45]))) ?_
  clear em41
  obtain ⟨m49, hm49⟩ : ∃ q, q = zm_up m45 s ((100 + x3).toNat) 0 := ⟨_, rfl⟩
  have hIm49 : zI c m49 := by rw [hm49]; exact zI_up hIm45 (by unfold zOk; omega) (zrw_i h_s (by omega) (show (-2147483648 : Int) ≤ 0 ∧ 0 ≤ 2147483647 by omega))
  have em49 : m49 s ((100 + x3).toNat) = 0 := by rw [hm49]; exact zm_eq
  have tk50 : zF s m0 m49 := by rw [hm49]; exact zF_up tk46 (by unfold zQ; omega)
  have tk51 : zG s m0 m49 := by rw [hm49]; exact zG_up tk47 (by omega)
  have tk52 : m49 s 185 = m0 s 185 := by rw [hm49, zm_ne (by omega)]; exact tk48
  clear tk46 tk47
  refine zW.step (st1 := (124, [(some (.ref 18)), (some (.ref s)), (some (.int (Int32.ofInt a))), (some (.int (Int32.ofInt x3)))], [], z_hup (zk c m45) s (.inl (0, 188, .inl (upd (fun j => Int32.ofInt (m45 s j)) (((Int8.ofInt 100).toInt32) + (Int32.ofInt x3)).toNatClampNeg (Int32.ofInt 0)))))) (st2 := (124, [(some (.ref 18)), (some (.ref s)), (some (.int (Int32.ofInt a))), (some (.int (Int32.ofInt x3)))], [], zk c m49)) ⟨[zo, zo, zo, zo, zo, (false, 0, none, zh0, some (.inl (0, 188, .inl (fun j => Int32.ofInt (m45 s j)))))], _, rfl, ⟨trivial, trivial, trivial, trivial, trivial, ⟨zk_ra c m45 h_s.1 (by omega), zi_in (zi_add (by decide : (Int8.ofInt 100).toInt32 = Int32.ofInt 100) rfl) (by omega) (by omega) (by decide)⟩, trivial⟩⟩ (z_steq rfl rfl ((zk_ias c m45 h_s.1 (zi_add (by decide : (Int8.ofInt 100).toInt32 = Int32.ofInt 100) rfl) (by unfold zR; omega) rfl).trans (by rw [hm49]))) ?_
  clear em45
  exact L_X3_bear_124 zn _ hN hC s a r_a h_s k_s ha m0 _ (fun v9 h9 hq9 => KR _ _ hq9) _ x3 m49 hIm49 (by omega) (by omega) tk50 tk51 tk52 rfl

set_option maxRecDepth 100000 in
set_option maxHeartbeats 4000000 in
theorem L_X3_bear_52 (zn : Bool) (d : Nat) {c : Nat × Nat} (hN : 107 ≤ c.1) (hC : c.1 < z_RO) (s : Nat) (a : Int) (r_a : -2147483648 ≤ a ∧ a ≤ 2147483647) (h_s : zS s) (k_s : s = 17 ∨ s = 70 ∨ s = 74 ∨ s = 76) (ha : 0 ≤ a ∧ a ≤ 9) (m0 : zM) (Q : Option Value → z_H → Prop) (KR : ∀ v h1, (fun v h1 => ∃ (m1 : zM), v = none ∧ h1 = zk c m1 ∧ zI c m1 ∧ (m1 s 185 = m0 s 185 + 1) ∧ zF s m0 m1 ∧ zG s m0 m1) v h1 → Q v h1) :
    ∀ (w : Nat) (x3 : Int) (m : zM), zI c m → 0 ≤ x3 ∧ x3 ≤ 9 → m s 185 = x3 → zF s m0 m → zG s m0 m → m s 185 = m0 s 185 → w = ((0 : Int)).toNat → zW zn (d + 1) 59 c (52, [(some (.ref 18)), (some (.ref s)), (some (.int (Int32.ofInt a))), (some (.int (Int32.ofInt x3)))], [], zk c m) Q := by
  intro w
  induction w using Nat.strongRecOn with | _ w ih => ?_
  intro x3 m hIm j1 j2 tF tG tCn hw
  have f54 : (-2147483648 : Int) ≤ m s ((40 + a).toNat) ∧ m s ((40 + a).toNat) ≤ 2147483647 := zr_i hIm h_s ((40 + a).toNat)
  have f55 := zwR (m s ((40 + a).toNat))
  have f56 := zwI (m s ((40 + a).toNat))
  obtain ⟨m57, hm57⟩ : ∃ q, q = zm_up m s ((40 + x3).toNat) (zw (m s ((40 + a).toNat))) := ⟨_, rfl⟩
  have hIm57 : zI c m57 := by rw [hm57]; exact zI_up hIm (by unfold zOk; omega) (zrw_i h_s (by omega) (show (-2147483648 : Int) ≤ (zw (m s ((40 + a).toNat))) ∧ (zw (m s ((40 + a).toNat))) ≤ 2147483647 by omega))
  have em57 : m57 s ((40 + x3).toNat) = (zw (m s ((40 + a).toNat))) := by rw [hm57]; exact zm_eq
  have tk58 : zF s m0 m57 := by rw [hm57]; exact zF_up tF (by unfold zQ; omega)
  have tk59 : zG s m0 m57 := by rw [hm57]; exact zG_up tG (by omega)
  have tk60 : m57 s 185 = m0 s 185 := by rw [hm57, zm_ne (by omega)]; exact tCn
  refine zW.step (st1 := (64, [(some (.ref 18)), (some (.ref s)), (some (.int (Int32.ofInt a))), (some (.int (Int32.ofInt x3)))], [], z_hup (zk c m) s (.inl (0, 188, .inl (upd (fun j => Int32.ofInt (m s j)) (((Int8.ofInt 40).toInt32) + (Int32.ofInt x3)).toNatClampNeg (Int32.ofInt (m s (((Int8.ofInt 40).toInt32) + (Int32.ofInt a)).toNatClampNeg))))))) (st2 := (64, [(some (.ref 18)), (some (.ref s)), (some (.int (Int32.ofInt a))), (some (.int (Int32.ofInt x3)))], [], zk c m57)) ⟨[zo, zo, zo, zo, zo, zo, zo, zo, (false, 0, none, zh0, some (.inl (0, 188, .inl (fun j => Int32.ofInt (m s j))))), (false, 0, none, zh0, some (.inl (0, 188, .inl (fun j => Int32.ofInt (m s j)))))], _, rfl, ⟨trivial, trivial, trivial, trivial, trivial, trivial, trivial, trivial, ⟨zk_ra c m h_s.1 (by omega), zi_in (zi_add (by decide : (Int8.ofInt 40).toInt32 = Int32.ofInt 40) rfl) (by omega) (by omega) (by decide)⟩, ⟨zk_ra c m h_s.1 (by omega), zi_in (zi_add (by decide : (Int8.ofInt 40).toInt32 = Int32.ofInt 40) rfl) (by omega) (by omega) (by decide)⟩, trivial⟩⟩ (z_steq rfl rfl ((zk_ias c m h_s.1 (zi_add (by decide : (Int8.ofInt 40).toInt32 = Int32.ofInt 40) rfl) (by unfold zR; omega) (Eq.trans ((zk_rd (f := m s) (zi_add (by decide : (Int8.ofInt 40).toInt32 = Int32.ofInt 40) rfl) (by unfold zR; omega)).trans rfl : Int32.ofInt (m s (((Int8.ofInt 40).toInt32) + (Int32.ofInt a)).toNatClampNeg) = Int32.ofInt (m s ((40 + a).toNat))) (zw_eq _))).trans (by rw [hm57]))) ?_
  clear f54 f55 f56 em57
  have f61 : (-2147483648 : Int) ≤ m57 s ((50 + a).toNat) ∧ m57 s ((50 + a).toNat) ≤ 2147483647 := zr_i hIm57 h_s ((50 + a).toNat)
  refine zW.step (st1 := (80, [(some (.ref 18)), (some (.ref s)), (some (.int (Int32.ofInt a))), (some (.int (Int32.ofInt x3)))], [.int (Int32.ofInt a), .ref s, .int ((Int8.ofInt 50).toInt32), .ref s, .int (Int32.ofInt (m57 s (((Int8.ofInt 50).toInt32) + (Int32.ofInt a)).toNatClampNeg)), .int (((Int8.ofInt 50).toInt32) + (Int32.ofInt x3)), .ref s], zk c m57)) (st2 := (80, [(some (.ref 18)), (some (.ref s)), (some (.int (Int32.ofInt a))), (some (.int (Int32.ofInt x3)))], [.int (Int32.ofInt a), .ref s, .int (Int32.ofInt 50), .ref s, .int (Int32.ofInt (m57 s ((50 + a).toNat))), .int (Int32.ofInt (50 + x3)), .ref s], zk c m57)) ⟨[zo, zo, zo, zo, zo, zo, zo, zo, (false, 0, none, zh0, some (.inl (0, 188, .inl (fun j => Int32.ofInt (m57 s j))))), zo, zo, zo, zo], _, rfl, ⟨trivial, trivial, trivial, trivial, trivial, trivial, trivial, trivial, ⟨zk_ra c m57 h_s.1 (by omega), zi_in (zi_add (by decide : (Int8.ofInt 50).toInt32 = Int32.ofInt 50) rfl) (by omega) (by omega) (by decide)⟩, trivial, trivial, trivial, trivial, trivial⟩⟩ (z_steq rfl (z_c1 rfl (z_c1 rfl (z_c1 (z_vi (by decide : (Int8.ofInt 50).toInt32 = Int32.ofInt 50)) (z_c1 rfl (z_c1 (z_vi ((zk_rd (f := m57 s) (zi_add (by decide : (Int8.ofInt 50).toInt32 = Int32.ofInt 50) rfl) (by unfold zR; omega)).trans rfl : Int32.ofInt (m57 s (((Int8.ofInt 50).toInt32) + (Int32.ofInt a)).toNatClampNeg) = Int32.ofInt (m57 s ((50 + a).toNat)))) (z_c1 (z_vi (zi_add (by decide : (Int8.ofInt 50).toInt32 = Int32.ofInt 50) rfl)) rfl)))))) rfl) ?_
  obtain ⟨r62, hs62, q_62⟩ := S_X3_mate zn (d + 0) hN hC s a m57 hIm57 (by omega) h_s (by omega) (by omega)
  refine zW.step (st1 := (83, [(some (.ref 18)), (some (.ref s)), (some (.int (Int32.ofInt a))), (some (.int (Int32.ofInt x3)))], [.int (Int32.ofInt r62), .int (Int32.ofInt 50), .ref s, .int (Int32.ofInt (m57 s ((50 + a).toNat))), .int (Int32.ofInt (50 + x3)), .ref s], zk c m57)) ⟨[zc (some (.int (Int32.ofInt r62))) (zk c m57)], _, rfl, ⟨⟨(Nat.le_of_ble_eq_true rfl), hs62, (Nat.le_of_ble_eq_true rfl), Nat.le_refl _, Nat.le_refl _, Nat.le_refl _, Nat.le_refl _⟩, trivial⟩⟩ rfl ?_
  have f63 : (-2147483648 : Int) ≤ m57 s ((50 + r62).toNat) ∧ m57 s ((50 + r62).toNat) ≤ 2147483647 := zr_i hIm57 h_s ((50 + r62).toNat)
  have f64 := zwR ((m57 s ((50 + a).toNat)) + (m57 s ((50 + r62).toNat)))
  have f65 := ztm9 (zw ((m57 s ((50 + a).toNat)) + (m57 s ((50 + r62).toNat)))) 4
  have f66 := ztml (zw ((m57 s ((50 + a).toNat)) + (m57 s ((50 + r62).toNat)))) 4
  have f67 := zwR (Int.tmod (zw ((m57 s ((50 + a).toNat)) + (m57 s ((50 + r62).toNat)))) 4)
  have f68 := zwI (Int.tmod (zw ((m57 s ((50 + a).toNat)) + (m57 s ((50 + r62).toNat)))) 4)
  obtain ⟨m69, hm69⟩ : ∃ q, q = zm_up m57 s ((50 + x3).toNat) (zw (Int.tmod (zw ((m57 s ((50 + a).toNat)) + (m57 s ((50 + r62).toNat)))) 4)) := ⟨_, rfl⟩
  have hIm69 : zI c m69 := by rw [hm69]; exact zI_up hIm57 (by unfold zOk; omega) (zrw_i h_s (by omega) (show (-2147483648 : Int) ≤ (zw (Int.tmod (zw ((m57 s ((50 + a).toNat)) + (m57 s ((50 + r62).toNat)))) 4)) ∧ (zw (Int.tmod (zw ((m57 s ((50 + a).toNat)) + (m57 s ((50 + r62).toNat)))) 4)) ≤ 2147483647 by omega))
  have em69 : m69 s ((50 + x3).toNat) = (zw (Int.tmod (zw ((m57 s ((50 + a).toNat)) + (m57 s ((50 + r62).toNat)))) 4)) := by rw [hm69]; exact zm_eq
  have tk70 : zF s m0 m69 := by rw [hm69]; exact zF_up tk58 (by unfold zQ; omega)
  have tk71 : zG s m0 m69 := by rw [hm69]; exact zG_up tk59 (by omega)
  have tk72 : m69 s 185 = m0 s 185 := by rw [hm69, zm_ne (by omega)]; exact tk60
  clear tk58 tk59
  refine zW.step (st1 := (89, [(some (.ref 18)), (some (.ref s)), (some (.int (Int32.ofInt a))), (some (.int (Int32.ofInt x3)))], [], z_hup (zk c m57) s (.inl (0, 188, .inl (upd (fun j => Int32.ofInt (m57 s j)) (Int32.ofInt (50 + x3)).toNatClampNeg (((Int32.ofInt (m57 s ((50 + a).toNat))) + (Int32.ofInt (m57 s ((Int32.ofInt 50) + (Int32.ofInt r62)).toNatClampNeg))) - ((Int32.ofInt (m57 s ((50 + a).toNat))) + (Int32.ofInt (m57 s ((Int32.ofInt 50) + (Int32.ofInt r62)).toNatClampNeg))) / (Int32.ofInt 4) * (Int32.ofInt 4))))))) (st2 := (89, [(some (.ref 18)), (some (.ref s)), (some (.int (Int32.ofInt a))), (some (.int (Int32.ofInt x3)))], [], zk c m69)) ⟨[zo, (false, 0, none, zh0, some (.inl (0, 188, .inl (fun j => Int32.ofInt (m57 s j))))), zo, zo, zo, (false, 0, none, zh0, some (.inl (0, 188, .inl (fun j => Int32.ofInt (m57 s j)))))], _, rfl, ⟨trivial, ⟨zk_ra c m57 h_s.1 (by omega), zi_in (zi_add rfl rfl) (by omega) (by omega) (by decide)⟩, trivial, trivial, zi_nz rfl (⟨by decide, by decide⟩ : zR 4) (by omega), ⟨zk_ra c m57 h_s.1 (by omega), zi_in rfl (by omega) (by omega) (by decide)⟩, trivial⟩⟩ (z_steq rfl rfl ((zk_ias c m57 h_s.1 rfl (by unfold zR; omega) (Eq.trans (zi_rem (Eq.trans (zi_add rfl ((zk_rd (f := m57 s) (zi_add rfl rfl) (by unfold zR; omega)).trans rfl : Int32.ofInt (m57 s ((Int32.ofInt 50) + (Int32.ofInt r62)).toNatClampNeg) = Int32.ofInt (m57 s ((50 + r62).toNat)))) (zw_eq _)) rfl (by unfold zR; omega) (⟨by decide, by decide⟩ : zR 4)) (zw_eq _))).trans (by rw [hm69]))) ?_
  clear f61 f63 f64 f65 f66 f67 f68 em69
  obtain ⟨m73, hm73⟩ : ∃ q, q = zm_up m69 s ((60 + x3).toNat) (-1) := ⟨_, rfl⟩
  have hIm73 : zI c m73 := by rw [hm73]; exact zI_up hIm69 (by unfold zOk; omega) (zrw_i h_s (by omega) (show (-2147483648 : Int) ≤ (-1) ∧ (-1) ≤ 2147483647 by omega))
  have em73 : m73 s ((60 + x3).toNat) = (-1) := by rw [hm73]; exact zm_eq
  have tk74 : zF s m0 m73 := by rw [hm73]; exact zF_up tk70 (by unfold zQ; omega)
  have tk75 : zG s m0 m73 := by rw [hm73]; exact zG_up tk71 (by omega)
  have tk76 : m73 s 185 = m0 s 185 := by rw [hm73, zm_ne (by omega)]; exact tk72
  clear tk70 tk71
  refine zW.step (st1 := (96, [(some (.ref 18)), (some (.ref s)), (some (.int (Int32.ofInt a))), (some (.int (Int32.ofInt x3)))], [], z_hup (zk c m69) s (.inl (0, 188, .inl (upd (fun j => Int32.ofInt (m69 s j)) (((Int8.ofInt 60).toInt32) + (Int32.ofInt x3)).toNatClampNeg (Int32.ofInt (-1))))))) (st2 := (96, [(some (.ref 18)), (some (.ref s)), (some (.int (Int32.ofInt a))), (some (.int (Int32.ofInt x3)))], [], zk c m73)) ⟨[zo, zo, zo, zo, zo, (false, 0, none, zh0, some (.inl (0, 188, .inl (fun j => Int32.ofInt (m69 s j)))))], _, rfl, ⟨trivial, trivial, trivial, trivial, trivial, ⟨zk_ra c m69 h_s.1 (by omega), zi_in (zi_add (by decide : (Int8.ofInt 60).toInt32 = Int32.ofInt 60) rfl) (by omega) (by omega) (by decide)⟩, trivial⟩⟩ (z_steq rfl rfl ((zk_ias c m69 h_s.1 (zi_add (by decide : (Int8.ofInt 60).toInt32 = Int32.ofInt 60) rfl) (by unfold zR; omega) rfl).trans (by rw [hm73]))) ?_
  exact L_X3_bear_96 zn _ hN hC s a r_a h_s k_s ha m0 _ (fun v9 h9 hq9 => KR _ _ hq9) _ x3 m73 hIm73 (by omega) (by omega) tk74 tk75 tk76 rfl

set_option maxRecDepth 100000 in
set_option maxHeartbeats 4000000 in
theorem S_X3_bear (zn : Bool) (d : Nat) {c : Nat × Nat} (hN : 107 ≤ c.1) (hC : c.1 < z_RO) (s : Nat) (a : Int) (m : zM) (hIm : zI c m) (r_a : -2147483648 ≤ a ∧ a ≤ 2147483647) (h_s : zS s) (k_s : s = 17 ∨ s = 70 ∨ s = 74 ∨ s = 76) (ha : 0 ≤ a ∧ a ≤ 9) (hm : m s 185 ≤ 9) : zCv zn (d + 2) 59 [.ref 18, .ref s, .int (Int32.ofInt a)] c m (fun (m1 : zM) => zI c m1 ∧ (m1 s 185 = m s 185 + 1) ∧ zF s m m1 ∧ zG s m m1) := by
  refine zCv.of zu_X3_bear hC (Nat.le_of_ble_eq_true rfl) ?_
  show zW zn (d + 1) 59 c (0, [(some (.ref 18)), (some (.ref s)), (some (.int (Int32.ofInt a))), none], [], zk c m) (fun v h1 => ∃ (m1 : zM), v = none ∧ h1 = zk c m1 ∧ zI c m1 ∧ (m1 s 185 = m s 185 + 1) ∧ zF s m m1 ∧ zG s m m1)
  have f78 : (0 : Int) ≤ m s 185 ∧ m s 185 ≤ 10 := zr_c hIm h_s
  have f79 : (-2147483648 : Int) ≤ m s ((0 + a).toNat) ∧ m s ((0 + a).toNat) ≤ 2147483647 := zr_i hIm h_s ((0 + a).toNat)
  have f80 := zwR (m s ((0 + a).toNat))
  have f81 := zwI (m s ((0 + a).toNat))
  obtain ⟨m82, hm82⟩ : ∃ q, q = zm_up m s ((0 + (m s 185)).toNat) (zw (m s ((0 + a).toNat))) := ⟨_, rfl⟩
  have hIm82 : zI c m82 := by rw [hm82]; exact zI_up hIm (by unfold zOk; omega) (zrw_i h_s (by omega) (show (-2147483648 : Int) ≤ (zw (m s ((0 + a).toNat))) ∧ (zw (m s ((0 + a).toNat))) ≤ 2147483647 by omega))
  have em82 : m82 s ((0 + (m s 185)).toNat) = (zw (m s ((0 + a).toNat))) := by rw [hm82]; exact zm_eq
  have tk83 : zF s m m82 := by rw [hm82]; exact zF_up zF_rf (by unfold zQ; omega)
  have tk84 : zG s m m82 := by rw [hm82]; exact zG_up zG_rf (by omega)
  have tk85 : m82 s 185 = m s 185 := by rw [hm82, zm_ne (by omega)]
  refine zW.step (st1 := (16, [(some (.ref 18)), (some (.ref s)), (some (.int (Int32.ofInt a))), (some (.int (Int32.ofInt (m s ((Int16.ofInt 185).toInt32).toNatClampNeg))))], [], z_hup (zk c m) s (.inl (0, 188, .inl (upd (fun j => Int32.ofInt (m s j)) ((Int32.ofInt 0) + (Int32.ofInt (m s ((Int16.ofInt 185).toInt32).toNatClampNeg))).toNatClampNeg (Int32.ofInt (m s ((Int32.ofInt 0) + (Int32.ofInt a)).toNatClampNeg))))))) (st2 := (16, [(some (.ref 18)), (some (.ref s)), (some (.int (Int32.ofInt a))), (some (.int (Int32.ofInt (m s 185))))], [], zk c m82)) ⟨[zo, zo, (false, 0, none, zh0, some (.inl (0, 188, .inl (fun j => Int32.ofInt (m s j))))), zo, zo, zo, zo, zo, zo, zo, zo, zo, (false, 0, none, zh0, some (.inl (0, 188, .inl (fun j => Int32.ofInt (m s j))))), (false, 0, none, zh0, some (.inl (0, 188, .inl (fun j => Int32.ofInt (m s j)))))], _, rfl, ⟨trivial, trivial, ⟨zk_ra c m h_s.1 (by omega), zi_in (by decide : (Int16.ofInt 185).toInt32 = Int32.ofInt 185) (by omega) (by omega) (by decide)⟩, trivial, trivial, trivial, trivial, trivial, trivial, trivial, trivial, trivial, ⟨zk_ra c m h_s.1 (by omega), zi_in (zi_add rfl rfl) (by omega) (by omega) (by decide)⟩, ⟨zk_ra c m h_s.1 (by omega), zi_in (zi_add rfl ((zk_rd (f := m s) (by decide : (Int16.ofInt 185).toInt32 = Int32.ofInt 185) (⟨by decide, by decide⟩ : zR 185)).trans rfl : Int32.ofInt (m s ((Int16.ofInt 185).toInt32).toNatClampNeg) = Int32.ofInt (m s 185))) (by omega) (by omega) (by decide)⟩, trivial⟩⟩ (z_steq (z_c1 rfl (z_c1 rfl (z_c1 rfl (z_c1 (z_si ((zk_rd (f := m s) (by decide : (Int16.ofInt 185).toInt32 = Int32.ofInt 185) (⟨by decide, by decide⟩ : zR 185)).trans rfl : Int32.ofInt (m s ((Int16.ofInt 185).toInt32).toNatClampNeg) = Int32.ofInt (m s 185))) rfl)))) rfl ((zk_ias c m h_s.1 (zi_add rfl ((zk_rd (f := m s) (by decide : (Int16.ofInt 185).toInt32 = Int32.ofInt 185) (⟨by decide, by decide⟩ : zR 185)).trans rfl : Int32.ofInt (m s ((Int16.ofInt 185).toInt32).toNatClampNeg) = Int32.ofInt (m s 185))) (by unfold zR; omega) (Eq.trans ((zk_rd (f := m s) (zi_add rfl rfl) (by unfold zR; omega)).trans rfl : Int32.ofInt (m s ((Int32.ofInt 0) + (Int32.ofInt a)).toNatClampNeg) = Int32.ofInt (m s ((0 + a).toNat))) (zw_eq _))).trans (by rw [hm82]))) ?_
  clear f79 f80 f81
  have f86 : (-2147483648 : Int) ≤ m82 s ((10 + a).toNat) ∧ m82 s ((10 + a).toNat) ≤ 2147483647 := zr_i hIm82 h_s ((10 + a).toNat)
  have f87 := zwR (m82 s ((10 + a).toNat))
  have f88 := zwI (m82 s ((10 + a).toNat))
  obtain ⟨m89, hm89⟩ : ∃ q, q = zm_up m82 s ((10 + (m s 185)).toNat) (zw (m82 s ((10 + a).toNat))) := ⟨_, rfl⟩
  have hIm89 : zI c m89 := by rw [hm89]; exact zI_up hIm82 (by unfold zOk; omega) (zrw_i h_s (by omega) (show (-2147483648 : Int) ≤ (zw (m82 s ((10 + a).toNat))) ∧ (zw (m82 s ((10 + a).toNat))) ≤ 2147483647 by omega))
  have em89 : m89 s ((10 + (m s 185)).toNat) = (zw (m82 s ((10 + a).toNat))) := by rw [hm89]; exact zm_eq
  have tk90 : zF s m m89 := by rw [hm89]; exact zF_up tk83 (by unfold zQ; omega)
  have tk91 : zG s m m89 := by rw [hm89]; exact zG_up tk84 (by omega)
  have tk92 : m89 s 185 = m s 185 := by rw [hm89, zm_ne (by omega)]; exact tk85
  clear tk83 tk84
  refine zW.step (st1 := (28, [(some (.ref 18)), (some (.ref s)), (some (.int (Int32.ofInt a))), (some (.int (Int32.ofInt (m s 185))))], [], z_hup (zk c m82) s (.inl (0, 188, .inl (upd (fun j => Int32.ofInt (m82 s j)) (((Int8.ofInt 10).toInt32) + (Int32.ofInt (m s 185))).toNatClampNeg (Int32.ofInt (m82 s (((Int8.ofInt 10).toInt32) + (Int32.ofInt a)).toNatClampNeg))))))) (st2 := (28, [(some (.ref 18)), (some (.ref s)), (some (.int (Int32.ofInt a))), (some (.int (Int32.ofInt (m s 185))))], [], zk c m89)) ⟨[zo, zo, zo, zo, zo, zo, zo, zo, (false, 0, none, zh0, some (.inl (0, 188, .inl (fun j => Int32.ofInt (m82 s j))))), (false, 0, none, zh0, some (.inl (0, 188, .inl (fun j => Int32.ofInt (m82 s j)))))], _, rfl, ⟨trivial, trivial, trivial, trivial, trivial, trivial, trivial, trivial, ⟨zk_ra c m82 h_s.1 (by omega), zi_in (zi_add (by decide : (Int8.ofInt 10).toInt32 = Int32.ofInt 10) rfl) (by omega) (by omega) (by decide)⟩, ⟨zk_ra c m82 h_s.1 (by omega), zi_in (zi_add (by decide : (Int8.ofInt 10).toInt32 = Int32.ofInt 10) rfl) (by omega) (by omega) (by decide)⟩, trivial⟩⟩ (z_steq rfl rfl ((zk_ias c m82 h_s.1 (zi_add (by decide : (Int8.ofInt 10).toInt32 = Int32.ofInt 10) rfl) (by unfold zR; omega) (Eq.trans ((zk_rd (f := m82 s) (zi_add (by decide : (Int8.ofInt 10).toInt32 = Int32.ofInt 10) rfl) (by unfold zR; omega)).trans rfl : Int32.ofInt (m82 s (((Int8.ofInt 10).toInt32) + (Int32.ofInt a)).toNatClampNeg) = Int32.ofInt (m82 s ((10 + a).toNat))) (zw_eq _))).trans (by rw [hm89]))) ?_
  clear f86 f87 f88
  have f93 : (-2147483648 : Int) ≤ m89 s ((20 + a).toNat) ∧ m89 s ((20 + a).toNat) ≤ 2147483647 := zr_i hIm89 h_s ((20 + a).toNat)
  have f94 := zwR (m89 s ((20 + a).toNat))
  have f95 := zwI (m89 s ((20 + a).toNat))
  obtain ⟨m96, hm96⟩ : ∃ q, q = zm_up m89 s ((20 + (m s 185)).toNat) (zw (m89 s ((20 + a).toNat))) := ⟨_, rfl⟩
  have hIm96 : zI c m96 := by rw [hm96]; exact zI_up hIm89 (by unfold zOk; omega) (zrw_i h_s (by omega) (show (-2147483648 : Int) ≤ (zw (m89 s ((20 + a).toNat))) ∧ (zw (m89 s ((20 + a).toNat))) ≤ 2147483647 by omega))
  have em96 : m96 s ((20 + (m s 185)).toNat) = (zw (m89 s ((20 + a).toNat))) := by rw [hm96]; exact zm_eq
  have tk97 : zF s m m96 := by rw [hm96]; exact zF_up tk90 (by unfold zQ; omega)
  have tk98 : zG s m m96 := by rw [hm96]; exact zG_up tk91 (by omega)
  have tk99 : m96 s 185 = m s 185 := by rw [hm96, zm_ne (by omega)]; exact tk92
  clear tk90 tk91
  refine zW.step (st1 := (40, [(some (.ref 18)), (some (.ref s)), (some (.int (Int32.ofInt a))), (some (.int (Int32.ofInt (m s 185))))], [], z_hup (zk c m89) s (.inl (0, 188, .inl (upd (fun j => Int32.ofInt (m89 s j)) (((Int8.ofInt 20).toInt32) + (Int32.ofInt (m s 185))).toNatClampNeg (Int32.ofInt (m89 s (((Int8.ofInt 20).toInt32) + (Int32.ofInt a)).toNatClampNeg))))))) (st2 := (40, [(some (.ref 18)), (some (.ref s)), (some (.int (Int32.ofInt a))), (some (.int (Int32.ofInt (m s 185))))], [], zk c m96)) ⟨[zo, zo, zo, zo, zo, zo, zo, zo, (false, 0, none, zh0, some (.inl (0, 188, .inl (fun j => Int32.ofInt (m89 s j))))), (false, 0, none, zh0, some (.inl (0, 188, .inl (fun j => Int32.ofInt (m89 s j)))))], _, rfl, ⟨trivial, trivial, trivial, trivial, trivial, trivial, trivial, trivial, ⟨zk_ra c m89 h_s.1 (by omega), zi_in (zi_add (by decide : (Int8.ofInt 20).toInt32 = Int32.ofInt 20) rfl) (by omega) (by omega) (by decide)⟩, ⟨zk_ra c m89 h_s.1 (by omega), zi_in (zi_add (by decide : (Int8.ofInt 20).toInt32 = Int32.ofInt 20) rfl) (by omega) (by omega) (by decide)⟩, trivial⟩⟩ (z_steq rfl rfl ((zk_ias c m89 h_s.1 (zi_add (by decide : (Int8.ofInt 20).toInt32 = Int32.ofInt 20) rfl) (by unfold zR; omega) (Eq.trans ((zk_rd (f := m89 s) (zi_add (by decide : (Int8.ofInt 20).toInt32 = Int32.ofInt 20) rfl) (by unfold zR; omega)).trans rfl : Int32.ofInt (m89 s (((Int8.ofInt 20).toInt32) + (Int32.ofInt a)).toNatClampNeg) = Int32.ofInt (m89 s ((20 + a).toNat))) (zw_eq _))).trans (by rw [hm96]))) ?_
  clear f93 f94 f95
  have f100 : (-2147483648 : Int) ≤ m96 s ((30 + a).toNat) ∧ m96 s ((30 + a).toNat) ≤ 2147483647 := zr_i hIm96 h_s ((30 + a).toNat)
  have f101 := zwR (m96 s ((30 + a).toNat))
  have f102 := zwI (m96 s ((30 + a).toNat))
  obtain ⟨m103, hm103⟩ : ∃ q, q = zm_up m96 s ((30 + (m s 185)).toNat) (zw (m96 s ((30 + a).toNat))) := ⟨_, rfl⟩
  have hIm103 : zI c m103 := by rw [hm103]; exact zI_up hIm96 (by unfold zOk; omega) (zrw_i h_s (by omega) (show (-2147483648 : Int) ≤ (zw (m96 s ((30 + a).toNat))) ∧ (zw (m96 s ((30 + a).toNat))) ≤ 2147483647 by omega))
  have em103 : m103 s ((30 + (m s 185)).toNat) = (zw (m96 s ((30 + a).toNat))) := by rw [hm103]; exact zm_eq
  have tk104 : zF s m m103 := by rw [hm103]; exact zF_up tk97 (by unfold zQ; omega)
  have tk105 : zG s m m103 := by rw [hm103]; exact zG_up tk98 (by omega)
  have tk106 : m103 s 185 = m s 185 := by rw [hm103, zm_ne (by omega)]; exact tk99
  clear tk97 tk98
  refine zW.step (st1 := (52, [(some (.ref 18)), (some (.ref s)), (some (.int (Int32.ofInt a))), (some (.int (Int32.ofInt (m s 185))))], [], z_hup (zk c m96) s (.inl (0, 188, .inl (upd (fun j => Int32.ofInt (m96 s j)) (((Int8.ofInt 30).toInt32) + (Int32.ofInt (m s 185))).toNatClampNeg (Int32.ofInt (m96 s (((Int8.ofInt 30).toInt32) + (Int32.ofInt a)).toNatClampNeg))))))) (st2 := (52, [(some (.ref 18)), (some (.ref s)), (some (.int (Int32.ofInt a))), (some (.int (Int32.ofInt (m s 185))))], [], zk c m103)) ⟨[zo, zo, zo, zo, zo, zo, zo, zo, (false, 0, none, zh0, some (.inl (0, 188, .inl (fun j => Int32.ofInt (m96 s j))))), (false, 0, none, zh0, some (.inl (0, 188, .inl (fun j => Int32.ofInt (m96 s j)))))], _, rfl, ⟨trivial, trivial, trivial, trivial, trivial, trivial, trivial, trivial, ⟨zk_ra c m96 h_s.1 (by omega), zi_in (zi_add (by decide : (Int8.ofInt 30).toInt32 = Int32.ofInt 30) rfl) (by omega) (by omega) (by decide)⟩, ⟨zk_ra c m96 h_s.1 (by omega), zi_in (zi_add (by decide : (Int8.ofInt 30).toInt32 = Int32.ofInt 30) rfl) (by omega) (by omega) (by decide)⟩, trivial⟩⟩ (z_steq rfl rfl ((zk_ias c m96 h_s.1 (zi_add (by decide : (Int8.ofInt 30).toInt32 = Int32.ofInt 30) rfl) (by unfold zR; omega) (Eq.trans ((zk_rd (f := m96 s) (zi_add (by decide : (Int8.ofInt 30).toInt32 = Int32.ofInt 30) rfl) (by unfold zR; omega)).trans rfl : Int32.ofInt (m96 s (((Int8.ofInt 30).toInt32) + (Int32.ofInt a)).toNatClampNeg) = Int32.ofInt (m96 s ((30 + a).toNat))) (zw_eq _))).trans (by rw [hm103]))) ?_
  clear f100 f101 f102
  exact L_X3_bear_52 zn _ hN hC s a r_a h_s k_s ha m _ (fun v9 h9 hq9 => hq9) _ (m s 185) m103 hIm103 (by omega) (by omega) tk104 tk105 tk106 rfl

