/-! THE INVARIANTS AT THE START -/
theorem zb_bl {b : Bool} {x y : Int} (hx : b = true → x ≤ 0) (hy : b = false → y ≤ 0) : (bif b then x else y) ≤ 0 := by
  cases b
  · exact hy rfl
  · exact hx rfl
theorem zb_bh {b : Bool} {x y : Int} (hx : 0 ≤ x) (hy : 0 ≤ y) : 0 ≤ (bif b then x else y) := by
  cases b
  · exact hy
  · exact hx
theorem zb_gl (L : List Int) (d : Int) (hd : d ≤ 0) (h : ∀ x ∈ L, x ≤ 0) (i : Nat) : L.getD i d ≤ 0 := by
  rw [List.getD_eq_getElem?_getD]
  cases e : L[i]? with
  | none => exact hd
  | some v => exact h v (List.mem_of_getElem? e)
theorem zb_gh (L : List Int) (d : Int) (hd : 0 ≤ d) (h : ∀ x ∈ L, 0 ≤ x) (i : Nat) : 0 ≤ L.getD i d := by
  rw [List.getD_eq_getElem?_getD]
  cases e : L[i]? with
  | none => exact hd
  | some v => exact h v (List.mem_of_getElem? e)
theorem zb_rl (i : Nat) : zrl i ≤ 0 := by
  unfold zrl
  repeat' (first | decide | refine zb_bl (fun _ => ?_) (fun _ => ?_))
theorem zb_rh (i : Nat) : 0 ≤ zrh i := by
  unfold zrh
  repeat' (first | decide | refine zb_bh ?_ ?_)
set_option maxRecDepth 100000 in
theorem zb_ql (i : Nat) : zql i ≤ 0 := zb_gl zqL _ (by decide) (by decide) i
set_option maxRecDepth 100000 in
theorem zb_qh (i : Nat) : 0 ≤ zqh i := zb_gh zqH _ (by decide) (by decide) i
set_option maxRecDepth 100000 in
theorem zb_lo {k i : Nat} (hk : k ≠ 79 ∨ i ≠ 5) : zlo k i ≤ 0 := by
  unfold zlo
  repeat' (first | decide | exact zb_rl i | exact zb_ql i | exact zb_gl _ _ (by decide) (by decide) _ | refine zb_bl (fun _ => ?_) (fun _ => ?_))
  rename_i h79 h78 _ h5
  exfalso
  have a := Nat.le_of_ble_eq_true h79
  have b : ¬ k ≤ 78 := fun h => by rw [Nat.ble_eq_true_of_le h] at h78; cases h78
  have e := Nat.eq_of_beq_eq_true h5
  omega
set_option maxRecDepth 100000 in
theorem zb_hi (k i : Nat) : 0 ≤ zhi k i := by
  unfold zhi
  repeat' (first | decide | exact zb_rh i | exact zb_qh i | exact zb_gh _ _ (by decide) (by decide) _ | refine zb_bh ?_ ?_)
theorem zm0_ge {p : Nat} (h : 107 ≤ p) (i : Nat) : zm0 p i = 0 := by
  unfold zm0
  rw [Nat.ble_eq_true_of_le h]; rfl
theorem zb_z {p i : Nat} (hk : p ≠ 79 ∨ i ≠ 5) (h : zm0 p i = 0) : zlo p i ≤ zm0 p i ∧ zm0 p i ≤ zhi p i := by rw [h]; exact ⟨zb_lo hk, zb_hi p i⟩
set_option maxRecDepth 100000 in
theorem zb0_0 : ∀ i, zlo 0 i ≤ zm0 0 i ∧ zm0 0 i ≤ zhi 0 i
  | 0 => by decide +kernel
  | 1 => by decide +kernel
  | 2 => by decide +kernel
  | 3 => by decide +kernel
  | 4 => by decide +kernel
  | 5 => by decide +kernel
  | 6 => by decide +kernel
  | 7 => by decide +kernel
  | 8 => by decide +kernel
  | 9 => by decide +kernel
  | 10 => by decide +kernel
  | 11 => by decide +kernel
  | 12 => by decide +kernel
  | 13 => by decide +kernel
  | 14 => by decide +kernel
  | i + 15 => zb_z (by omega) rfl
set_option maxRecDepth 100000 in
theorem zb0_1 : ∀ i, zlo 1 i ≤ zm0 1 i ∧ zm0 1 i ≤ zhi 1 i
  | 0 => by decide +kernel
  | 1 => by decide +kernel
  | 2 => by decide +kernel
  | 3 => by decide +kernel
  | i + 4 => zb_z (by omega) rfl
theorem zb0_2 (i : Nat) : zlo 2 i ≤ zm0 2 i ∧ zm0 2 i ≤ zhi 2 i := zb_z (by omega) rfl
set_option maxRecDepth 100000 in
theorem zb0_3 : ∀ i, zlo 3 i ≤ zm0 3 i ∧ zm0 3 i ≤ zhi 3 i
  | 0 => by decide +kernel
  | 1 => by decide +kernel
  | 2 => by decide +kernel
  | 3 => by decide +kernel
  | i + 4 => zb_z (by omega) rfl
set_option maxRecDepth 100000 in
theorem zb0_4 : ∀ i, zlo 4 i ≤ zm0 4 i ∧ zm0 4 i ≤ zhi 4 i
  | 0 => by decide +kernel
  | 1 => by decide +kernel
  | 2 => by decide +kernel
  | 3 => by decide +kernel
  | 4 => by decide +kernel
  | i + 5 => zb_z (by omega) rfl
theorem zb0_5 (i : Nat) : zlo 5 i ≤ zm0 5 i ∧ zm0 5 i ≤ zhi 5 i := zb_z (by omega) rfl
theorem zb0_6 (i : Nat) : zlo 6 i ≤ zm0 6 i ∧ zm0 6 i ≤ zhi 6 i := zb_z (by omega) rfl
theorem zb0_7 (i : Nat) : zlo 7 i ≤ zm0 7 i ∧ zm0 7 i ≤ zhi 7 i := zb_z (by omega) rfl
theorem zb0_8 (i : Nat) : zlo 8 i ≤ zm0 8 i ∧ zm0 8 i ≤ zhi 8 i := zb_z (by omega) rfl
theorem zb0_9 (i : Nat) : zlo 9 i ≤ zm0 9 i ∧ zm0 9 i ≤ zhi 9 i := zb_z (by omega) rfl
set_option maxRecDepth 100000 in
theorem zb0_10 : ∀ i, zlo 10 i ≤ zm0 10 i ∧ zm0 10 i ≤ zhi 10 i
  | 0 => by decide +kernel
  | 1 => by decide +kernel
  | 2 => by decide +kernel
  | 3 => by decide +kernel
  | i + 4 => zb_z (by omega) rfl
theorem zb0_11 (i : Nat) : zlo 11 i ≤ zm0 11 i ∧ zm0 11 i ≤ zhi 11 i := zb_z (by omega) rfl
theorem zb0_12 (i : Nat) : zlo 12 i ≤ zm0 12 i ∧ zm0 12 i ≤ zhi 12 i := zb_z (by omega) rfl
set_option maxRecDepth 100000 in
theorem zb0_13 : ∀ i, zlo 13 i ≤ zm0 13 i ∧ zm0 13 i ≤ zhi 13 i
  | 0 => by decide +kernel
  | 1 => by decide +kernel
  | 2 => by decide +kernel
  | 3 => by decide +kernel
  | 4 => by decide +kernel
  | i + 5 => zb_z (by omega) rfl
theorem zb0_14 (i : Nat) : zlo 14 i ≤ zm0 14 i ∧ zm0 14 i ≤ zhi 14 i := zb_z (by omega) rfl
theorem zb0_15 (i : Nat) : zlo 15 i ≤ zm0 15 i ∧ zm0 15 i ≤ zhi 15 i := zb_z (by omega) rfl
theorem zb0_16 (i : Nat) : zlo 16 i ≤ zm0 16 i ∧ zm0 16 i ≤ zhi 16 i := zb_z (by omega) rfl
theorem zb0_17 (i : Nat) : zlo 17 i ≤ zm0 17 i ∧ zm0 17 i ≤ zhi 17 i := zb_z (by omega) rfl
set_option maxRecDepth 100000 in
theorem zb0_18 : ∀ i, zlo 18 i ≤ zm0 18 i ∧ zm0 18 i ≤ zhi 18 i
  | 0 => by decide +kernel
  | 1 => by decide +kernel
  | 2 => by decide +kernel
  | 3 => by decide +kernel
  | 4 => by decide +kernel
  | 5 => by decide +kernel
  | 6 => by decide +kernel
  | 7 => by decide +kernel
  | 8 => by decide +kernel
  | 9 => by decide +kernel
  | 10 => by decide +kernel
  | 11 => by decide +kernel
  | i + 12 => zb_z (by omega) rfl
theorem zb0_19 (i : Nat) : zlo 19 i ≤ zm0 19 i ∧ zm0 19 i ≤ zhi 19 i := zb_z (by omega) rfl
theorem zb0_20 (i : Nat) : zlo 20 i ≤ zm0 20 i ∧ zm0 20 i ≤ zhi 20 i := zb_z (by omega) rfl
theorem zb0_21 (i : Nat) : zlo 21 i ≤ zm0 21 i ∧ zm0 21 i ≤ zhi 21 i := zb_z (by omega) rfl
theorem zb0_22 (i : Nat) : zlo 22 i ≤ zm0 22 i ∧ zm0 22 i ≤ zhi 22 i := zb_z (by omega) rfl
set_option maxRecDepth 100000 in
theorem zb0_23 : ∀ i, zlo 23 i ≤ zm0 23 i ∧ zm0 23 i ≤ zhi 23 i
  | 0 => by decide +kernel
  | 1 => by decide +kernel
  | 2 => by decide +kernel
  | 3 => by decide +kernel
  | 4 => by decide +kernel
  | 5 => by decide +kernel
  | 6 => by decide +kernel
  | 7 => by decide +kernel
  | 8 => by decide +kernel
  | i + 9 => zb_z (by omega) rfl
theorem zb0_24 (i : Nat) : zlo 24 i ≤ zm0 24 i ∧ zm0 24 i ≤ zhi 24 i := zb_z (by omega) rfl
theorem zb0_25 (i : Nat) : zlo 25 i ≤ zm0 25 i ∧ zm0 25 i ≤ zhi 25 i := zb_z (by omega) rfl
theorem zb0_26 (i : Nat) : zlo 26 i ≤ zm0 26 i ∧ zm0 26 i ≤ zhi 26 i := zb_z (by omega) rfl
theorem zb0_27 (i : Nat) : zlo 27 i ≤ zm0 27 i ∧ zm0 27 i ≤ zhi 27 i := zb_z (by omega) rfl
theorem zb0_28 (i : Nat) : zlo 28 i ≤ zm0 28 i ∧ zm0 28 i ≤ zhi 28 i := zb_z (by omega) rfl
theorem zb0_29 (i : Nat) : zlo 29 i ≤ zm0 29 i ∧ zm0 29 i ≤ zhi 29 i := zb_z (by omega) rfl
theorem zb0_30 (i : Nat) : zlo 30 i ≤ zm0 30 i ∧ zm0 30 i ≤ zhi 30 i := zb_z (by omega) rfl
theorem zb0_31 (i : Nat) : zlo 31 i ≤ zm0 31 i ∧ zm0 31 i ≤ zhi 31 i := zb_z (by omega) rfl
theorem zb0_32 (i : Nat) : zlo 32 i ≤ zm0 32 i ∧ zm0 32 i ≤ zhi 32 i := zb_z (by omega) rfl
theorem zb0_33 (i : Nat) : zlo 33 i ≤ zm0 33 i ∧ zm0 33 i ≤ zhi 33 i := zb_z (by omega) rfl
theorem zb0_34 (i : Nat) : zlo 34 i ≤ zm0 34 i ∧ zm0 34 i ≤ zhi 34 i := zb_z (by omega) rfl
theorem zb0_35 (i : Nat) : zlo 35 i ≤ zm0 35 i ∧ zm0 35 i ≤ zhi 35 i := zb_z (by omega) rfl
theorem zb0_36 (i : Nat) : zlo 36 i ≤ zm0 36 i ∧ zm0 36 i ≤ zhi 36 i := zb_z (by omega) rfl
theorem zb0_37 (i : Nat) : zlo 37 i ≤ zm0 37 i ∧ zm0 37 i ≤ zhi 37 i := zb_z (by omega) rfl
theorem zb0_38 (i : Nat) : zlo 38 i ≤ zm0 38 i ∧ zm0 38 i ≤ zhi 38 i := zb_z (by omega) rfl
theorem zb0_39 (i : Nat) : zlo 39 i ≤ zm0 39 i ∧ zm0 39 i ≤ zhi 39 i := zb_z (by omega) rfl
theorem zb0_40 (i : Nat) : zlo 40 i ≤ zm0 40 i ∧ zm0 40 i ≤ zhi 40 i := zb_z (by omega) rfl
theorem zb0_41 (i : Nat) : zlo 41 i ≤ zm0 41 i ∧ zm0 41 i ≤ zhi 41 i := zb_z (by omega) rfl
theorem zb0_42 (i : Nat) : zlo 42 i ≤ zm0 42 i ∧ zm0 42 i ≤ zhi 42 i := zb_z (by omega) rfl
theorem zb0_43 (i : Nat) : zlo 43 i ≤ zm0 43 i ∧ zm0 43 i ≤ zhi 43 i := zb_z (by omega) rfl
theorem zb0_44 (i : Nat) : zlo 44 i ≤ zm0 44 i ∧ zm0 44 i ≤ zhi 44 i := zb_z (by omega) rfl
theorem zb0_45 (i : Nat) : zlo 45 i ≤ zm0 45 i ∧ zm0 45 i ≤ zhi 45 i := zb_z (by omega) rfl
theorem zb0_46 (i : Nat) : zlo 46 i ≤ zm0 46 i ∧ zm0 46 i ≤ zhi 46 i := zb_z (by omega) rfl
theorem zb0_47 (i : Nat) : zlo 47 i ≤ zm0 47 i ∧ zm0 47 i ≤ zhi 47 i := zb_z (by omega) rfl
theorem zb0_48 (i : Nat) : zlo 48 i ≤ zm0 48 i ∧ zm0 48 i ≤ zhi 48 i := zb_z (by omega) rfl
theorem zb0_49 (i : Nat) : zlo 49 i ≤ zm0 49 i ∧ zm0 49 i ≤ zhi 49 i := zb_z (by omega) rfl
theorem zb0_50 (i : Nat) : zlo 50 i ≤ zm0 50 i ∧ zm0 50 i ≤ zhi 50 i := zb_z (by omega) rfl
theorem zb0_51 (i : Nat) : zlo 51 i ≤ zm0 51 i ∧ zm0 51 i ≤ zhi 51 i := zb_z (by omega) rfl
theorem zb0_52 (i : Nat) : zlo 52 i ≤ zm0 52 i ∧ zm0 52 i ≤ zhi 52 i := zb_z (by omega) rfl
theorem zb0_53 (i : Nat) : zlo 53 i ≤ zm0 53 i ∧ zm0 53 i ≤ zhi 53 i := zb_z (by omega) rfl
theorem zb0_54 (i : Nat) : zlo 54 i ≤ zm0 54 i ∧ zm0 54 i ≤ zhi 54 i := zb_z (by omega) rfl
theorem zb0_55 (i : Nat) : zlo 55 i ≤ zm0 55 i ∧ zm0 55 i ≤ zhi 55 i := zb_z (by omega) rfl
theorem zb0_56 (i : Nat) : zlo 56 i ≤ zm0 56 i ∧ zm0 56 i ≤ zhi 56 i := zb_z (by omega) rfl
theorem zb0_57 (i : Nat) : zlo 57 i ≤ zm0 57 i ∧ zm0 57 i ≤ zhi 57 i := zb_z (by omega) rfl
theorem zb0_58 (i : Nat) : zlo 58 i ≤ zm0 58 i ∧ zm0 58 i ≤ zhi 58 i := zb_z (by omega) rfl
theorem zb0_59 (i : Nat) : zlo 59 i ≤ zm0 59 i ∧ zm0 59 i ≤ zhi 59 i := zb_z (by omega) rfl
theorem zb0_60 (i : Nat) : zlo 60 i ≤ zm0 60 i ∧ zm0 60 i ≤ zhi 60 i := zb_z (by omega) rfl
theorem zb0_61 (i : Nat) : zlo 61 i ≤ zm0 61 i ∧ zm0 61 i ≤ zhi 61 i := zb_z (by omega) rfl
theorem zb0_62 (i : Nat) : zlo 62 i ≤ zm0 62 i ∧ zm0 62 i ≤ zhi 62 i := zb_z (by omega) rfl
theorem zb0_63 (i : Nat) : zlo 63 i ≤ zm0 63 i ∧ zm0 63 i ≤ zhi 63 i := zb_z (by omega) rfl
theorem zb0_64 (i : Nat) : zlo 64 i ≤ zm0 64 i ∧ zm0 64 i ≤ zhi 64 i := zb_z (by omega) rfl
theorem zb0_65 (i : Nat) : zlo 65 i ≤ zm0 65 i ∧ zm0 65 i ≤ zhi 65 i := zb_z (by omega) rfl
theorem zb0_66 (i : Nat) : zlo 66 i ≤ zm0 66 i ∧ zm0 66 i ≤ zhi 66 i := zb_z (by omega) rfl
theorem zb0_67 (i : Nat) : zlo 67 i ≤ zm0 67 i ∧ zm0 67 i ≤ zhi 67 i := zb_z (by omega) rfl
set_option maxRecDepth 100000 in
theorem zb0_68 : ∀ i, zlo 68 i ≤ zm0 68 i ∧ zm0 68 i ≤ zhi 68 i
  | 0 => by decide +kernel
  | 1 => by decide +kernel
  | i + 2 => zb_z (by omega) rfl
set_option maxRecDepth 100000 in
theorem zb0_69 : ∀ i, zlo 69 i ≤ zm0 69 i ∧ zm0 69 i ≤ zhi 69 i
  | 0 => by decide +kernel
  | 1 => by decide +kernel
  | 2 => by decide +kernel
  | 3 => by decide +kernel
  | 4 => by decide +kernel
  | 5 => by decide +kernel
  | 6 => by decide +kernel
  | i + 7 => zb_z (by omega) rfl
theorem zb0_70 (i : Nat) : zlo 70 i ≤ zm0 70 i ∧ zm0 70 i ≤ zhi 70 i := zb_z (by omega) rfl
theorem zb0_71 (i : Nat) : zlo 71 i ≤ zm0 71 i ∧ zm0 71 i ≤ zhi 71 i := zb_z (by omega) rfl
theorem zb0_72 (i : Nat) : zlo 72 i ≤ zm0 72 i ∧ zm0 72 i ≤ zhi 72 i := zb_z (by omega) rfl
set_option maxRecDepth 100000 in
theorem zb0_73 : ∀ i, zlo 73 i ≤ zm0 73 i ∧ zm0 73 i ≤ zhi 73 i
  | 0 => by decide +kernel
  | 1 => by decide +kernel
  | 2 => by decide +kernel
  | 3 => by decide +kernel
  | 4 => by decide +kernel
  | i + 5 => zb_z (by omega) rfl
theorem zb0_74 (i : Nat) : zlo 74 i ≤ zm0 74 i ∧ zm0 74 i ≤ zhi 74 i := zb_z (by omega) rfl
set_option maxRecDepth 100000 in
theorem zb0_75 : ∀ i, zlo 75 i ≤ zm0 75 i ∧ zm0 75 i ≤ zhi 75 i
  | 0 => by decide +kernel
  | 1 => by decide +kernel
  | 2 => by decide +kernel
  | 3 => by decide +kernel
  | 4 => by decide +kernel
  | 5 => by decide +kernel
  | i + 6 => zb_z (by omega) rfl
theorem zb0_76 (i : Nat) : zlo 76 i ≤ zm0 76 i ∧ zm0 76 i ≤ zhi 76 i := zb_z (by omega) rfl
theorem zb0_77 (i : Nat) : zlo 77 i ≤ zm0 77 i ∧ zm0 77 i ≤ zhi 77 i := zb_z (by omega) rfl
theorem zb0_78 (i : Nat) : zlo 78 i ≤ zm0 78 i ∧ zm0 78 i ≤ zhi 78 i := zb_z (by omega) rfl
set_option maxRecDepth 100000 in
theorem zb0_79 : ∀ i, zlo 79 i ≤ zm0 79 i ∧ zm0 79 i ≤ zhi 79 i
  | 0 => by decide +kernel
  | 1 => by decide +kernel
  | 2 => by decide +kernel
  | 3 => by decide +kernel
  | 4 => by decide +kernel
  | 5 => by decide +kernel
  | 6 => by decide +kernel
  | 7 => by decide +kernel
  | 8 => by decide +kernel
  | 9 => by decide +kernel
  | 10 => by decide +kernel
  | 11 => by decide +kernel
  | 12 => by decide +kernel
  | 13 => by decide +kernel
  | 14 => by decide +kernel
  | 15 => by decide +kernel
  | 16 => by decide +kernel
  | 17 => by decide +kernel
  | 18 => by decide +kernel
  | 19 => by decide +kernel
  | 20 => by decide +kernel
  | 21 => by decide +kernel
  | 22 => by decide +kernel
  | 23 => by decide +kernel
  | 24 => by decide +kernel
  | 25 => by decide +kernel
  | 26 => by decide +kernel
  | 27 => by decide +kernel
  | 28 => by decide +kernel
  | 29 => by decide +kernel
  | 30 => by decide +kernel
  | 31 => by decide +kernel
  | 32 => by decide +kernel
  | 33 => by decide +kernel
  | 34 => by decide +kernel
  | 35 => by decide +kernel
  | 36 => by decide +kernel
  | 37 => by decide +kernel
  | 38 => by decide +kernel
  | 39 => by decide +kernel
  | 40 => by decide +kernel
  | 41 => by decide +kernel
  | 42 => by decide +kernel
  | 43 => by decide +kernel
  | 44 => by decide +kernel
  | 45 => by decide +kernel
  | 46 => by decide +kernel
  | 47 => by decide +kernel
  | 48 => by decide +kernel
  | 49 => by decide +kernel
  | 50 => by decide +kernel
  | 51 => by decide +kernel
  | 52 => by decide +kernel
  | 53 => by decide +kernel
  | 54 => by decide +kernel
  | 55 => by decide +kernel
  | 56 => by decide +kernel
  | 57 => by decide +kernel
  | i + 58 => zb_z (by omega) rfl
theorem zb0_80 (i : Nat) : zlo 80 i ≤ zm0 80 i ∧ zm0 80 i ≤ zhi 80 i := zb_z (by omega) rfl
theorem zb0_81 (i : Nat) : zlo 81 i ≤ zm0 81 i ∧ zm0 81 i ≤ zhi 81 i := zb_z (by omega) rfl
theorem zb0_82 (i : Nat) : zlo 82 i ≤ zm0 82 i ∧ zm0 82 i ≤ zhi 82 i := zb_z (by omega) rfl
theorem zb0_83 (i : Nat) : zlo 83 i ≤ zm0 83 i ∧ zm0 83 i ≤ zhi 83 i := zb_z (by omega) rfl
theorem zb0_84 (i : Nat) : zlo 84 i ≤ zm0 84 i ∧ zm0 84 i ≤ zhi 84 i := zb_z (by omega) rfl
theorem zb0_85 (i : Nat) : zlo 85 i ≤ zm0 85 i ∧ zm0 85 i ≤ zhi 85 i := zb_z (by omega) rfl
theorem zb0_86 (i : Nat) : zlo 86 i ≤ zm0 86 i ∧ zm0 86 i ≤ zhi 86 i := zb_z (by omega) rfl
theorem zb0_87 (i : Nat) : zlo 87 i ≤ zm0 87 i ∧ zm0 87 i ≤ zhi 87 i := zb_z (by omega) rfl
theorem zb0_88 (i : Nat) : zlo 88 i ≤ zm0 88 i ∧ zm0 88 i ≤ zhi 88 i := zb_z (by omega) rfl
theorem zb0_89 (i : Nat) : zlo 89 i ≤ zm0 89 i ∧ zm0 89 i ≤ zhi 89 i := zb_z (by omega) rfl
theorem zb0_90 (i : Nat) : zlo 90 i ≤ zm0 90 i ∧ zm0 90 i ≤ zhi 90 i := zb_z (by omega) rfl
theorem zb0_91 (i : Nat) : zlo 91 i ≤ zm0 91 i ∧ zm0 91 i ≤ zhi 91 i := zb_z (by omega) rfl
theorem zb0_92 (i : Nat) : zlo 92 i ≤ zm0 92 i ∧ zm0 92 i ≤ zhi 92 i := zb_z (by omega) rfl
theorem zb0_93 (i : Nat) : zlo 93 i ≤ zm0 93 i ∧ zm0 93 i ≤ zhi 93 i := zb_z (by omega) rfl
theorem zb0_94 (i : Nat) : zlo 94 i ≤ zm0 94 i ∧ zm0 94 i ≤ zhi 94 i := zb_z (by omega) rfl
theorem zb0_95 (i : Nat) : zlo 95 i ≤ zm0 95 i ∧ zm0 95 i ≤ zhi 95 i := zb_z (by omega) rfl
theorem zb0_96 (i : Nat) : zlo 96 i ≤ zm0 96 i ∧ zm0 96 i ≤ zhi 96 i := zb_z (by omega) rfl
theorem zb0_97 (i : Nat) : zlo 97 i ≤ zm0 97 i ∧ zm0 97 i ≤ zhi 97 i := zb_z (by omega) rfl
theorem zb0_98 (i : Nat) : zlo 98 i ≤ zm0 98 i ∧ zm0 98 i ≤ zhi 98 i := zb_z (by omega) rfl
theorem zb0_99 (i : Nat) : zlo 99 i ≤ zm0 99 i ∧ zm0 99 i ≤ zhi 99 i := zb_z (by omega) rfl
theorem zb0_100 (i : Nat) : zlo 100 i ≤ zm0 100 i ∧ zm0 100 i ≤ zhi 100 i := zb_z (by omega) rfl
theorem zb0_101 (i : Nat) : zlo 101 i ≤ zm0 101 i ∧ zm0 101 i ≤ zhi 101 i := zb_z (by omega) rfl
theorem zb0_102 (i : Nat) : zlo 102 i ≤ zm0 102 i ∧ zm0 102 i ≤ zhi 102 i := zb_z (by omega) rfl
theorem zb0_103 (i : Nat) : zlo 103 i ≤ zm0 103 i ∧ zm0 103 i ≤ zhi 103 i := zb_z (by omega) rfl
theorem zb0_104 (i : Nat) : zlo 104 i ≤ zm0 104 i ∧ zm0 104 i ≤ zhi 104 i := zb_z (by omega) rfl
theorem zb0_105 (i : Nat) : zlo 105 i ≤ zm0 105 i ∧ zm0 105 i ≤ zhi 105 i := zb_z (by omega) rfl
theorem zb0_106 (i : Nat) : zlo 106 i ≤ zm0 106 i ∧ zm0 106 i ≤ zhi 106 i := zb_z (by omega) rfl
theorem zB0 : zB zm0 := fun p i => match p with
  | 0 => zb0_0 i
  | 1 => zb0_1 i
  | 2 => zb0_2 i
  | 3 => zb0_3 i
  | 4 => zb0_4 i
  | 5 => zb0_5 i
  | 6 => zb0_6 i
  | 7 => zb0_7 i
  | 8 => zb0_8 i
  | 9 => zb0_9 i
  | 10 => zb0_10 i
  | 11 => zb0_11 i
  | 12 => zb0_12 i
  | 13 => zb0_13 i
  | 14 => zb0_14 i
  | 15 => zb0_15 i
  | 16 => zb0_16 i
  | 17 => zb0_17 i
  | 18 => zb0_18 i
  | 19 => zb0_19 i
  | 20 => zb0_20 i
  | 21 => zb0_21 i
  | 22 => zb0_22 i
  | 23 => zb0_23 i
  | 24 => zb0_24 i
  | 25 => zb0_25 i
  | 26 => zb0_26 i
  | 27 => zb0_27 i
  | 28 => zb0_28 i
  | 29 => zb0_29 i
  | 30 => zb0_30 i
  | 31 => zb0_31 i
  | 32 => zb0_32 i
  | 33 => zb0_33 i
  | 34 => zb0_34 i
  | 35 => zb0_35 i
  | 36 => zb0_36 i
  | 37 => zb0_37 i
  | 38 => zb0_38 i
  | 39 => zb0_39 i
  | 40 => zb0_40 i
  | 41 => zb0_41 i
  | 42 => zb0_42 i
  | 43 => zb0_43 i
  | 44 => zb0_44 i
  | 45 => zb0_45 i
  | 46 => zb0_46 i
  | 47 => zb0_47 i
  | 48 => zb0_48 i
  | 49 => zb0_49 i
  | 50 => zb0_50 i
  | 51 => zb0_51 i
  | 52 => zb0_52 i
  | 53 => zb0_53 i
  | 54 => zb0_54 i
  | 55 => zb0_55 i
  | 56 => zb0_56 i
  | 57 => zb0_57 i
  | 58 => zb0_58 i
  | 59 => zb0_59 i
  | 60 => zb0_60 i
  | 61 => zb0_61 i
  | 62 => zb0_62 i
  | 63 => zb0_63 i
  | 64 => zb0_64 i
  | 65 => zb0_65 i
  | 66 => zb0_66 i
  | 67 => zb0_67 i
  | 68 => zb0_68 i
  | 69 => zb0_69 i
  | 70 => zb0_70 i
  | 71 => zb0_71 i
  | 72 => zb0_72 i
  | 73 => zb0_73 i
  | 74 => zb0_74 i
  | 75 => zb0_75 i
  | 76 => zb0_76 i
  | 77 => zb0_77 i
  | 78 => zb0_78 i
  | 79 => zb0_79 i
  | 80 => zb0_80 i
  | 81 => zb0_81 i
  | 82 => zb0_82 i
  | 83 => zb0_83 i
  | 84 => zb0_84 i
  | 85 => zb0_85 i
  | 86 => zb0_86 i
  | 87 => zb0_87 i
  | 88 => zb0_88 i
  | 89 => zb0_89 i
  | 90 => zb0_90 i
  | 91 => zb0_91 i
  | 92 => zb0_92 i
  | 93 => zb0_93 i
  | 94 => zb0_94 i
  | 95 => zb0_95 i
  | 96 => zb0_96 i
  | 97 => zb0_97 i
  | 98 => zb0_98 i
  | 99 => zb0_99 i
  | 100 => zb0_100 i
  | 101 => zb0_101 i
  | 102 => zb0_102 i
  | 103 => zb0_103 i
  | 104 => zb0_104 i
  | 105 => zb0_105 i
  | 106 => zb0_106 i
  | p + 107 => zb_z (by omega) (zm0_ge (by omega) i)
theorem zI0 : zI (107, 35862) zm0 zm0 := ⟨zB0, Or.inl (by decide +kernel), by decide +kernel, fun j hj => by
  have e : zm0 0 13 = 0 := by decide +kernel
  omega, fun _ _ _ => rfl⟩
theorem zH0 : zH 0 zm0 := by
  intro p hp
  have : ∀ p : Nat, p < 107 → zm0 p 184 ≤ 0 := by decide +kernel
  by_cases h : p < 107
  · exact this p h
  · rw [zm0_ge (by omega)]; decide
theorem zqP0 {r : Nat → Int} (h : ∀ j, r j = 0) : zqP r 0 := ⟨by rw [h]; decide, Or.inl (h _), fun c _ _ => ⟨by rw [h]; decide, by rw [h]; decide, fun e => by rw [h] at e; cases e⟩⟩
theorem zJ0 : zJ zm0 0 0 zm0 := by
  refine ⟨zB0, fun _ _ _ => rfl, Or.inl (by decide +kernel), Or.inl (by decide +kernel), Or.inr (Or.inr (zqP0 fun j => rfl)), Or.inr (zqP0 fun j => rfl), Or.inr (Or.inr ⟨fun k _ => zqP0 fun j => rfl, ?_⟩)⟩
  decide +kernel
theorem zc0 : zm0 68 0 = zm0 79 34 := by decide +kernel
