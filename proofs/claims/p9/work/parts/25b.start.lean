/-! THE HEAP BEHIND THE CONSTRUCTORS IS A MEMORY -/
def zm_rdv : Value → Int
  | .int v => v.toInt
  | .long v => v.toInt
  | .ref a => (a : Int)
  | _ => 0
def zm_rd (e : z_E) (j : Nat) : Int := match e with
  | .inr (_, fs) => zm_rdv (fs.getD j .null)
  | .inl (_, _, .inl f) => (f j).toInt
  | .inl (_, _, .inr (.inl f)) => (f j).toInt
  | _ => 0
def zm0 : zM := fun p j => bif Nat.ble 107 p then 0 else zm_rd (zh40.2.2 p) j
set_option maxRecDepth 100000 in
theorem z0_0 : zm_sh 0 (zm0 0) = zh40.2.2 0 := rfl
set_option maxRecDepth 100000 in
theorem z0_1 : zm_sh 1 (zm0 1) = zh40.2.2 1 := rfl
set_option maxRecDepth 100000 in
theorem z0_2 : zm_sh 2 (zm0 2) = zh40.2.2 2 := rfl
set_option maxRecDepth 100000 in
theorem z0_3 : zm_sh 3 (zm0 3) = zh40.2.2 3 := rfl
set_option maxRecDepth 100000 in
theorem z0_4 : zm_sh 4 (zm0 4) = zh40.2.2 4 := rfl
set_option maxRecDepth 100000 in
theorem z0_5 : zm_sh 5 (zm0 5) = zh40.2.2 5 := rfl
set_option maxRecDepth 100000 in
theorem z0_6 : zm_sh 6 (zm0 6) = zh40.2.2 6 := rfl
set_option maxRecDepth 100000 in
theorem z0_7 : zm_sh 7 (zm0 7) = zh40.2.2 7 := rfl
set_option maxRecDepth 100000 in
theorem z0_8 : zm_sh 8 (zm0 8) = zh40.2.2 8 := rfl
set_option maxRecDepth 100000 in
theorem z0_9 : zm_sh 9 (zm0 9) = zh40.2.2 9 := rfl
set_option maxRecDepth 100000 in
theorem z0_10 : zm_sh 10 (zm0 10) = zh40.2.2 10 := rfl
set_option maxRecDepth 100000 in
theorem z0_11 : zm_sh 11 (zm0 11) = zh40.2.2 11 := rfl
set_option maxRecDepth 100000 in
theorem z0_12 : zm_sh 12 (zm0 12) = zh40.2.2 12 := rfl
set_option maxRecDepth 100000 in
theorem z0_13 : zm_sh 13 (zm0 13) = zh40.2.2 13 := rfl
set_option maxRecDepth 100000 in
theorem z0_14 : zm_sh 14 (zm0 14) = zh40.2.2 14 := rfl
set_option maxRecDepth 100000 in
theorem z0_15 : zm_sh 15 (zm0 15) = zh40.2.2 15 := rfl
set_option maxRecDepth 100000 in
theorem z0_16 : zm_sh 16 (zm0 16) = zh40.2.2 16 := rfl
set_option maxRecDepth 100000 in
theorem z0_17 : zm_sh 17 (zm0 17) = zh40.2.2 17 := rfl
set_option maxRecDepth 100000 in
theorem z0_18 : zm_sh 18 (zm0 18) = zh40.2.2 18 := rfl
set_option maxRecDepth 100000 in
theorem z0_19 : zm_sh 19 (zm0 19) = zh40.2.2 19 := rfl
set_option maxRecDepth 100000 in
theorem z0_20 : zm_sh 20 (zm0 20) = zh40.2.2 20 := rfl
set_option maxRecDepth 100000 in
theorem z0_21 : zm_sh 21 (zm0 21) = zh40.2.2 21 := rfl
set_option maxRecDepth 100000 in
theorem z0_22 : zm_sh 22 (zm0 22) = zh40.2.2 22 := rfl
set_option maxRecDepth 100000 in
theorem z0_23 : zm_sh 23 (zm0 23) = zh40.2.2 23 := rfl
set_option maxRecDepth 100000 in
theorem z0_24 : zm_sh 24 (zm0 24) = zh40.2.2 24 := by
  show (.inl (5, 40, .inr (.inr (.inr (.inr (fun j => if j < 40 then some (25 + j) else none))))) : z_E) = .inl (5, 40, .inr (.inr (.inr (.inr (fun i => bif Nat.ble 40 i then none else some (24 + 1 + i))))))
  have : (fun j : Nat => if j < 40 then some (25 + j) else none) = (fun i : Nat => bif Nat.ble 40 i then none else some (24 + 1 + i)) := by
    funext j
    by_cases h : j < 40
    · have e : Nat.ble 40 j = false := by cases hb : Nat.ble 40 j with
        | false => rfl
        | true => exact absurd (Nat.le_of_ble_eq_true hb) (by omega)
      rw [if_pos h, e]; rfl
    · have e : Nat.ble 40 j = true := Nat.ble_eq_true_of_le (by omega)
      rw [if_neg h, e]; rfl
  rw [this]
set_option maxRecDepth 100000 in
theorem z0_25 : zm_sh 25 (zm0 25) = zh40.2.2 25 := rfl
set_option maxRecDepth 100000 in
theorem z0_26 : zm_sh 26 (zm0 26) = zh40.2.2 26 := rfl
set_option maxRecDepth 100000 in
theorem z0_27 : zm_sh 27 (zm0 27) = zh40.2.2 27 := rfl
set_option maxRecDepth 100000 in
theorem z0_28 : zm_sh 28 (zm0 28) = zh40.2.2 28 := rfl
set_option maxRecDepth 100000 in
theorem z0_29 : zm_sh 29 (zm0 29) = zh40.2.2 29 := rfl
set_option maxRecDepth 100000 in
theorem z0_30 : zm_sh 30 (zm0 30) = zh40.2.2 30 := rfl
set_option maxRecDepth 100000 in
theorem z0_31 : zm_sh 31 (zm0 31) = zh40.2.2 31 := rfl
set_option maxRecDepth 100000 in
theorem z0_32 : zm_sh 32 (zm0 32) = zh40.2.2 32 := rfl
set_option maxRecDepth 100000 in
theorem z0_33 : zm_sh 33 (zm0 33) = zh40.2.2 33 := rfl
set_option maxRecDepth 100000 in
theorem z0_34 : zm_sh 34 (zm0 34) = zh40.2.2 34 := rfl
set_option maxRecDepth 100000 in
theorem z0_35 : zm_sh 35 (zm0 35) = zh40.2.2 35 := rfl
set_option maxRecDepth 100000 in
theorem z0_36 : zm_sh 36 (zm0 36) = zh40.2.2 36 := rfl
set_option maxRecDepth 100000 in
theorem z0_37 : zm_sh 37 (zm0 37) = zh40.2.2 37 := rfl
set_option maxRecDepth 100000 in
theorem z0_38 : zm_sh 38 (zm0 38) = zh40.2.2 38 := rfl
set_option maxRecDepth 100000 in
theorem z0_39 : zm_sh 39 (zm0 39) = zh40.2.2 39 := rfl
set_option maxRecDepth 100000 in
theorem z0_40 : zm_sh 40 (zm0 40) = zh40.2.2 40 := rfl
set_option maxRecDepth 100000 in
theorem z0_41 : zm_sh 41 (zm0 41) = zh40.2.2 41 := rfl
set_option maxRecDepth 100000 in
theorem z0_42 : zm_sh 42 (zm0 42) = zh40.2.2 42 := rfl
set_option maxRecDepth 100000 in
theorem z0_43 : zm_sh 43 (zm0 43) = zh40.2.2 43 := rfl
set_option maxRecDepth 100000 in
theorem z0_44 : zm_sh 44 (zm0 44) = zh40.2.2 44 := rfl
set_option maxRecDepth 100000 in
theorem z0_45 : zm_sh 45 (zm0 45) = zh40.2.2 45 := rfl
set_option maxRecDepth 100000 in
theorem z0_46 : zm_sh 46 (zm0 46) = zh40.2.2 46 := rfl
set_option maxRecDepth 100000 in
theorem z0_47 : zm_sh 47 (zm0 47) = zh40.2.2 47 := rfl
set_option maxRecDepth 100000 in
theorem z0_48 : zm_sh 48 (zm0 48) = zh40.2.2 48 := rfl
set_option maxRecDepth 100000 in
theorem z0_49 : zm_sh 49 (zm0 49) = zh40.2.2 49 := rfl
set_option maxRecDepth 100000 in
theorem z0_50 : zm_sh 50 (zm0 50) = zh40.2.2 50 := rfl
set_option maxRecDepth 100000 in
theorem z0_51 : zm_sh 51 (zm0 51) = zh40.2.2 51 := rfl
set_option maxRecDepth 100000 in
theorem z0_52 : zm_sh 52 (zm0 52) = zh40.2.2 52 := rfl
set_option maxRecDepth 100000 in
theorem z0_53 : zm_sh 53 (zm0 53) = zh40.2.2 53 := rfl
set_option maxRecDepth 100000 in
theorem z0_54 : zm_sh 54 (zm0 54) = zh40.2.2 54 := rfl
set_option maxRecDepth 100000 in
theorem z0_55 : zm_sh 55 (zm0 55) = zh40.2.2 55 := rfl
set_option maxRecDepth 100000 in
theorem z0_56 : zm_sh 56 (zm0 56) = zh40.2.2 56 := rfl
set_option maxRecDepth 100000 in
theorem z0_57 : zm_sh 57 (zm0 57) = zh40.2.2 57 := rfl
set_option maxRecDepth 100000 in
theorem z0_58 : zm_sh 58 (zm0 58) = zh40.2.2 58 := rfl
set_option maxRecDepth 100000 in
theorem z0_59 : zm_sh 59 (zm0 59) = zh40.2.2 59 := rfl
set_option maxRecDepth 100000 in
theorem z0_60 : zm_sh 60 (zm0 60) = zh40.2.2 60 := rfl
set_option maxRecDepth 100000 in
theorem z0_61 : zm_sh 61 (zm0 61) = zh40.2.2 61 := rfl
set_option maxRecDepth 100000 in
theorem z0_62 : zm_sh 62 (zm0 62) = zh40.2.2 62 := rfl
set_option maxRecDepth 100000 in
theorem z0_63 : zm_sh 63 (zm0 63) = zh40.2.2 63 := rfl
set_option maxRecDepth 100000 in
theorem z0_64 : zm_sh 64 (zm0 64) = zh40.2.2 64 := rfl
set_option maxRecDepth 100000 in
theorem z0_65 : zm_sh 65 (zm0 65) = zh40.2.2 65 := rfl
set_option maxRecDepth 100000 in
theorem z0_66 : zm_sh 66 (zm0 66) = zh40.2.2 66 := rfl
set_option maxRecDepth 100000 in
theorem z0_67 : zm_sh 67 (zm0 67) = zh40.2.2 67 := rfl
set_option maxRecDepth 100000 in
theorem z0_68 : zm_sh 68 (zm0 68) = zh40.2.2 68 := rfl
set_option maxRecDepth 100000 in
theorem z0_69 : zm_sh 69 (zm0 69) = zh40.2.2 69 := rfl
set_option maxRecDepth 100000 in
theorem z0_70 : zm_sh 70 (zm0 70) = zh40.2.2 70 := rfl
set_option maxRecDepth 100000 in
theorem z0_71 : zm_sh 71 (zm0 71) = zh40.2.2 71 := rfl
set_option maxRecDepth 100000 in
theorem z0_72 : zm_sh 72 (zm0 72) = zh40.2.2 72 := rfl
set_option maxRecDepth 100000 in
theorem z0_73 : zm_sh 73 (zm0 73) = zh40.2.2 73 := rfl
set_option maxRecDepth 100000 in
theorem z0_74 : zm_sh 74 (zm0 74) = zh40.2.2 74 := rfl
set_option maxRecDepth 100000 in
theorem z0_75 : zm_sh 75 (zm0 75) = zh40.2.2 75 := rfl
set_option maxRecDepth 100000 in
theorem z0_76 : zm_sh 76 (zm0 76) = zh40.2.2 76 := rfl
set_option maxRecDepth 100000 in
theorem z0_77 : zm_sh 77 (zm0 77) = zh40.2.2 77 := rfl
set_option maxRecDepth 100000 in
theorem z0_78 : zm_sh 78 (zm0 78) = zh40.2.2 78 := rfl
set_option maxRecDepth 100000 in
theorem z0_79 : zm_sh 79 (zm0 79) = zh40.2.2 79 := rfl
set_option maxRecDepth 100000 in
theorem z0_80 : zm_sh 80 (zm0 80) = zh40.2.2 80 := rfl
set_option maxRecDepth 100000 in
theorem z0_81 : zm_sh 81 (zm0 81) = zh40.2.2 81 := rfl
set_option maxRecDepth 100000 in
theorem z0_82 : zm_sh 82 (zm0 82) = zh40.2.2 82 := rfl
set_option maxRecDepth 100000 in
theorem z0_83 : zm_sh 83 (zm0 83) = zh40.2.2 83 := rfl
set_option maxRecDepth 100000 in
theorem z0_84 : zm_sh 84 (zm0 84) = zh40.2.2 84 := rfl
set_option maxRecDepth 100000 in
theorem z0_85 : zm_sh 85 (zm0 85) = zh40.2.2 85 := rfl
set_option maxRecDepth 100000 in
theorem z0_86 : zm_sh 86 (zm0 86) = zh40.2.2 86 := rfl
set_option maxRecDepth 100000 in
theorem z0_87 : zm_sh 87 (zm0 87) = zh40.2.2 87 := rfl
set_option maxRecDepth 100000 in
theorem z0_88 : zm_sh 88 (zm0 88) = zh40.2.2 88 := rfl
set_option maxRecDepth 100000 in
theorem z0_89 : zm_sh 89 (zm0 89) = zh40.2.2 89 := rfl
set_option maxRecDepth 100000 in
theorem z0_90 : zm_sh 90 (zm0 90) = zh40.2.2 90 := rfl
set_option maxRecDepth 100000 in
theorem z0_91 : zm_sh 91 (zm0 91) = zh40.2.2 91 := rfl
set_option maxRecDepth 100000 in
theorem z0_92 : zm_sh 92 (zm0 92) = zh40.2.2 92 := rfl
set_option maxRecDepth 100000 in
theorem z0_93 : zm_sh 93 (zm0 93) = zh40.2.2 93 := rfl
set_option maxRecDepth 100000 in
theorem z0_94 : zm_sh 94 (zm0 94) = zh40.2.2 94 := rfl
set_option maxRecDepth 100000 in
theorem z0_95 : zm_sh 95 (zm0 95) = zh40.2.2 95 := rfl
set_option maxRecDepth 100000 in
theorem z0_96 : zm_sh 96 (zm0 96) = zh40.2.2 96 := rfl
set_option maxRecDepth 100000 in
theorem z0_97 : zm_sh 97 (zm0 97) = zh40.2.2 97 := rfl
set_option maxRecDepth 100000 in
theorem z0_98 : zm_sh 98 (zm0 98) = zh40.2.2 98 := rfl
set_option maxRecDepth 100000 in
theorem z0_99 : zm_sh 99 (zm0 99) = zh40.2.2 99 := rfl
set_option maxRecDepth 100000 in
theorem z0_100 : zm_sh 100 (zm0 100) = zh40.2.2 100 := rfl
set_option maxRecDepth 100000 in
theorem z0_101 : zm_sh 101 (zm0 101) = zh40.2.2 101 := rfl
set_option maxRecDepth 100000 in
theorem z0_102 : zm_sh 102 (zm0 102) = zh40.2.2 102 := rfl
set_option maxRecDepth 100000 in
theorem z0_103 : zm_sh 103 (zm0 103) = zh40.2.2 103 := rfl
set_option maxRecDepth 100000 in
theorem z0_104 : zm_sh 104 (zm0 104) = zh40.2.2 104 := rfl
set_option maxRecDepth 100000 in
theorem z0_105 : zm_sh 105 (zm0 105) = zh40.2.2 105 := rfl
set_option maxRecDepth 100000 in
theorem z0_106 : zm_sh 106 (zm0 106) = zh40.2.2 106 := rfl
theorem va_g {α : Type} {g : Nat → α} {n : Nat} {a : α} {q : Nat} {b : α} (h : q ≠ n) (k : g q = b) : va_up g n a q = b := (va_upN g n a h).trans k
theorem z_rowsN {f : Nat → z_E} {n N K q : Nat} {b : z_E} (h : n + N < q) (k : f q = b) : z_rows f n N K q = b := by
  have e1 : Nat.ble n q = true := Nat.ble_eq_true_of_le (by omega)
  have e2 : Nat.beq q n = false := by cases hb : Nat.beq q n with
    | false => rfl
    | true => exact absurd (Nat.eq_of_beq_eq_true hb) (by omega)
  have e3 : Nat.ble q (n + N) = false := by cases hb : Nat.ble q (n + N) with
    | false => rfl
    | true => exact absurd (Nat.le_of_ble_eq_true hb) (by omega)
  unfold z_rows
  rw [e1, e2, e3]
  exact k
theorem y_zh1 {k : Nat} (h : 107 ≤ k) : zh1.2.2 k = zm_sh k (fun _ => 0) := (va_g (by omega) rfl)
theorem y_zh2 {k : Nat} (h : 107 ≤ k) : zh2.2.2 k = zm_sh k (fun _ => 0) := (va_g (by omega) (y_zh1 h))
theorem y_zh3 {k : Nat} (h : 107 ≤ k) : zh3.2.2 k = zm_sh k (fun _ => 0) := (va_g (by omega) (va_g (by omega) (va_g (by omega) (va_g (by omega) (va_g (by omega) (y_zh2 h))))))
theorem y_zh5 {k : Nat} (h : 107 ≤ k) : zh5.2.2 k = zm_sh k (fun _ => 0) := (va_g (by omega) (va_g (by omega) (y_zh3 h)))
theorem y_zh6 {k : Nat} (h : 107 ≤ k) : zh6.2.2 k = zm_sh k (fun _ => 0) := (va_g (by omega) (y_zh5 h))
theorem y_zh7 {k : Nat} (h : 107 ≤ k) : zh7.2.2 k = zm_sh k (fun _ => 0) := (va_g (by omega) (va_g (by omega) (va_g (by omega) (va_g (by omega) (va_g (by omega) (va_g (by omega) (va_g (by omega) (va_g (by omega) (y_zh6 h)))))))))
theorem y_zh9 {k : Nat} (h : 107 ≤ k) : zh9.2.2 k = zm_sh k (fun _ => 0) := (va_g (by omega) (va_g (by omega) (va_g (by omega) (va_g (by omega) (va_g (by omega) (va_g (by omega) (y_zh7 h)))))))
theorem y_zh11 {k : Nat} (h : 107 ≤ k) : zh11.2.2 k = zm_sh k (fun _ => 0) := (va_g (by omega) (va_g (by omega) (y_zh9 h)))
theorem y_zh12 {k : Nat} (h : 107 ≤ k) : zh12.2.2 k = zm_sh k (fun _ => 0) := (va_g (by omega) (va_g (by omega) (va_g (by omega) (va_g (by omega) (va_g (by omega) (y_zh11 h))))))
theorem y_zh14 {k : Nat} (h : 107 ≤ k) : zh14.2.2 k = zm_sh k (fun _ => 0) := (va_g (by omega) (va_g (by omega) (va_g (by omega) (va_g (by omega) (y_zh12 h)))))
theorem y_zh15 {k : Nat} (h : 107 ≤ k) : zh15.2.2 k = zm_sh k (fun _ => 0) := (va_g (by omega) (va_g (by omega) (va_g (by omega) (va_g (by omega) (va_g (by omega) (va_g (by omega) (va_g (by omega) (va_g (by omega) (y_zh14 h)))))))))
theorem y_zh17 {k : Nat} (h : 107 ≤ k) : zh17.2.2 k = zm_sh k (fun _ => 0) := (va_g (by omega) (va_g (by omega) (va_g (by omega) (va_g (by omega) (y_zh15 h)))))
theorem y_zh18 {k : Nat} (h : 107 ≤ k) : zh18.2.2 k = zm_sh k (fun _ => 0) := (va_g (by omega) (va_g (by omega) (va_g (by omega) (va_g (by omega) (va_g (by omega) (va_g (by omega) (va_g (by omega) (va_g (by omega) (va_g (by omega) (va_g (by omega) (va_g (by omega) (va_g (by omega) (va_g (by omega) (va_g (by omega) (va_g (by omega) (va_g (by omega) (y_zh17 h)))))))))))))))))
theorem y_zh20 {k : Nat} (h : 107 ≤ k) : zh20.2.2 k = zm_sh k (fun _ => 0) := (va_g (by omega) (va_g (by omega) (y_zh18 h)))
theorem y_zh21 {k : Nat} (h : 107 ≤ k) : zh21.2.2 k = zm_sh k (fun _ => 0) := (va_g (by omega) (va_g (by omega) (va_g (by omega) (va_g (by omega) (va_g (by omega) (va_g (by omega) (va_g (by omega) (va_g (by omega) (va_g (by omega) (va_g (by omega) (va_g (by omega) (va_g (by omega) (z_rowsN (by omega) (y_zh20 h))))))))))))))
theorem y_zh23 {k : Nat} (h : 107 ≤ k) : zh23.2.2 k = zm_sh k (fun _ => 0) := (va_g (by omega) (va_g (by omega) (y_zh21 h)))
theorem y_zh24 {k : Nat} (h : 107 ≤ k) : zh24.2.2 k = zm_sh k (fun _ => 0) := (va_g (by omega) (va_g (by omega) (y_zh23 h)))
theorem y_zh26 {k : Nat} (h : 107 ≤ k) : zh26.2.2 k = zm_sh k (fun _ => 0) := (va_g (by omega) (va_g (by omega) (y_zh24 h)))
theorem y_zh27 {k : Nat} (h : 107 ≤ k) : zh27.2.2 k = zm_sh k (fun _ => 0) := (va_g (by omega) (va_g (by omega) (va_g (by omega) (va_g (by omega) (va_g (by omega) (va_g (by omega) (va_g (by omega) (va_g (by omega) (va_g (by omega) (va_g (by omega) (y_zh26 h)))))))))))
theorem y_zh29 {k : Nat} (h : 107 ≤ k) : zh29.2.2 k = zm_sh k (fun _ => 0) := (va_g (by omega) (va_g (by omega) (y_zh27 h)))
theorem y_zh30 {k : Nat} (h : 107 ≤ k) : zh30.2.2 k = zm_sh k (fun _ => 0) := (va_g (by omega) (va_g (by omega) (va_g (by omega) (va_g (by omega) (va_g (by omega) (va_g (by omega) (y_zh29 h)))))))
theorem y_zh32 {k : Nat} (h : 107 ≤ k) : zh32.2.2 k = zm_sh k (fun _ => 0) := (va_g (by omega) (va_g (by omega) (y_zh30 h)))
theorem y_zh33 {k : Nat} (h : 107 ≤ k) : zh33.2.2 k = zm_sh k (fun _ => 0) := (va_g (by omega) (va_g (by omega) (va_g (by omega) (va_g (by omega) (va_g (by omega) (va_g (by omega) (va_g (by omega) (va_g (by omega) (va_g (by omega) (y_zh32 h))))))))))
theorem y_zh35 {k : Nat} (h : 107 ≤ k) : zh35.2.2 k = zm_sh k (fun _ => 0) := (va_g (by omega) (va_g (by omega) (va_g (by omega) (va_g (by omega) (y_zh33 h)))))
theorem y_zh37 {k : Nat} (h : 107 ≤ k) : zh37.2.2 k = zm_sh k (fun _ => 0) := (va_g (by omega) (y_zh35 h))
theorem y_zh38 {k : Nat} (h : 107 ≤ k) : zh38.2.2 k = zm_sh k (fun _ => 0) := (va_g (by omega) (va_g (by omega) (va_g (by omega) (va_g (by omega) (va_g (by omega) (va_g (by omega) (va_g (by omega) (va_g (by omega) (va_g (by omega) (va_g (by omega) (va_g (by omega) (va_g (by omega) (va_g (by omega) (va_g (by omega) (va_g (by omega) (va_g (by omega) (va_g (by omega) (va_g (by omega) (va_g (by omega) (va_g (by omega) (va_g (by omega) (va_g (by omega) (va_g (by omega) (va_g (by omega) (va_g (by omega) (va_g (by omega) (va_g (by omega) (va_g (by omega) (va_g (by omega) (va_g (by omega) (va_g (by omega) (va_g (by omega) (va_g (by omega) (va_g (by omega) (va_g (by omega) (va_g (by omega) (va_g (by omega) (va_g (by omega) (va_g (by omega) (va_g (by omega) (va_g (by omega) (va_g (by omega) (va_g (by omega) (va_g (by omega) (va_g (by omega) (va_g (by omega) (va_g (by omega) (va_g (by omega) (va_g (by omega) (va_g (by omega) (va_g (by omega) (va_g (by omega) (va_g (by omega) (va_g (by omega) (va_g (by omega) (va_g (by omega) (y_zh37 h)))))))))))))))))))))))))))))))))))))))))))))))))))))))))
theorem y_zh40 {k : Nat} (h : 107 ≤ k) : zh40.2.2 k = zm_sh k (fun _ => 0) := (va_g (by omega) (y_zh38 h))
theorem z0_lt : ∀ k, k < 107 → zm_sh k (zm0 k) = zh40.2.2 k
  | 0, _ => z0_0
  | 1, _ => z0_1
  | 2, _ => z0_2
  | 3, _ => z0_3
  | 4, _ => z0_4
  | 5, _ => z0_5
  | 6, _ => z0_6
  | 7, _ => z0_7
  | 8, _ => z0_8
  | 9, _ => z0_9
  | 10, _ => z0_10
  | 11, _ => z0_11
  | 12, _ => z0_12
  | 13, _ => z0_13
  | 14, _ => z0_14
  | 15, _ => z0_15
  | 16, _ => z0_16
  | 17, _ => z0_17
  | 18, _ => z0_18
  | 19, _ => z0_19
  | 20, _ => z0_20
  | 21, _ => z0_21
  | 22, _ => z0_22
  | 23, _ => z0_23
  | 24, _ => z0_24
  | 25, _ => z0_25
  | 26, _ => z0_26
  | 27, _ => z0_27
  | 28, _ => z0_28
  | 29, _ => z0_29
  | 30, _ => z0_30
  | 31, _ => z0_31
  | 32, _ => z0_32
  | 33, _ => z0_33
  | 34, _ => z0_34
  | 35, _ => z0_35
  | 36, _ => z0_36
  | 37, _ => z0_37
  | 38, _ => z0_38
  | 39, _ => z0_39
  | 40, _ => z0_40
  | 41, _ => z0_41
  | 42, _ => z0_42
  | 43, _ => z0_43
  | 44, _ => z0_44
  | 45, _ => z0_45
  | 46, _ => z0_46
  | 47, _ => z0_47
  | 48, _ => z0_48
  | 49, _ => z0_49
  | 50, _ => z0_50
  | 51, _ => z0_51
  | 52, _ => z0_52
  | 53, _ => z0_53
  | 54, _ => z0_54
  | 55, _ => z0_55
  | 56, _ => z0_56
  | 57, _ => z0_57
  | 58, _ => z0_58
  | 59, _ => z0_59
  | 60, _ => z0_60
  | 61, _ => z0_61
  | 62, _ => z0_62
  | 63, _ => z0_63
  | 64, _ => z0_64
  | 65, _ => z0_65
  | 66, _ => z0_66
  | 67, _ => z0_67
  | 68, _ => z0_68
  | 69, _ => z0_69
  | 70, _ => z0_70
  | 71, _ => z0_71
  | 72, _ => z0_72
  | 73, _ => z0_73
  | 74, _ => z0_74
  | 75, _ => z0_75
  | 76, _ => z0_76
  | 77, _ => z0_77
  | 78, _ => z0_78
  | 79, _ => z0_79
  | 80, _ => z0_80
  | 81, _ => z0_81
  | 82, _ => z0_82
  | 83, _ => z0_83
  | 84, _ => z0_84
  | 85, _ => z0_85
  | 86, _ => z0_86
  | 87, _ => z0_87
  | 88, _ => z0_88
  | 89, _ => z0_89
  | 90, _ => z0_90
  | 91, _ => z0_91
  | 92, _ => z0_92
  | 93, _ => z0_93
  | 94, _ => z0_94
  | 95, _ => z0_95
  | 96, _ => z0_96
  | 97, _ => z0_97
  | 98, _ => z0_98
  | 99, _ => z0_99
  | 100, _ => z0_100
  | 101, _ => z0_101
  | 102, _ => z0_102
  | 103, _ => z0_103
  | 104, _ => z0_104
  | 105, _ => z0_105
  | 106, _ => z0_106
  | n + 107, h => absurd h (by omega)
/-- the law's start, behind its constructors -/
theorem zh40_zk : zh40 = zk (107, 35862) zm0 := by
  show ((107, 35862, zh40.2.2) : z_H) = (107, 35862, fun k => zm_sh k (zm0 k))
  congr 2
  funext k
  by_cases h : k < 107
  · exact (z0_lt k h).symm
  · have e : zm0 k = fun _ => 0 := by
      funext j
      unfold zm0
      rw [Nat.ble_eq_true_of_le (show 107 ≤ k by omega)]; rfl
    rw [e]
    exact y_zh40 (by omega)
