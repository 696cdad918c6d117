/-! THE LAW'S SWITCH, head and end (wip/tools/gw/end10.py) -/
theorem zsw_0 (zn : Bool) (D L : Nat) (xs : Nat → Int32) (B : Nat × Nat) (i : Int) (o5 o6 : Option Value) (h : z_H) {x : Int32} (hx : x.toInt = 0) : z_reach (z_sem zn D) (some (L, xs), zn) B 1 (40, zfr i o5 o6, [.int x], h) (232, zfr i o5 o6, [], h) :=
  ⟨[(true, 0, none, zh0, none)], _, rfl, ⟨by (try dsimp only); omega, by omega⟩, trivial⟩
theorem zsw_1 (zn : Bool) (D L : Nat) (xs : Nat → Int32) (B : Nat × Nat) (i : Int) (o5 o6 : Option Value) (h : z_H) {x : Int32} (hx : x.toInt = 1) : z_reach (z_sem zn D) (some (L, xs), zn) B 1 (40, zfr i o5 o6, [.int x], h) (305, zfr i o5 o6, [], h) :=
  ⟨[(true, 1, none, zh0, none)], _, rfl, ⟨by (try dsimp only); omega, by omega⟩, trivial⟩
theorem zsw_2 (zn : Bool) (D L : Nat) (xs : Nat → Int32) (B : Nat × Nat) (i : Int) (o5 o6 : Option Value) (h : z_H) {x : Int32} (hx : x.toInt = 2) : z_reach (z_sem zn D) (some (L, xs), zn) B 1 (40, zfr i o5 o6, [.int x], h) (330, zfr i o5 o6, [], h) :=
  ⟨[(true, 2, none, zh0, none)], _, rfl, ⟨by (try dsimp only); omega, by omega⟩, trivial⟩
theorem zsw_3 (zn : Bool) (D L : Nat) (xs : Nat → Int32) (B : Nat × Nat) (i : Int) (o5 o6 : Option Value) (h : z_H) {x : Int32} (hx : x.toInt = 3) : z_reach (z_sem zn D) (some (L, xs), zn) B 1 (40, zfr i o5 o6, [.int x], h) (355, zfr i o5 o6, [], h) :=
  ⟨[(true, 3, none, zh0, none)], _, rfl, ⟨by (try dsimp only); omega, by omega⟩, trivial⟩
theorem zsw_4 (zn : Bool) (D L : Nat) (xs : Nat → Int32) (B : Nat × Nat) (i : Int) (o5 o6 : Option Value) (h : z_H) {x : Int32} (hx : x.toInt = 4) : z_reach (z_sem zn D) (some (L, xs), zn) B 1 (40, zfr i o5 o6, [.int x], h) (380, zfr i o5 o6, [], h) :=
  ⟨[(true, 4, none, zh0, none)], _, rfl, ⟨by (try dsimp only); omega, by omega⟩, trivial⟩
theorem zsw_5 (zn : Bool) (D L : Nat) (xs : Nat → Int32) (B : Nat × Nat) (i : Int) (o5 o6 : Option Value) (h : z_H) {x : Int32} (hx : x.toInt = 5) : z_reach (z_sem zn D) (some (L, xs), zn) B 1 (40, zfr i o5 o6, [.int x], h) (420, zfr i o5 o6, [], h) :=
  ⟨[(true, 5, none, zh0, none)], _, rfl, ⟨by (try dsimp only); omega, by omega⟩, trivial⟩
theorem zsw_6 (zn : Bool) (D L : Nat) (xs : Nat → Int32) (B : Nat × Nat) (i : Int) (o5 o6 : Option Value) (h : z_H) {x : Int32} (hx : x.toInt = 6) : z_reach (z_sem zn D) (some (L, xs), zn) B 1 (40, zfr i o5 o6, [.int x], h) (457, zfr i o5 o6, [], h) :=
  ⟨[(true, 6, none, zh0, none)], _, rfl, ⟨by (try dsimp only); omega, by omega⟩, trivial⟩
theorem zsw_7 (zn : Bool) (D L : Nat) (xs : Nat → Int32) (B : Nat × Nat) (i : Int) (o5 o6 : Option Value) (h : z_H) {x : Int32} (hx : x.toInt = 7) : z_reach (z_sem zn D) (some (L, xs), zn) B 1 (40, zfr i o5 o6, [.int x], h) (482, zfr i o5 o6, [], h) :=
  ⟨[(true, 7, none, zh0, none)], _, rfl, ⟨by (try dsimp only); omega, by omega⟩, trivial⟩
theorem zsw_8 (zn : Bool) (D L : Nat) (xs : Nat → Int32) (B : Nat × Nat) (i : Int) (o5 o6 : Option Value) (h : z_H) {x : Int32} (hx : x.toInt = 8) : z_reach (z_sem zn D) (some (L, xs), zn) B 1 (40, zfr i o5 o6, [.int x], h) (507, zfr i o5 o6, [], h) :=
  ⟨[(true, 8, none, zh0, none)], _, rfl, ⟨by (try dsimp only); omega, by omega⟩, trivial⟩
theorem zsw_9 (zn : Bool) (D L : Nat) (xs : Nat → Int32) (B : Nat × Nat) (i : Int) (o5 o6 : Option Value) (h : z_H) {x : Int32} (hx : x.toInt = 9) : z_reach (z_sem zn D) (some (L, xs), zn) B 1 (40, zfr i o5 o6, [.int x], h) (532, zfr i o5 o6, [], h) :=
  ⟨[(true, 9, none, zh0, none)], _, rfl, ⟨by (try dsimp only); omega, by omega⟩, trivial⟩
theorem zsw_10 (zn : Bool) (D L : Nat) (xs : Nat → Int32) (B : Nat × Nat) (i : Int) (o5 o6 : Option Value) (h : z_H) {x : Int32} (hx : x.toInt = 10) : z_reach (z_sem zn D) (some (L, xs), zn) B 1 (40, zfr i o5 o6, [.int x], h) (557, zfr i o5 o6, [], h) :=
  ⟨[(true, 10, none, zh0, none)], _, rfl, ⟨by (try dsimp only); omega, by omega⟩, trivial⟩
theorem zsw_11 (zn : Bool) (D L : Nat) (xs : Nat → Int32) (B : Nat × Nat) (i : Int) (o5 o6 : Option Value) (h : z_H) {x : Int32} (hx : x.toInt = 11) : z_reach (z_sem zn D) (some (L, xs), zn) B 1 (40, zfr i o5 o6, [.int x], h) (626, zfr i o5 o6, [], h) :=
  ⟨[(true, 11, none, zh0, none)], _, rfl, ⟨by (try dsimp only); omega, by omega⟩, trivial⟩
theorem zsw_12 (zn : Bool) (D L : Nat) (xs : Nat → Int32) (B : Nat × Nat) (i : Int) (o5 o6 : Option Value) (h : z_H) {x : Int32} (hx : x.toInt = 12) : z_reach (z_sem zn D) (some (L, xs), zn) B 1 (40, zfr i o5 o6, [.int x], h) (663, zfr i o5 o6, [], h) :=
  ⟨[(true, 12, none, zh0, none)], _, rfl, ⟨by (try dsimp only); omega, by omega⟩, trivial⟩
theorem zsw_13 (zn : Bool) (D L : Nat) (xs : Nat → Int32) (B : Nat × Nat) (i : Int) (o5 o6 : Option Value) (h : z_H) {x : Int32} (hx : x.toInt = 13) : z_reach (z_sem zn D) (some (L, xs), zn) B 1 (40, zfr i o5 o6, [.int x], h) (716, zfr i o5 o6, [], h) :=
  ⟨[(true, 13, none, zh0, none)], _, rfl, ⟨by (try dsimp only); omega, by omega⟩, trivial⟩
theorem zsw_14 (zn : Bool) (D L : Nat) (xs : Nat → Int32) (B : Nat × Nat) (i : Int) (o5 o6 : Option Value) (h : z_H) {x : Int32} (hx : x.toInt = 14) : z_reach (z_sem zn D) (some (L, xs), zn) B 1 (40, zfr i o5 o6, [.int x], h) (753, zfr i o5 o6, [], h) :=
  ⟨[(true, 14, none, zh0, none)], _, rfl, ⟨by (try dsimp only); omega, by omega⟩, trivial⟩
theorem zsw_15 (zn : Bool) (D L : Nat) (xs : Nat → Int32) (B : Nat × Nat) (i : Int) (o5 o6 : Option Value) (h : z_H) {x : Int32} (hx : x.toInt = 15) : z_reach (z_sem zn D) (some (L, xs), zn) B 1 (40, zfr i o5 o6, [.int x], h) (790, zfr i o5 o6, [], h) :=
  ⟨[(true, 15, none, zh0, none)], _, rfl, ⟨by (try dsimp only); omega, by omega⟩, trivial⟩
theorem zsw_16 (zn : Bool) (D L : Nat) (xs : Nat → Int32) (B : Nat × Nat) (i : Int) (o5 o6 : Option Value) (h : z_H) {x : Int32} (hx : x.toInt = 16) : z_reach (z_sem zn D) (some (L, xs), zn) B 1 (40, zfr i o5 o6, [.int x], h) (827, zfr i o5 o6, [], h) :=
  ⟨[(true, 16, none, zh0, none)], _, rfl, ⟨by (try dsimp only); omega, by omega⟩, trivial⟩
theorem zsw_17 (zn : Bool) (D L : Nat) (xs : Nat → Int32) (B : Nat × Nat) (i : Int) (o5 o6 : Option Value) (h : z_H) {x : Int32} (hx : x.toInt = 17) : z_reach (z_sem zn D) (some (L, xs), zn) B 1 (40, zfr i o5 o6, [.int x], h) (880, zfr i o5 o6, [], h) :=
  ⟨[(true, 17, none, zh0, none)], _, rfl, ⟨by (try dsimp only); omega, by omega⟩, trivial⟩
theorem zsw_18 (zn : Bool) (D L : Nat) (xs : Nat → Int32) (B : Nat × Nat) (i : Int) (o5 o6 : Option Value) (h : z_H) {x : Int32} (hx : x.toInt = 18) : z_reach (z_sem zn D) (some (L, xs), zn) B 1 (40, zfr i o5 o6, [.int x], h) (893, zfr i o5 o6, [], h) :=
  ⟨[(true, 18, none, zh0, none)], _, rfl, ⟨by (try dsimp only); omega, by omega⟩, trivial⟩
theorem zsw_19 (zn : Bool) (D L : Nat) (xs : Nat → Int32) (B : Nat × Nat) (i : Int) (o5 o6 : Option Value) (h : z_H) {x : Int32} (hx : x.toInt = 19) : z_reach (z_sem zn D) (some (L, xs), zn) B 1 (40, zfr i o5 o6, [.int x], h) (930, zfr i o5 o6, [], h) :=
  ⟨[(true, 19, none, zh0, none)], _, rfl, ⟨by (try dsimp only); omega, by omega⟩, trivial⟩
theorem zsw_20 (zn : Bool) (D L : Nat) (xs : Nat → Int32) (B : Nat × Nat) (i : Int) (o5 o6 : Option Value) (h : z_H) {x : Int32} (hx : x.toInt = 20) : z_reach (z_sem zn D) (some (L, xs), zn) B 1 (40, zfr i o5 o6, [.int x], h) (967, zfr i o5 o6, [], h) :=
  ⟨[(true, 20, none, zh0, none)], _, rfl, ⟨by (try dsimp only); omega, by omega⟩, trivial⟩
theorem zsw_21 (zn : Bool) (D L : Nat) (xs : Nat → Int32) (B : Nat × Nat) (i : Int) (o5 o6 : Option Value) (h : z_H) {x : Int32} (hx : x.toInt = 21) : z_reach (z_sem zn D) (some (L, xs), zn) B 1 (40, zfr i o5 o6, [.int x], h) (1004, zfr i o5 o6, [], h) :=
  ⟨[(true, 21, none, zh0, none)], _, rfl, ⟨by (try dsimp only); omega, by omega⟩, trivial⟩
theorem zsw_22 (zn : Bool) (D L : Nat) (xs : Nat → Int32) (B : Nat × Nat) (i : Int) (o5 o6 : Option Value) (h : z_H) {x : Int32} (hx : x.toInt = 22) : z_reach (z_sem zn D) (some (L, xs), zn) B 1 (40, zfr i o5 o6, [.int x], h) (1041, zfr i o5 o6, [], h) :=
  ⟨[(true, 22, none, zh0, none)], _, rfl, ⟨by (try dsimp only); omega, by omega⟩, trivial⟩
theorem zsw_23 (zn : Bool) (D L : Nat) (xs : Nat → Int32) (B : Nat × Nat) (i : Int) (o5 o6 : Option Value) (h : z_H) {x : Int32} (hx : x.toInt = 23) : z_reach (z_sem zn D) (some (L, xs), zn) B 1 (40, zfr i o5 o6, [.int x], h) (1054, zfr i o5 o6, [], h) :=
  ⟨[(true, 23, none, zh0, none)], _, rfl, ⟨by (try dsimp only); omega, by omega⟩, trivial⟩
theorem zsw_24 (zn : Bool) (D L : Nat) (xs : Nat → Int32) (B : Nat × Nat) (i : Int) (o5 o6 : Option Value) (h : z_H) {x : Int32} (hx : x.toInt = 24) : z_reach (z_sem zn D) (some (L, xs), zn) B 1 (40, zfr i o5 o6, [.int x], h) (1091, zfr i o5 o6, [], h) :=
  ⟨[(true, 24, none, zh0, none)], _, rfl, ⟨by (try dsimp only); omega, by omega⟩, trivial⟩
theorem zsw_25 (zn : Bool) (D L : Nat) (xs : Nat → Int32) (B : Nat × Nat) (i : Int) (o5 o6 : Option Value) (h : z_H) {x : Int32} (hx : x.toInt = 25) : z_reach (z_sem zn D) (some (L, xs), zn) B 1 (40, zfr i o5 o6, [.int x], h) (1128, zfr i o5 o6, [], h) :=
  ⟨[(true, 25, none, zh0, none)], _, rfl, ⟨by (try dsimp only); omega, by omega⟩, trivial⟩
theorem zsw_26 (zn : Bool) (D L : Nat) (xs : Nat → Int32) (B : Nat × Nat) (i : Int) (o5 o6 : Option Value) (h : z_H) {x : Int32} (hx : x.toInt = 26) : z_reach (z_sem zn D) (some (L, xs), zn) B 1 (40, zfr i o5 o6, [.int x], h) (1153, zfr i o5 o6, [], h) :=
  ⟨[(true, 26, none, zh0, none)], _, rfl, ⟨by (try dsimp only); omega, by omega⟩, trivial⟩
theorem zsw_27 (zn : Bool) (D L : Nat) (xs : Nat → Int32) (B : Nat × Nat) (i : Int) (o5 o6 : Option Value) (h : z_H) {x : Int32} (hx : x.toInt = 27) : z_reach (z_sem zn D) (some (L, xs), zn) B 1 (40, zfr i o5 o6, [.int x], h) (1190, zfr i o5 o6, [], h) :=
  ⟨[(true, 27, none, zh0, none)], _, rfl, ⟨by (try dsimp only); omega, by omega⟩, trivial⟩
theorem zsw_28 (zn : Bool) (D L : Nat) (xs : Nat → Int32) (B : Nat × Nat) (i : Int) (o5 o6 : Option Value) (h : z_H) {x : Int32} (hx : x.toInt = 28) : z_reach (z_sem zn D) (some (L, xs), zn) B 1 (40, zfr i o5 o6, [.int x], h) (1215, zfr i o5 o6, [], h) :=
  ⟨[(true, 28, none, zh0, none)], _, rfl, ⟨by (try dsimp only); omega, by omega⟩, trivial⟩
theorem zsw_29 (zn : Bool) (D L : Nat) (xs : Nat → Int32) (B : Nat × Nat) (i : Int) (o5 o6 : Option Value) (h : z_H) {x : Int32} (hx : x.toInt = 29) : z_reach (z_sem zn D) (some (L, xs), zn) B 1 (40, zfr i o5 o6, [.int x], h) (1240, zfr i o5 o6, [], h) :=
  ⟨[(true, 29, none, zh0, none)], _, rfl, ⟨by (try dsimp only); omega, by omega⟩, trivial⟩
theorem zsw_30 (zn : Bool) (D L : Nat) (xs : Nat → Int32) (B : Nat × Nat) (i : Int) (o5 o6 : Option Value) (h : z_H) {x : Int32} (hx : x.toInt = 30) : z_reach (z_sem zn D) (some (L, xs), zn) B 1 (40, zfr i o5 o6, [.int x], h) (1253, zfr i o5 o6, [], h) :=
  ⟨[(true, 30, none, zh0, none)], _, rfl, ⟨by (try dsimp only); omega, by omega⟩, trivial⟩
theorem zsw_31 (zn : Bool) (D L : Nat) (xs : Nat → Int32) (B : Nat × Nat) (i : Int) (o5 o6 : Option Value) (h : z_H) {x : Int32} (hx : x.toInt = 31) : z_reach (z_sem zn D) (some (L, xs), zn) B 1 (40, zfr i o5 o6, [.int x], h) (1278, zfr i o5 o6, [], h) :=
  ⟨[(true, 31, none, zh0, none)], _, rfl, ⟨by (try dsimp only); omega, by omega⟩, trivial⟩
theorem zsw_32 (zn : Bool) (D L : Nat) (xs : Nat → Int32) (B : Nat × Nat) (i : Int) (o5 o6 : Option Value) (h : z_H) {x : Int32} (hx : x.toInt = 32) : z_reach (z_sem zn D) (some (L, xs), zn) B 1 (40, zfr i o5 o6, [.int x], h) (1291, zfr i o5 o6, [], h) :=
  ⟨[(true, 32, none, zh0, none)], _, rfl, ⟨by (try dsimp only); omega, by omega⟩, trivial⟩
theorem zsw_33 (zn : Bool) (D L : Nat) (xs : Nat → Int32) (B : Nat × Nat) (i : Int) (o5 o6 : Option Value) (h : z_H) {x : Int32} (hx : x.toInt = 33) : z_reach (z_sem zn D) (some (L, xs), zn) B 1 (40, zfr i o5 o6, [.int x], h) (1316, zfr i o5 o6, [], h) :=
  ⟨[(true, 33, none, zh0, none)], _, rfl, ⟨by (try dsimp only); omega, by omega⟩, trivial⟩
theorem zsw_34 (zn : Bool) (D L : Nat) (xs : Nat → Int32) (B : Nat × Nat) (i : Int) (o5 o6 : Option Value) (h : z_H) {x : Int32} (hx : x.toInt = 34) : z_reach (z_sem zn D) (some (L, xs), zn) B 1 (40, zfr i o5 o6, [.int x], h) (1353, zfr i o5 o6, [], h) :=
  ⟨[(true, 34, none, zh0, none)], _, rfl, ⟨by (try dsimp only); omega, by omega⟩, trivial⟩
theorem zsw_35 (zn : Bool) (D L : Nat) (xs : Nat → Int32) (B : Nat × Nat) (i : Int) (o5 o6 : Option Value) (h : z_H) {x : Int32} (hx : x.toInt = 35) : z_reach (z_sem zn D) (some (L, xs), zn) B 1 (40, zfr i o5 o6, [.int x], h) (1402, zfr i o5 o6, [], h) :=
  ⟨[(true, 35, none, zh0, none)], _, rfl, ⟨by (try dsimp only); omega, by omega⟩, trivial⟩
theorem zsw_36 (zn : Bool) (D L : Nat) (xs : Nat → Int32) (B : Nat × Nat) (i : Int) (o5 o6 : Option Value) (h : z_H) {x : Int32} (hx : x.toInt = 36) : z_reach (z_sem zn D) (some (L, xs), zn) B 1 (40, zfr i o5 o6, [.int x], h) (1475, zfr i o5 o6, [], h) :=
  ⟨[(true, 36, none, zh0, none)], _, rfl, ⟨by (try dsimp only); omega, by omega⟩, trivial⟩
theorem zsw_37 (zn : Bool) (D L : Nat) (xs : Nat → Int32) (B : Nat × Nat) (i : Int) (o5 o6 : Option Value) (h : z_H) {x : Int32} (hx : x.toInt = 37) : z_reach (z_sem zn D) (some (L, xs), zn) B 1 (40, zfr i o5 o6, [.int x], h) (1500, zfr i o5 o6, [], h) :=
  ⟨[(true, 37, none, zh0, none)], _, rfl, ⟨by (try dsimp only); omega, by omega⟩, trivial⟩
theorem zsw_38 (zn : Bool) (D L : Nat) (xs : Nat → Int32) (B : Nat × Nat) (i : Int) (o5 o6 : Option Value) (h : z_H) {x : Int32} (hx : x.toInt = 38) : z_reach (z_sem zn D) (some (L, xs), zn) B 1 (40, zfr i o5 o6, [.int x], h) (1537, zfr i o5 o6, [], h) :=
  ⟨[(true, 38, none, zh0, none)], _, rfl, ⟨by (try dsimp only); omega, by omega⟩, trivial⟩
theorem zsw_39 (zn : Bool) (D L : Nat) (xs : Nat → Int32) (B : Nat × Nat) (i : Int) (o5 o6 : Option Value) (h : z_H) {x : Int32} (hx : x.toInt = 39) : z_reach (z_sem zn D) (some (L, xs), zn) B 1 (40, zfr i o5 o6, [.int x], h) (1574, zfr i o5 o6, [], h) :=
  ⟨[(true, 39, none, zh0, none)], _, rfl, ⟨by (try dsimp only); omega, by omega⟩, trivial⟩
theorem zsw_40 (zn : Bool) (D L : Nat) (xs : Nat → Int32) (B : Nat × Nat) (i : Int) (o5 o6 : Option Value) (h : z_H) {x : Int32} (hx : x.toInt = 40) : z_reach (z_sem zn D) (some (L, xs), zn) B 1 (40, zfr i o5 o6, [.int x], h) (1599, zfr i o5 o6, [], h) :=
  ⟨[(true, 40, none, zh0, none)], _, rfl, ⟨by (try dsimp only); omega, by omega⟩, trivial⟩
theorem zsw_41 (zn : Bool) (D L : Nat) (xs : Nat → Int32) (B : Nat × Nat) (i : Int) (o5 o6 : Option Value) (h : z_H) {x : Int32} (hx : x.toInt = 41) : z_reach (z_sem zn D) (some (L, xs), zn) B 1 (40, zfr i o5 o6, [.int x], h) (1636, zfr i o5 o6, [], h) :=
  ⟨[(true, 41, none, zh0, none)], _, rfl, ⟨by (try dsimp only); omega, by omega⟩, trivial⟩
theorem zsw_42 (zn : Bool) (D L : Nat) (xs : Nat → Int32) (B : Nat × Nat) (i : Int) (o5 o6 : Option Value) (h : z_H) {x : Int32} (hx : x.toInt = 42) : z_reach (z_sem zn D) (some (L, xs), zn) B 1 (40, zfr i o5 o6, [.int x], h) (1649, zfr i o5 o6, [], h) :=
  ⟨[(true, 42, none, zh0, none)], _, rfl, ⟨by (try dsimp only); omega, by omega⟩, trivial⟩
theorem zsw_43 (zn : Bool) (D L : Nat) (xs : Nat → Int32) (B : Nat × Nat) (i : Int) (o5 o6 : Option Value) (h : z_H) {x : Int32} (hx : x.toInt = 43) : z_reach (z_sem zn D) (some (L, xs), zn) B 1 (40, zfr i o5 o6, [.int x], h) (1662, zfr i o5 o6, [], h) :=
  ⟨[(true, 43, none, zh0, none)], _, rfl, ⟨by (try dsimp only); omega, by omega⟩, trivial⟩
theorem zsw_no (zn : Bool) (D L : Nat) (xs : Nat → Int32) (B : Nat × Nat) (i : Int) (o5 o6 : Option Value) (h : z_H) {x : Int32} (hx : x.toInt < 0 ∨ 43 < x.toInt) : z_reach (z_sem zn D) (some (L, xs), zn) B 1 (40, zfr i o5 o6, [.int x], h) (1687, zfr i o5 o6, [], h) :=
  ⟨[zo], _, rfl, hx, trivial⟩
theorem zl_n6 : (Int8.ofInt 6).toInt32 = Int32.ofInt 6 := by decide
theorem zl_head (zn : Bool) (D L : Nat) (xs : Nat → Int32) (B : Nat × Nat) (i : Int) (o5 o6 : Option Value) (h : z_H) (h0 : 0 ≤ i) (hi : i + 6 ≤ L) (hL : L ≤ 3072) : z_reach (z_sem zn D) (some (L, xs), zn) B 1 (23, zfr i o5 o6, [], h) (40, zfr i o5 o6, [.int ((xs (Int32.ofInt i).toNatClampNeg) &&& ((Int8.ofInt 63).toInt32))], h) :=
  ⟨[zo, zo, zo, zo, zo, zo, zo, zo, zo, zo, zo], _, rfl, trivial, trivial, trivial, trivial, trivial, zbf (fun q => by
    have := (zi_lt (zi_sub (show Int32.ofNat L = Int32.ofInt (L : Int) from rfl) zl_n6) rfl (by unfold zR; omega) (by unfold zR; omega)).mp q
    omega), trivial, trivial, zi_in rfl h0 (by omega) (by omega), trivial, trivial, trivial⟩
theorem zl_out (zn : Bool) (D L : Nat) (xs : Nat → Int32) (B : Nat × Nat) (i : Int) (o5 o6 : Option Value) (h : z_H) (h0 : 0 ≤ i) (hi : ¬ i + 6 ≤ L) (h3 : i ≤ 4000) (hL : L ≤ 3072) : z_reach (z_sem zn D) (some (L, xs), zn) B 1 (23, zfr i o5 o6, [], h) (1694, zfr i o5 o6, [.int (Int32.ofInt 1)], h) :=
  ⟨[zo, zo, zo, zo, zo, zt, zo], _, rfl, trivial, trivial, trivial, trivial, trivial, zbt ((zi_lt (zi_sub (show Int32.ofNat L = Int32.ofInt (L : Int) from rfl) zl_n6) rfl (by unfold zR; omega) (by unfold zR; omega)).mpr (by omega)), trivial, trivial⟩
theorem zl_next (zn : Bool) (D L : Nat) (xs : Nat → Int32) (B : Nat × Nat) (i : Int) (o5 o6 : Option Value) (h : z_H) : z_reach (z_sem zn D) (some (L, xs), zn) B 1 (1687, zfr i o5 o6, [], h) (23, zfr (i + 6) o5 o6, [], h) := by
  have e : Int32.ofInt i + Int32.ofInt 6 = Int32.ofInt (i + 6) := zi_add rfl rfl
  unfold zfr
  rw [← e]
  exact ⟨[zo, zo], _, rfl, trivial, trivial, trivial⟩
/-- every case but clock's -/
theorem zl_any (zn : Bool) (d L : Nat) (xs : Nat → Int32) (B : Nat × Nat) (i t : Int) (h0 : 0 ≤ i) (hi : i + 6 ≤ L) (hL : L ≤ 3072) (ht : 0 ≤ t ∧ t ≤ 40000) (o5 o6 : Option Value) {c : Nat × Nat} {m : zM} (hN : 107 ≤ c.1) (hC : c.1 < z_RO) (hB : 200 ≤ B.1 ∧ c.2 + 282 ≤ B.2) (hV : zOP c m t) {x : Int32} (hx : ¬ x.toInt = 4) :
    ∃ (c1 : Nat × Nat) (m2 : zM) (o5' o6' : Option Value), (107 ≤ c1.1 ∧ c1.1 ≤ 123 ∧ c1.2 ≤ c.2 + 282) ∧ z_reach (z_sem zn (d + 60)) (some (L, xs), zn) B 1 (40, zfr i o5 o6, [.int x], zk c m) (1687, zfr i o5' o6', [], zk c1 m2) ∧ zOP c1 m2 (t + 60) := by
  have n5 : (0 : Int) ≤ m 0 13 ∧ m 0 13 ≤ 4 := hV.1.1 0 13
  have n6 : 107 + 4 * m 0 13 = (c.1 : Int) := hV.1.2.2.1
  have hB2 : c.1 ≤ B.1 ∧ c.2 ≤ B.2 := ⟨by omega, by omega⟩
  have hc : 107 ≤ c.1 ∧ c.1 ≤ 123 ∧ c.2 ≤ c.2 + 282 := ⟨hN, by omega, by omega⟩
  clear n5 n6
  by_cases q0 : x.toInt = 0
  · obtain ⟨m2, o5', o6', r, v⟩ := zk0 zn d L xs B i t h0 hi hL ht o5 o6 hN hC hB2 hV
    exact ⟨c, m2, o5', o6', hc, (zsw_0 zn (d + 60) L xs B i o5 o6 (zk c m) q0).trans r, v⟩
  by_cases q1 : x.toInt = 1
  · obtain ⟨m2, o5', o6', r, v⟩ := zk1 zn d L xs B i t h0 hi hL ht o5 o6 hN hC hB2 hV
    exact ⟨c, m2, o5', o6', hc, (zsw_1 zn (d + 60) L xs B i o5 o6 (zk c m) q1).trans r, v⟩
  by_cases q2 : x.toInt = 2
  · obtain ⟨m2, o5', o6', r, v⟩ := zk2 zn d L xs B i t h0 hi hL ht o5 o6 hN hC hB2 hV
    exact ⟨c, m2, o5', o6', hc, (zsw_2 zn (d + 60) L xs B i o5 o6 (zk c m) q2).trans r, v⟩
  by_cases q3 : x.toInt = 3
  · obtain ⟨c1, m2, o5', o6', w, r, v⟩ := zk3 zn d L xs B i t h0 hi hL ht o5 o6 hN hC hB hV
    exact ⟨c1, m2, o5', o6', w, (zsw_3 zn (d + 60) L xs B i o5 o6 (zk c m) q3).trans r, v⟩
  by_cases q5 : x.toInt = 5
  · obtain ⟨m2, o5', o6', r, v⟩ := zk5 zn d L xs B i t h0 hi hL ht o5 o6 hN hC hB2 hV
    exact ⟨c, m2, o5', o6', hc, (zsw_5 zn (d + 60) L xs B i o5 o6 (zk c m) q5).trans r, v⟩
  by_cases q6 : x.toInt = 6
  · obtain ⟨m2, o5', o6', r, v⟩ := zk6 zn d L xs B i t h0 hi hL ht o5 o6 hN hC hB2 hV
    exact ⟨c, m2, o5', o6', hc, (zsw_6 zn (d + 60) L xs B i o5 o6 (zk c m) q6).trans r, v⟩
  by_cases q7 : x.toInt = 7
  · obtain ⟨m2, o5', o6', r, v⟩ := zk7 zn d L xs B i t h0 hi hL ht o5 o6 hN hC hB2 hV
    exact ⟨c, m2, o5', o6', hc, (zsw_7 zn (d + 60) L xs B i o5 o6 (zk c m) q7).trans r, v⟩
  by_cases q8 : x.toInt = 8
  · obtain ⟨m2, o5', o6', r, v⟩ := zk8 zn d L xs B i t h0 hi hL ht o5 o6 hN hC hB2 hV
    exact ⟨c, m2, o5', o6', hc, (zsw_8 zn (d + 60) L xs B i o5 o6 (zk c m) q8).trans r, v⟩
  by_cases q9 : x.toInt = 9
  · obtain ⟨m2, o5', o6', r, v⟩ := zk9 zn d L xs B i t h0 hi hL ht o5 o6 hN hC hB2 hV
    exact ⟨c, m2, o5', o6', hc, (zsw_9 zn (d + 60) L xs B i o5 o6 (zk c m) q9).trans r, v⟩
  by_cases q10 : x.toInt = 10
  · obtain ⟨m2, o5', o6', r, v⟩ := zk10 zn d L xs B i t h0 hi hL ht o5 o6 hN hC hB2 hV
    exact ⟨c, m2, o5', o6', hc, (zsw_10 zn (d + 60) L xs B i o5 o6 (zk c m) q10).trans r, v⟩
  by_cases q11 : x.toInt = 11
  · obtain ⟨m2, o5', o6', r, v⟩ := zk11 zn d L xs B i t h0 hi hL ht o5 o6 hN hC hB2 hV
    exact ⟨c, m2, o5', o6', hc, (zsw_11 zn (d + 60) L xs B i o5 o6 (zk c m) q11).trans r, v⟩
  by_cases q12 : x.toInt = 12
  · obtain ⟨m2, o5', o6', r, v⟩ := zk12 zn d L xs B i t h0 hi hL ht o5 o6 hN hC hB2 hV
    exact ⟨c, m2, o5', o6', hc, (zsw_12 zn (d + 60) L xs B i o5 o6 (zk c m) q12).trans r, v⟩
  by_cases q13 : x.toInt = 13
  · obtain ⟨m2, o5', o6', r, v⟩ := zk13 zn d L xs B i t h0 hi hL ht o5 o6 hN hC hB2 hV
    exact ⟨c, m2, o5', o6', hc, (zsw_13 zn (d + 60) L xs B i o5 o6 (zk c m) q13).trans r, v⟩
  by_cases q14 : x.toInt = 14
  · obtain ⟨m2, o5', o6', r, v⟩ := zk14 zn d L xs B i t h0 hi hL ht o5 o6 hN hC hB2 hV
    exact ⟨c, m2, o5', o6', hc, (zsw_14 zn (d + 60) L xs B i o5 o6 (zk c m) q14).trans r, v⟩
  by_cases q15 : x.toInt = 15
  · obtain ⟨m2, o5', o6', r, v⟩ := zk15 zn d L xs B i t h0 hi hL ht o5 o6 hN hC hB2 hV
    exact ⟨c, m2, o5', o6', hc, (zsw_15 zn (d + 60) L xs B i o5 o6 (zk c m) q15).trans r, v⟩
  by_cases q16 : x.toInt = 16
  · obtain ⟨m2, o5', o6', r, v⟩ := zk16 zn d L xs B i t h0 hi hL ht o5 o6 hN hC hB2 hV
    exact ⟨c, m2, o5', o6', hc, (zsw_16 zn (d + 60) L xs B i o5 o6 (zk c m) q16).trans r, v⟩
  by_cases q17 : x.toInt = 17
  · obtain ⟨m2, o5', o6', r, v⟩ := zk17 zn d L xs B i t h0 hi hL ht o5 o6 hN hC hB2 hV
    exact ⟨c, m2, o5', o6', hc, (zsw_17 zn (d + 60) L xs B i o5 o6 (zk c m) q17).trans r, v⟩
  by_cases q18 : x.toInt = 18
  · obtain ⟨m2, o5', o6', r, v⟩ := zk18 zn d L xs B i t h0 hi hL ht o5 o6 hN hC hB2 hV
    exact ⟨c, m2, o5', o6', hc, (zsw_18 zn (d + 60) L xs B i o5 o6 (zk c m) q18).trans r, v⟩
  by_cases q19 : x.toInt = 19
  · obtain ⟨m2, o5', o6', r, v⟩ := zk19 zn d L xs B i t h0 hi hL ht o5 o6 hN hC hB2 hV
    exact ⟨c, m2, o5', o6', hc, (zsw_19 zn (d + 60) L xs B i o5 o6 (zk c m) q19).trans r, v⟩
  by_cases q20 : x.toInt = 20
  · obtain ⟨m2, o5', o6', r, v⟩ := zk20 zn d L xs B i t h0 hi hL ht o5 o6 hN hC hB2 hV
    exact ⟨c, m2, o5', o6', hc, (zsw_20 zn (d + 60) L xs B i o5 o6 (zk c m) q20).trans r, v⟩
  by_cases q21 : x.toInt = 21
  · obtain ⟨m2, o5', o6', r, v⟩ := zk21 zn d L xs B i t h0 hi hL ht o5 o6 hN hC hB2 hV
    exact ⟨c, m2, o5', o6', hc, (zsw_21 zn (d + 60) L xs B i o5 o6 (zk c m) q21).trans r, v⟩
  by_cases q22 : x.toInt = 22
  · obtain ⟨m2, o5', o6', r, v⟩ := zk22 zn d L xs B i t h0 hi hL ht o5 o6 hN hC hB2 hV
    exact ⟨c, m2, o5', o6', hc, (zsw_22 zn (d + 60) L xs B i o5 o6 (zk c m) q22).trans r, v⟩
  by_cases q23 : x.toInt = 23
  · obtain ⟨m2, o5', o6', r, v⟩ := zk23 zn d L xs B i t h0 hi hL ht o5 o6 hN hC hB2 hV
    exact ⟨c, m2, o5', o6', hc, (zsw_23 zn (d + 60) L xs B i o5 o6 (zk c m) q23).trans r, v⟩
  by_cases q24 : x.toInt = 24
  · obtain ⟨m2, o5', o6', r, v⟩ := zk24 zn d L xs B i t h0 hi hL ht o5 o6 hN hC hB2 hV
    exact ⟨c, m2, o5', o6', hc, (zsw_24 zn (d + 60) L xs B i o5 o6 (zk c m) q24).trans r, v⟩
  by_cases q25 : x.toInt = 25
  · obtain ⟨m2, o5', o6', r, v⟩ := zk25 zn d L xs B i t h0 hi hL ht o5 o6 hN hC hB2 hV
    exact ⟨c, m2, o5', o6', hc, (zsw_25 zn (d + 60) L xs B i o5 o6 (zk c m) q25).trans r, v⟩
  by_cases q26 : x.toInt = 26
  · obtain ⟨m2, o5', o6', r, v⟩ := zk26 zn d L xs B i t h0 hi hL ht o5 o6 hN hC hB2 hV
    exact ⟨c, m2, o5', o6', hc, (zsw_26 zn (d + 60) L xs B i o5 o6 (zk c m) q26).trans r, v⟩
  by_cases q27 : x.toInt = 27
  · obtain ⟨m2, o5', o6', r, v⟩ := zk27 zn d L xs B i t h0 hi hL ht o5 o6 hN hC hB2 hV
    exact ⟨c, m2, o5', o6', hc, (zsw_27 zn (d + 60) L xs B i o5 o6 (zk c m) q27).trans r, v⟩
  by_cases q28 : x.toInt = 28
  · obtain ⟨m2, o5', o6', r, v⟩ := zk28 zn d L xs B i t h0 hi hL ht o5 o6 hN hC hB2 hV
    exact ⟨c, m2, o5', o6', hc, (zsw_28 zn (d + 60) L xs B i o5 o6 (zk c m) q28).trans r, v⟩
  by_cases q29 : x.toInt = 29
  · obtain ⟨m2, o5', o6', r, v⟩ := zk29 zn d L xs B i t h0 hi hL ht o5 o6 hN hC hB2 hV
    exact ⟨c, m2, o5', o6', hc, (zsw_29 zn (d + 60) L xs B i o5 o6 (zk c m) q29).trans r, v⟩
  by_cases q30 : x.toInt = 30
  · obtain ⟨m2, o5', o6', r, v⟩ := zk30 zn d L xs B i t h0 hi hL ht o5 o6 hN hC hB2 hV
    exact ⟨c, m2, o5', o6', hc, (zsw_30 zn (d + 60) L xs B i o5 o6 (zk c m) q30).trans r, v⟩
  by_cases q31 : x.toInt = 31
  · obtain ⟨m2, o5', o6', r, v⟩ := zk31 zn d L xs B i t h0 hi hL ht o5 o6 hN hC hB2 hV
    exact ⟨c, m2, o5', o6', hc, (zsw_31 zn (d + 60) L xs B i o5 o6 (zk c m) q31).trans r, v⟩
  by_cases q32 : x.toInt = 32
  · obtain ⟨m2, o5', o6', r, v⟩ := zk32 zn d L xs B i t h0 hi hL ht o5 o6 hN hC hB2 hV
    exact ⟨c, m2, o5', o6', hc, (zsw_32 zn (d + 60) L xs B i o5 o6 (zk c m) q32).trans r, v⟩
  by_cases q33 : x.toInt = 33
  · obtain ⟨m2, o5', o6', r, v⟩ := zk33 zn d L xs B i t h0 hi hL ht o5 o6 hN hC hB2 hV
    exact ⟨c, m2, o5', o6', hc, (zsw_33 zn (d + 60) L xs B i o5 o6 (zk c m) q33).trans r, v⟩
  by_cases q34 : x.toInt = 34
  · obtain ⟨m2, o5', o6', r, v⟩ := zk34 zn d L xs B i t h0 hi hL ht o5 o6 hN hC hB2 hV
    exact ⟨c, m2, o5', o6', hc, (zsw_34 zn (d + 60) L xs B i o5 o6 (zk c m) q34).trans r, v⟩
  by_cases q35 : x.toInt = 35
  · obtain ⟨m2, o5', o6', r, v⟩ := zk35 zn d L xs B i t h0 hi hL ht o5 o6 hN hC hB2 hV
    exact ⟨c, m2, o5', o6', hc, (zsw_35 zn (d + 60) L xs B i o5 o6 (zk c m) q35).trans r, v⟩
  by_cases q36 : x.toInt = 36
  · obtain ⟨m2, o5', o6', r, v⟩ := zk36 zn d L xs B i t h0 hi hL ht o5 o6 hN hC hB2 hV
    exact ⟨c, m2, o5', o6', hc, (zsw_36 zn (d + 60) L xs B i o5 o6 (zk c m) q36).trans r, v⟩
  by_cases q37 : x.toInt = 37
  · obtain ⟨m2, o5', o6', r, v⟩ := zk37 zn d L xs B i t h0 hi hL ht o5 o6 hN hC hB2 hV
    exact ⟨c, m2, o5', o6', hc, (zsw_37 zn (d + 60) L xs B i o5 o6 (zk c m) q37).trans r, v⟩
  by_cases q38 : x.toInt = 38
  · obtain ⟨m2, o5', o6', r, v⟩ := zk38 zn d L xs B i t h0 hi hL ht o5 o6 hN hC hB2 hV
    exact ⟨c, m2, o5', o6', hc, (zsw_38 zn (d + 60) L xs B i o5 o6 (zk c m) q38).trans r, v⟩
  by_cases q39 : x.toInt = 39
  · obtain ⟨m2, o5', o6', r, v⟩ := zk39 zn d L xs B i t h0 hi hL ht o5 o6 hN hC hB2 hV
    exact ⟨c, m2, o5', o6', hc, (zsw_39 zn (d + 60) L xs B i o5 o6 (zk c m) q39).trans r, v⟩
  by_cases q40 : x.toInt = 40
  · obtain ⟨m2, o5', o6', r, v⟩ := zk40 zn d L xs B i t h0 hi hL ht o5 o6 hN hC hB2 hV
    exact ⟨c, m2, o5', o6', hc, (zsw_40 zn (d + 60) L xs B i o5 o6 (zk c m) q40).trans r, v⟩
  by_cases q41 : x.toInt = 41
  · obtain ⟨m2, o5', o6', r, v⟩ := zk41 zn d L xs B i t h0 hi hL ht o5 o6 hN hC hB2 hV
    exact ⟨c, m2, o5', o6', hc, (zsw_41 zn (d + 60) L xs B i o5 o6 (zk c m) q41).trans r, v⟩
  by_cases q42 : x.toInt = 42
  · obtain ⟨m2, o5', o6', r, v⟩ := zk42 zn d L xs B i t h0 hi hL ht o5 o6 hN hC hB2 hV
    exact ⟨c, m2, o5', o6', hc, (zsw_42 zn (d + 60) L xs B i o5 o6 (zk c m) q42).trans r, v⟩
  by_cases q43 : x.toInt = 43
  · obtain ⟨m2, o5', o6', r, v⟩ := zk43 zn d L xs B i t h0 hi hL ht o5 o6 hN hC hB2 hV
    exact ⟨c, m2, o5', o6', hc, (zsw_43 zn (d + 60) L xs B i o5 o6 (zk c m) q43).trans r, v⟩
  exact ⟨c, m, o5, o6, hc, zsw_no zn (d + 60) L xs B i o5 o6 (zk c m) (by omega), hV.1, zH_le hV.2.1 (by omega), zJ_le hV.2.2.1 (by omega), hV.2.2.2⟩
