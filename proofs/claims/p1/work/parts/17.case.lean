/-! the law: its switch, a script of fewer than 6 ints (wip/tools/law.py) -/
theorem zsw_0 (zn : Bool) (d : Nat) (xs : Nat → Int32) {x : Int32} (h : x.toInt = 0) : z_reach (z_sem zn (d + 10)) (some (6, xs), zn) (200, 40000) 1 (40, [some (.ref (z_RO + 300)), some (.ref 0), some (.ref 79), some (.ref 106), some (.int (Int32.ofInt 0)), none, none], [.int x], zh40) (232, [some (.ref (z_RO + 300)), some (.ref 0), some (.ref 79), some (.ref 106), some (.int (Int32.ofInt 0)), none, none], [], zh40) := by
  refine ⟨[(true, 0, none, zh0, none)], _, rfl, ?_⟩
  exact ⟨⟨by (try dsimp only); omega, by omega⟩, trivial⟩
theorem zsw_1 (zn : Bool) (d : Nat) (xs : Nat → Int32) {x : Int32} (h : x.toInt = 1) : z_reach (z_sem zn (d + 10)) (some (6, xs), zn) (200, 40000) 1 (40, [some (.ref (z_RO + 300)), some (.ref 0), some (.ref 79), some (.ref 106), some (.int (Int32.ofInt 0)), none, none], [.int x], zh40) (305, [some (.ref (z_RO + 300)), some (.ref 0), some (.ref 79), some (.ref 106), some (.int (Int32.ofInt 0)), none, none], [], zh40) := by
  refine ⟨[(true, 1, none, zh0, none)], _, rfl, ?_⟩
  exact ⟨⟨by (try dsimp only); omega, by omega⟩, trivial⟩
theorem zsw_2 (zn : Bool) (d : Nat) (xs : Nat → Int32) {x : Int32} (h : x.toInt = 2) : z_reach (z_sem zn (d + 10)) (some (6, xs), zn) (200, 40000) 1 (40, [some (.ref (z_RO + 300)), some (.ref 0), some (.ref 79), some (.ref 106), some (.int (Int32.ofInt 0)), none, none], [.int x], zh40) (330, [some (.ref (z_RO + 300)), some (.ref 0), some (.ref 79), some (.ref 106), some (.int (Int32.ofInt 0)), none, none], [], zh40) := by
  refine ⟨[(true, 2, none, zh0, none)], _, rfl, ?_⟩
  exact ⟨⟨by (try dsimp only); omega, by omega⟩, trivial⟩
theorem zsw_3 (zn : Bool) (d : Nat) (xs : Nat → Int32) {x : Int32} (h : x.toInt = 3) : z_reach (z_sem zn (d + 10)) (some (6, xs), zn) (200, 40000) 1 (40, [some (.ref (z_RO + 300)), some (.ref 0), some (.ref 79), some (.ref 106), some (.int (Int32.ofInt 0)), none, none], [.int x], zh40) (355, [some (.ref (z_RO + 300)), some (.ref 0), some (.ref 79), some (.ref 106), some (.int (Int32.ofInt 0)), none, none], [], zh40) := by
  refine ⟨[(true, 3, none, zh0, none)], _, rfl, ?_⟩
  exact ⟨⟨by (try dsimp only); omega, by omega⟩, trivial⟩
theorem zsw_4 (zn : Bool) (d : Nat) (xs : Nat → Int32) {x : Int32} (h : x.toInt = 4) : z_reach (z_sem zn (d + 10)) (some (6, xs), zn) (200, 40000) 1 (40, [some (.ref (z_RO + 300)), some (.ref 0), some (.ref 79), some (.ref 106), some (.int (Int32.ofInt 0)), none, none], [.int x], zh40) (380, [some (.ref (z_RO + 300)), some (.ref 0), some (.ref 79), some (.ref 106), some (.int (Int32.ofInt 0)), none, none], [], zh40) := by
  refine ⟨[(true, 4, none, zh0, none)], _, rfl, ?_⟩
  exact ⟨⟨by (try dsimp only); omega, by omega⟩, trivial⟩
theorem zsw_5 (zn : Bool) (d : Nat) (xs : Nat → Int32) {x : Int32} (h : x.toInt = 5) : z_reach (z_sem zn (d + 10)) (some (6, xs), zn) (200, 40000) 1 (40, [some (.ref (z_RO + 300)), some (.ref 0), some (.ref 79), some (.ref 106), some (.int (Int32.ofInt 0)), none, none], [.int x], zh40) (448, [some (.ref (z_RO + 300)), some (.ref 0), some (.ref 79), some (.ref 106), some (.int (Int32.ofInt 0)), none, none], [], zh40) := by
  refine ⟨[(true, 5, none, zh0, none)], _, rfl, ?_⟩
  exact ⟨⟨by (try dsimp only); omega, by omega⟩, trivial⟩
theorem zsw_6 (zn : Bool) (d : Nat) (xs : Nat → Int32) {x : Int32} (h : x.toInt = 6) : z_reach (z_sem zn (d + 10)) (some (6, xs), zn) (200, 40000) 1 (40, [some (.ref (z_RO + 300)), some (.ref 0), some (.ref 79), some (.ref 106), some (.int (Int32.ofInt 0)), none, none], [.int x], zh40) (485, [some (.ref (z_RO + 300)), some (.ref 0), some (.ref 79), some (.ref 106), some (.int (Int32.ofInt 0)), none, none], [], zh40) := by
  refine ⟨[(true, 6, none, zh0, none)], _, rfl, ?_⟩
  exact ⟨⟨by (try dsimp only); omega, by omega⟩, trivial⟩
theorem zsw_7 (zn : Bool) (d : Nat) (xs : Nat → Int32) {x : Int32} (h : x.toInt = 7) : z_reach (z_sem zn (d + 10)) (some (6, xs), zn) (200, 40000) 1 (40, [some (.ref (z_RO + 300)), some (.ref 0), some (.ref 79), some (.ref 106), some (.int (Int32.ofInt 0)), none, none], [.int x], zh40) (510, [some (.ref (z_RO + 300)), some (.ref 0), some (.ref 79), some (.ref 106), some (.int (Int32.ofInt 0)), none, none], [], zh40) := by
  refine ⟨[(true, 7, none, zh0, none)], _, rfl, ?_⟩
  exact ⟨⟨by (try dsimp only); omega, by omega⟩, trivial⟩
theorem zsw_8 (zn : Bool) (d : Nat) (xs : Nat → Int32) {x : Int32} (h : x.toInt = 8) : z_reach (z_sem zn (d + 10)) (some (6, xs), zn) (200, 40000) 1 (40, [some (.ref (z_RO + 300)), some (.ref 0), some (.ref 79), some (.ref 106), some (.int (Int32.ofInt 0)), none, none], [.int x], zh40) (535, [some (.ref (z_RO + 300)), some (.ref 0), some (.ref 79), some (.ref 106), some (.int (Int32.ofInt 0)), none, none], [], zh40) := by
  refine ⟨[(true, 8, none, zh0, none)], _, rfl, ?_⟩
  exact ⟨⟨by (try dsimp only); omega, by omega⟩, trivial⟩
theorem zsw_9 (zn : Bool) (d : Nat) (xs : Nat → Int32) {x : Int32} (h : x.toInt = 9) : z_reach (z_sem zn (d + 10)) (some (6, xs), zn) (200, 40000) 1 (40, [some (.ref (z_RO + 300)), some (.ref 0), some (.ref 79), some (.ref 106), some (.int (Int32.ofInt 0)), none, none], [.int x], zh40) (560, [some (.ref (z_RO + 300)), some (.ref 0), some (.ref 79), some (.ref 106), some (.int (Int32.ofInt 0)), none, none], [], zh40) := by
  refine ⟨[(true, 9, none, zh0, none)], _, rfl, ?_⟩
  exact ⟨⟨by (try dsimp only); omega, by omega⟩, trivial⟩
theorem zsw_10 (zn : Bool) (d : Nat) (xs : Nat → Int32) {x : Int32} (h : x.toInt = 10) : z_reach (z_sem zn (d + 10)) (some (6, xs), zn) (200, 40000) 1 (40, [some (.ref (z_RO + 300)), some (.ref 0), some (.ref 79), some (.ref 106), some (.int (Int32.ofInt 0)), none, none], [.int x], zh40) (585, [some (.ref (z_RO + 300)), some (.ref 0), some (.ref 79), some (.ref 106), some (.int (Int32.ofInt 0)), none, none], [], zh40) := by
  refine ⟨[(true, 10, none, zh0, none)], _, rfl, ?_⟩
  exact ⟨⟨by (try dsimp only); omega, by omega⟩, trivial⟩
theorem zsw_11 (zn : Bool) (d : Nat) (xs : Nat → Int32) {x : Int32} (h : x.toInt = 11) : z_reach (z_sem zn (d + 10)) (some (6, xs), zn) (200, 40000) 1 (40, [some (.ref (z_RO + 300)), some (.ref 0), some (.ref 79), some (.ref 106), some (.int (Int32.ofInt 0)), none, none], [.int x], zh40) (654, [some (.ref (z_RO + 300)), some (.ref 0), some (.ref 79), some (.ref 106), some (.int (Int32.ofInt 0)), none, none], [], zh40) := by
  refine ⟨[(true, 11, none, zh0, none)], _, rfl, ?_⟩
  exact ⟨⟨by (try dsimp only); omega, by omega⟩, trivial⟩
theorem zsw_12 (zn : Bool) (d : Nat) (xs : Nat → Int32) {x : Int32} (h : x.toInt = 12) : z_reach (z_sem zn (d + 10)) (some (6, xs), zn) (200, 40000) 1 (40, [some (.ref (z_RO + 300)), some (.ref 0), some (.ref 79), some (.ref 106), some (.int (Int32.ofInt 0)), none, none], [.int x], zh40) (691, [some (.ref (z_RO + 300)), some (.ref 0), some (.ref 79), some (.ref 106), some (.int (Int32.ofInt 0)), none, none], [], zh40) := by
  refine ⟨[(true, 12, none, zh0, none)], _, rfl, ?_⟩
  exact ⟨⟨by (try dsimp only); omega, by omega⟩, trivial⟩
theorem zsw_13 (zn : Bool) (d : Nat) (xs : Nat → Int32) {x : Int32} (h : x.toInt = 13) : z_reach (z_sem zn (d + 10)) (some (6, xs), zn) (200, 40000) 1 (40, [some (.ref (z_RO + 300)), some (.ref 0), some (.ref 79), some (.ref 106), some (.int (Int32.ofInt 0)), none, none], [.int x], zh40) (744, [some (.ref (z_RO + 300)), some (.ref 0), some (.ref 79), some (.ref 106), some (.int (Int32.ofInt 0)), none, none], [], zh40) := by
  refine ⟨[(true, 13, none, zh0, none)], _, rfl, ?_⟩
  exact ⟨⟨by (try dsimp only); omega, by omega⟩, trivial⟩
theorem zsw_14 (zn : Bool) (d : Nat) (xs : Nat → Int32) {x : Int32} (h : x.toInt = 14) : z_reach (z_sem zn (d + 10)) (some (6, xs), zn) (200, 40000) 1 (40, [some (.ref (z_RO + 300)), some (.ref 0), some (.ref 79), some (.ref 106), some (.int (Int32.ofInt 0)), none, none], [.int x], zh40) (781, [some (.ref (z_RO + 300)), some (.ref 0), some (.ref 79), some (.ref 106), some (.int (Int32.ofInt 0)), none, none], [], zh40) := by
  refine ⟨[(true, 14, none, zh0, none)], _, rfl, ?_⟩
  exact ⟨⟨by (try dsimp only); omega, by omega⟩, trivial⟩
theorem zsw_15 (zn : Bool) (d : Nat) (xs : Nat → Int32) {x : Int32} (h : x.toInt = 15) : z_reach (z_sem zn (d + 10)) (some (6, xs), zn) (200, 40000) 1 (40, [some (.ref (z_RO + 300)), some (.ref 0), some (.ref 79), some (.ref 106), some (.int (Int32.ofInt 0)), none, none], [.int x], zh40) (818, [some (.ref (z_RO + 300)), some (.ref 0), some (.ref 79), some (.ref 106), some (.int (Int32.ofInt 0)), none, none], [], zh40) := by
  refine ⟨[(true, 15, none, zh0, none)], _, rfl, ?_⟩
  exact ⟨⟨by (try dsimp only); omega, by omega⟩, trivial⟩
theorem zsw_16 (zn : Bool) (d : Nat) (xs : Nat → Int32) {x : Int32} (h : x.toInt = 16) : z_reach (z_sem zn (d + 10)) (some (6, xs), zn) (200, 40000) 1 (40, [some (.ref (z_RO + 300)), some (.ref 0), some (.ref 79), some (.ref 106), some (.int (Int32.ofInt 0)), none, none], [.int x], zh40) (855, [some (.ref (z_RO + 300)), some (.ref 0), some (.ref 79), some (.ref 106), some (.int (Int32.ofInt 0)), none, none], [], zh40) := by
  refine ⟨[(true, 16, none, zh0, none)], _, rfl, ?_⟩
  exact ⟨⟨by (try dsimp only); omega, by omega⟩, trivial⟩
theorem zsw_17 (zn : Bool) (d : Nat) (xs : Nat → Int32) {x : Int32} (h : x.toInt = 17) : z_reach (z_sem zn (d + 10)) (some (6, xs), zn) (200, 40000) 1 (40, [some (.ref (z_RO + 300)), some (.ref 0), some (.ref 79), some (.ref 106), some (.int (Int32.ofInt 0)), none, none], [.int x], zh40) (908, [some (.ref (z_RO + 300)), some (.ref 0), some (.ref 79), some (.ref 106), some (.int (Int32.ofInt 0)), none, none], [], zh40) := by
  refine ⟨[(true, 17, none, zh0, none)], _, rfl, ?_⟩
  exact ⟨⟨by (try dsimp only); omega, by omega⟩, trivial⟩
theorem zsw_18 (zn : Bool) (d : Nat) (xs : Nat → Int32) {x : Int32} (h : x.toInt = 18) : z_reach (z_sem zn (d + 10)) (some (6, xs), zn) (200, 40000) 1 (40, [some (.ref (z_RO + 300)), some (.ref 0), some (.ref 79), some (.ref 106), some (.int (Int32.ofInt 0)), none, none], [.int x], zh40) (921, [some (.ref (z_RO + 300)), some (.ref 0), some (.ref 79), some (.ref 106), some (.int (Int32.ofInt 0)), none, none], [], zh40) := by
  refine ⟨[(true, 18, none, zh0, none)], _, rfl, ?_⟩
  exact ⟨⟨by (try dsimp only); omega, by omega⟩, trivial⟩
theorem zsw_19 (zn : Bool) (d : Nat) (xs : Nat → Int32) {x : Int32} (h : x.toInt = 19) : z_reach (z_sem zn (d + 10)) (some (6, xs), zn) (200, 40000) 1 (40, [some (.ref (z_RO + 300)), some (.ref 0), some (.ref 79), some (.ref 106), some (.int (Int32.ofInt 0)), none, none], [.int x], zh40) (958, [some (.ref (z_RO + 300)), some (.ref 0), some (.ref 79), some (.ref 106), some (.int (Int32.ofInt 0)), none, none], [], zh40) := by
  refine ⟨[(true, 19, none, zh0, none)], _, rfl, ?_⟩
  exact ⟨⟨by (try dsimp only); omega, by omega⟩, trivial⟩
theorem zsw_20 (zn : Bool) (d : Nat) (xs : Nat → Int32) {x : Int32} (h : x.toInt = 20) : z_reach (z_sem zn (d + 10)) (some (6, xs), zn) (200, 40000) 1 (40, [some (.ref (z_RO + 300)), some (.ref 0), some (.ref 79), some (.ref 106), some (.int (Int32.ofInt 0)), none, none], [.int x], zh40) (995, [some (.ref (z_RO + 300)), some (.ref 0), some (.ref 79), some (.ref 106), some (.int (Int32.ofInt 0)), none, none], [], zh40) := by
  refine ⟨[(true, 20, none, zh0, none)], _, rfl, ?_⟩
  exact ⟨⟨by (try dsimp only); omega, by omega⟩, trivial⟩
theorem zsw_21 (zn : Bool) (d : Nat) (xs : Nat → Int32) {x : Int32} (h : x.toInt = 21) : z_reach (z_sem zn (d + 10)) (some (6, xs), zn) (200, 40000) 1 (40, [some (.ref (z_RO + 300)), some (.ref 0), some (.ref 79), some (.ref 106), some (.int (Int32.ofInt 0)), none, none], [.int x], zh40) (1032, [some (.ref (z_RO + 300)), some (.ref 0), some (.ref 79), some (.ref 106), some (.int (Int32.ofInt 0)), none, none], [], zh40) := by
  refine ⟨[(true, 21, none, zh0, none)], _, rfl, ?_⟩
  exact ⟨⟨by (try dsimp only); omega, by omega⟩, trivial⟩
theorem zsw_22 (zn : Bool) (d : Nat) (xs : Nat → Int32) {x : Int32} (h : x.toInt = 22) : z_reach (z_sem zn (d + 10)) (some (6, xs), zn) (200, 40000) 1 (40, [some (.ref (z_RO + 300)), some (.ref 0), some (.ref 79), some (.ref 106), some (.int (Int32.ofInt 0)), none, none], [.int x], zh40) (1069, [some (.ref (z_RO + 300)), some (.ref 0), some (.ref 79), some (.ref 106), some (.int (Int32.ofInt 0)), none, none], [], zh40) := by
  refine ⟨[(true, 22, none, zh0, none)], _, rfl, ?_⟩
  exact ⟨⟨by (try dsimp only); omega, by omega⟩, trivial⟩
theorem zsw_23 (zn : Bool) (d : Nat) (xs : Nat → Int32) {x : Int32} (h : x.toInt = 23) : z_reach (z_sem zn (d + 10)) (some (6, xs), zn) (200, 40000) 1 (40, [some (.ref (z_RO + 300)), some (.ref 0), some (.ref 79), some (.ref 106), some (.int (Int32.ofInt 0)), none, none], [.int x], zh40) (1082, [some (.ref (z_RO + 300)), some (.ref 0), some (.ref 79), some (.ref 106), some (.int (Int32.ofInt 0)), none, none], [], zh40) := by
  refine ⟨[(true, 23, none, zh0, none)], _, rfl, ?_⟩
  exact ⟨⟨by (try dsimp only); omega, by omega⟩, trivial⟩
theorem zsw_24 (zn : Bool) (d : Nat) (xs : Nat → Int32) {x : Int32} (h : x.toInt = 24) : z_reach (z_sem zn (d + 10)) (some (6, xs), zn) (200, 40000) 1 (40, [some (.ref (z_RO + 300)), some (.ref 0), some (.ref 79), some (.ref 106), some (.int (Int32.ofInt 0)), none, none], [.int x], zh40) (1119, [some (.ref (z_RO + 300)), some (.ref 0), some (.ref 79), some (.ref 106), some (.int (Int32.ofInt 0)), none, none], [], zh40) := by
  refine ⟨[(true, 24, none, zh0, none)], _, rfl, ?_⟩
  exact ⟨⟨by (try dsimp only); omega, by omega⟩, trivial⟩
theorem zsw_25 (zn : Bool) (d : Nat) (xs : Nat → Int32) {x : Int32} (h : x.toInt = 25) : z_reach (z_sem zn (d + 10)) (some (6, xs), zn) (200, 40000) 1 (40, [some (.ref (z_RO + 300)), some (.ref 0), some (.ref 79), some (.ref 106), some (.int (Int32.ofInt 0)), none, none], [.int x], zh40) (1156, [some (.ref (z_RO + 300)), some (.ref 0), some (.ref 79), some (.ref 106), some (.int (Int32.ofInt 0)), none, none], [], zh40) := by
  refine ⟨[(true, 25, none, zh0, none)], _, rfl, ?_⟩
  exact ⟨⟨by (try dsimp only); omega, by omega⟩, trivial⟩
theorem zsw_26 (zn : Bool) (d : Nat) (xs : Nat → Int32) {x : Int32} (h : x.toInt = 26) : z_reach (z_sem zn (d + 10)) (some (6, xs), zn) (200, 40000) 1 (40, [some (.ref (z_RO + 300)), some (.ref 0), some (.ref 79), some (.ref 106), some (.int (Int32.ofInt 0)), none, none], [.int x], zh40) (1181, [some (.ref (z_RO + 300)), some (.ref 0), some (.ref 79), some (.ref 106), some (.int (Int32.ofInt 0)), none, none], [], zh40) := by
  refine ⟨[(true, 26, none, zh0, none)], _, rfl, ?_⟩
  exact ⟨⟨by (try dsimp only); omega, by omega⟩, trivial⟩
theorem zsw_27 (zn : Bool) (d : Nat) (xs : Nat → Int32) {x : Int32} (h : x.toInt = 27) : z_reach (z_sem zn (d + 10)) (some (6, xs), zn) (200, 40000) 1 (40, [some (.ref (z_RO + 300)), some (.ref 0), some (.ref 79), some (.ref 106), some (.int (Int32.ofInt 0)), none, none], [.int x], zh40) (1218, [some (.ref (z_RO + 300)), some (.ref 0), some (.ref 79), some (.ref 106), some (.int (Int32.ofInt 0)), none, none], [], zh40) := by
  refine ⟨[(true, 27, none, zh0, none)], _, rfl, ?_⟩
  exact ⟨⟨by (try dsimp only); omega, by omega⟩, trivial⟩
theorem zsw_28 (zn : Bool) (d : Nat) (xs : Nat → Int32) {x : Int32} (h : x.toInt = 28) : z_reach (z_sem zn (d + 10)) (some (6, xs), zn) (200, 40000) 1 (40, [some (.ref (z_RO + 300)), some (.ref 0), some (.ref 79), some (.ref 106), some (.int (Int32.ofInt 0)), none, none], [.int x], zh40) (1243, [some (.ref (z_RO + 300)), some (.ref 0), some (.ref 79), some (.ref 106), some (.int (Int32.ofInt 0)), none, none], [], zh40) := by
  refine ⟨[(true, 28, none, zh0, none)], _, rfl, ?_⟩
  exact ⟨⟨by (try dsimp only); omega, by omega⟩, trivial⟩
theorem zsw_29 (zn : Bool) (d : Nat) (xs : Nat → Int32) {x : Int32} (h : x.toInt = 29) : z_reach (z_sem zn (d + 10)) (some (6, xs), zn) (200, 40000) 1 (40, [some (.ref (z_RO + 300)), some (.ref 0), some (.ref 79), some (.ref 106), some (.int (Int32.ofInt 0)), none, none], [.int x], zh40) (1268, [some (.ref (z_RO + 300)), some (.ref 0), some (.ref 79), some (.ref 106), some (.int (Int32.ofInt 0)), none, none], [], zh40) := by
  refine ⟨[(true, 29, none, zh0, none)], _, rfl, ?_⟩
  exact ⟨⟨by (try dsimp only); omega, by omega⟩, trivial⟩
theorem zsw_30 (zn : Bool) (d : Nat) (xs : Nat → Int32) {x : Int32} (h : x.toInt = 30) : z_reach (z_sem zn (d + 10)) (some (6, xs), zn) (200, 40000) 1 (40, [some (.ref (z_RO + 300)), some (.ref 0), some (.ref 79), some (.ref 106), some (.int (Int32.ofInt 0)), none, none], [.int x], zh40) (1281, [some (.ref (z_RO + 300)), some (.ref 0), some (.ref 79), some (.ref 106), some (.int (Int32.ofInt 0)), none, none], [], zh40) := by
  refine ⟨[(true, 30, none, zh0, none)], _, rfl, ?_⟩
  exact ⟨⟨by (try dsimp only); omega, by omega⟩, trivial⟩
theorem zsw_31 (zn : Bool) (d : Nat) (xs : Nat → Int32) {x : Int32} (h : x.toInt = 31) : z_reach (z_sem zn (d + 10)) (some (6, xs), zn) (200, 40000) 1 (40, [some (.ref (z_RO + 300)), some (.ref 0), some (.ref 79), some (.ref 106), some (.int (Int32.ofInt 0)), none, none], [.int x], zh40) (1306, [some (.ref (z_RO + 300)), some (.ref 0), some (.ref 79), some (.ref 106), some (.int (Int32.ofInt 0)), none, none], [], zh40) := by
  refine ⟨[(true, 31, none, zh0, none)], _, rfl, ?_⟩
  exact ⟨⟨by (try dsimp only); omega, by omega⟩, trivial⟩
theorem zsw_32 (zn : Bool) (d : Nat) (xs : Nat → Int32) {x : Int32} (h : x.toInt = 32) : z_reach (z_sem zn (d + 10)) (some (6, xs), zn) (200, 40000) 1 (40, [some (.ref (z_RO + 300)), some (.ref 0), some (.ref 79), some (.ref 106), some (.int (Int32.ofInt 0)), none, none], [.int x], zh40) (1319, [some (.ref (z_RO + 300)), some (.ref 0), some (.ref 79), some (.ref 106), some (.int (Int32.ofInt 0)), none, none], [], zh40) := by
  refine ⟨[(true, 32, none, zh0, none)], _, rfl, ?_⟩
  exact ⟨⟨by (try dsimp only); omega, by omega⟩, trivial⟩
theorem zsw_33 (zn : Bool) (d : Nat) (xs : Nat → Int32) {x : Int32} (h : x.toInt = 33) : z_reach (z_sem zn (d + 10)) (some (6, xs), zn) (200, 40000) 1 (40, [some (.ref (z_RO + 300)), some (.ref 0), some (.ref 79), some (.ref 106), some (.int (Int32.ofInt 0)), none, none], [.int x], zh40) (1344, [some (.ref (z_RO + 300)), some (.ref 0), some (.ref 79), some (.ref 106), some (.int (Int32.ofInt 0)), none, none], [], zh40) := by
  refine ⟨[(true, 33, none, zh0, none)], _, rfl, ?_⟩
  exact ⟨⟨by (try dsimp only); omega, by omega⟩, trivial⟩
theorem zsw_34 (zn : Bool) (d : Nat) (xs : Nat → Int32) {x : Int32} (h : x.toInt = 34) : z_reach (z_sem zn (d + 10)) (some (6, xs), zn) (200, 40000) 1 (40, [some (.ref (z_RO + 300)), some (.ref 0), some (.ref 79), some (.ref 106), some (.int (Int32.ofInt 0)), none, none], [.int x], zh40) (1381, [some (.ref (z_RO + 300)), some (.ref 0), some (.ref 79), some (.ref 106), some (.int (Int32.ofInt 0)), none, none], [], zh40) := by
  refine ⟨[(true, 34, none, zh0, none)], _, rfl, ?_⟩
  exact ⟨⟨by (try dsimp only); omega, by omega⟩, trivial⟩
theorem zsw_35 (zn : Bool) (d : Nat) (xs : Nat → Int32) {x : Int32} (h : x.toInt = 35) : z_reach (z_sem zn (d + 10)) (some (6, xs), zn) (200, 40000) 1 (40, [some (.ref (z_RO + 300)), some (.ref 0), some (.ref 79), some (.ref 106), some (.int (Int32.ofInt 0)), none, none], [.int x], zh40) (1430, [some (.ref (z_RO + 300)), some (.ref 0), some (.ref 79), some (.ref 106), some (.int (Int32.ofInt 0)), none, none], [], zh40) := by
  refine ⟨[(true, 35, none, zh0, none)], _, rfl, ?_⟩
  exact ⟨⟨by (try dsimp only); omega, by omega⟩, trivial⟩
theorem zsw_36 (zn : Bool) (d : Nat) (xs : Nat → Int32) {x : Int32} (h : x.toInt = 36) : z_reach (z_sem zn (d + 10)) (some (6, xs), zn) (200, 40000) 1 (40, [some (.ref (z_RO + 300)), some (.ref 0), some (.ref 79), some (.ref 106), some (.int (Int32.ofInt 0)), none, none], [.int x], zh40) (1503, [some (.ref (z_RO + 300)), some (.ref 0), some (.ref 79), some (.ref 106), some (.int (Int32.ofInt 0)), none, none], [], zh40) := by
  refine ⟨[(true, 36, none, zh0, none)], _, rfl, ?_⟩
  exact ⟨⟨by (try dsimp only); omega, by omega⟩, trivial⟩
theorem zsw_37 (zn : Bool) (d : Nat) (xs : Nat → Int32) {x : Int32} (h : x.toInt = 37) : z_reach (z_sem zn (d + 10)) (some (6, xs), zn) (200, 40000) 1 (40, [some (.ref (z_RO + 300)), some (.ref 0), some (.ref 79), some (.ref 106), some (.int (Int32.ofInt 0)), none, none], [.int x], zh40) (1528, [some (.ref (z_RO + 300)), some (.ref 0), some (.ref 79), some (.ref 106), some (.int (Int32.ofInt 0)), none, none], [], zh40) := by
  refine ⟨[(true, 37, none, zh0, none)], _, rfl, ?_⟩
  exact ⟨⟨by (try dsimp only); omega, by omega⟩, trivial⟩
theorem zsw_38 (zn : Bool) (d : Nat) (xs : Nat → Int32) {x : Int32} (h : x.toInt = 38) : z_reach (z_sem zn (d + 10)) (some (6, xs), zn) (200, 40000) 1 (40, [some (.ref (z_RO + 300)), some (.ref 0), some (.ref 79), some (.ref 106), some (.int (Int32.ofInt 0)), none, none], [.int x], zh40) (1565, [some (.ref (z_RO + 300)), some (.ref 0), some (.ref 79), some (.ref 106), some (.int (Int32.ofInt 0)), none, none], [], zh40) := by
  refine ⟨[(true, 38, none, zh0, none)], _, rfl, ?_⟩
  exact ⟨⟨by (try dsimp only); omega, by omega⟩, trivial⟩
theorem zsw_39 (zn : Bool) (d : Nat) (xs : Nat → Int32) {x : Int32} (h : x.toInt = 39) : z_reach (z_sem zn (d + 10)) (some (6, xs), zn) (200, 40000) 1 (40, [some (.ref (z_RO + 300)), some (.ref 0), some (.ref 79), some (.ref 106), some (.int (Int32.ofInt 0)), none, none], [.int x], zh40) (1602, [some (.ref (z_RO + 300)), some (.ref 0), some (.ref 79), some (.ref 106), some (.int (Int32.ofInt 0)), none, none], [], zh40) := by
  refine ⟨[(true, 39, none, zh0, none)], _, rfl, ?_⟩
  exact ⟨⟨by (try dsimp only); omega, by omega⟩, trivial⟩
theorem zsw_40 (zn : Bool) (d : Nat) (xs : Nat → Int32) {x : Int32} (h : x.toInt = 40) : z_reach (z_sem zn (d + 10)) (some (6, xs), zn) (200, 40000) 1 (40, [some (.ref (z_RO + 300)), some (.ref 0), some (.ref 79), some (.ref 106), some (.int (Int32.ofInt 0)), none, none], [.int x], zh40) (1627, [some (.ref (z_RO + 300)), some (.ref 0), some (.ref 79), some (.ref 106), some (.int (Int32.ofInt 0)), none, none], [], zh40) := by
  refine ⟨[(true, 40, none, zh0, none)], _, rfl, ?_⟩
  exact ⟨⟨by (try dsimp only); omega, by omega⟩, trivial⟩
theorem zsw_41 (zn : Bool) (d : Nat) (xs : Nat → Int32) {x : Int32} (h : x.toInt = 41) : z_reach (z_sem zn (d + 10)) (some (6, xs), zn) (200, 40000) 1 (40, [some (.ref (z_RO + 300)), some (.ref 0), some (.ref 79), some (.ref 106), some (.int (Int32.ofInt 0)), none, none], [.int x], zh40) (1664, [some (.ref (z_RO + 300)), some (.ref 0), some (.ref 79), some (.ref 106), some (.int (Int32.ofInt 0)), none, none], [], zh40) := by
  refine ⟨[(true, 41, none, zh0, none)], _, rfl, ?_⟩
  exact ⟨⟨by (try dsimp only); omega, by omega⟩, trivial⟩
theorem zsw_42 (zn : Bool) (d : Nat) (xs : Nat → Int32) {x : Int32} (h : x.toInt = 42) : z_reach (z_sem zn (d + 10)) (some (6, xs), zn) (200, 40000) 1 (40, [some (.ref (z_RO + 300)), some (.ref 0), some (.ref 79), some (.ref 106), some (.int (Int32.ofInt 0)), none, none], [.int x], zh40) (1677, [some (.ref (z_RO + 300)), some (.ref 0), some (.ref 79), some (.ref 106), some (.int (Int32.ofInt 0)), none, none], [], zh40) := by
  refine ⟨[(true, 42, none, zh0, none)], _, rfl, ?_⟩
  exact ⟨⟨by (try dsimp only); omega, by omega⟩, trivial⟩
theorem zsw_43 (zn : Bool) (d : Nat) (xs : Nat → Int32) {x : Int32} (h : x.toInt = 43) : z_reach (z_sem zn (d + 10)) (some (6, xs), zn) (200, 40000) 1 (40, [some (.ref (z_RO + 300)), some (.ref 0), some (.ref 79), some (.ref 106), some (.int (Int32.ofInt 0)), none, none], [.int x], zh40) (1690, [some (.ref (z_RO + 300)), some (.ref 0), some (.ref 79), some (.ref 106), some (.int (Int32.ofInt 0)), none, none], [], zh40) := by
  refine ⟨[(true, 43, none, zh0, none)], _, rfl, ?_⟩
  exact ⟨⟨by (try dsimp only); omega, by omega⟩, trivial⟩
theorem zsw_no (zn : Bool) (d : Nat) (xs : Nat → Int32) {x : Int32} (h : x.toInt < 0 ∨ 43 < x.toInt) : z_reach (z_sem zn (d + 10)) (some (6, xs), zn) (200, 40000) 1 (40, [some (.ref (z_RO + 300)), some (.ref 0), some (.ref 79), some (.ref 106), some (.int (Int32.ofInt 0)), none, none], [.int x], zh40) (1715, [some (.ref (z_RO + 300)), some (.ref 0), some (.ref 79), some (.ref 106), some (.int (Int32.ofInt 0)), none, none], [], zh40) := by
  refine ⟨[zo], _, rfl, ?_⟩
  exact ⟨h, trivial⟩
set_option maxHeartbeats 4000000 in
theorem zl_case (zn : Bool) (d : Nat) (xs : Nat → Int32) (x : Int32) (h4 : x.toInt ≠ 4) : ∃ (lv : List (Option Value)) (h : z_H), z_reach (z_sem zn (d + 10)) (some (6, xs), zn) (200, 40000) 1 (40, [some (.ref (z_RO + 300)), some (.ref 0), some (.ref 79), some (.ref 106), some (.int (Int32.ofInt 0)), none, none], [.int x], zh40) (1722, lv, [.int (Int32.ofInt 1)], h) ∧ h.1 ≤ 200 ∧ h.2.1 ≤ 40000 := by
  by_cases q0 : x.toInt = 0
  · obtain ⟨lv, h, r, b1, b2⟩ := zop_feed zn d xs
    exact ⟨lv, h, (zsw_0 zn d xs q0).trans r, b1, b2⟩
  by_cases q1 : x.toInt = 1
  · obtain ⟨lv, h, r, b1, b2⟩ := zop_end zn d xs
    exact ⟨lv, h, (zsw_1 zn d xs q1).trans r, b1, b2⟩
  by_cases q2 : x.toInt = 2
  · obtain ⟨lv, h, r, b1, b2⟩ := zop_fault zn d xs
    exact ⟨lv, h, (zsw_2 zn d xs q2).trans r, b1, b2⟩
  by_cases q3 : x.toInt = 3
  · obtain ⟨lv, h, r, b1, b2⟩ := zop_text zn d xs
    exact ⟨lv, h, (zsw_3 zn d xs q3).trans r, b1, b2⟩
  by_cases q5 : x.toInt = 5
  · obtain ⟨lv, h, r, b1, b2⟩ := zop_person zn d xs
    exact ⟨lv, h, (zsw_5 zn d xs q5).trans r, b1, b2⟩
  by_cases q6 : x.toInt = 6
  · obtain ⟨lv, h, r, b1, b2⟩ := zop_sees zn d xs
    exact ⟨lv, h, (zsw_6 zn d xs q6).trans r, b1, b2⟩
  by_cases q7 : x.toInt = 7
  · obtain ⟨lv, h, r, b1, b2⟩ := zop_taste zn d xs
    exact ⟨lv, h, (zsw_7 zn d xs q7).trans r, b1, b2⟩
  by_cases q8 : x.toInt = 8
  · obtain ⟨lv, h, r, b1, b2⟩ := zop_crowd zn d xs
    exact ⟨lv, h, (zsw_8 zn d xs q8).trans r, b1, b2⟩
  by_cases q9 : x.toInt = 9
  · obtain ⟨lv, h, r, b1, b2⟩ := zop_go zn d xs
    exact ⟨lv, h, (zsw_9 zn d xs q9).trans r, b1, b2⟩
  by_cases q10 : x.toInt = 10
  · obtain ⟨lv, h, r, b1, b2⟩ := zop_crowds zn d xs
    exact ⟨lv, h, (zsw_10 zn d xs q10).trans r, b1, b2⟩
  by_cases q11 : x.toInt = 11
  · obtain ⟨lv, h, r, b1, b2⟩ := zop_send zn d xs
    exact ⟨lv, h, (zsw_11 zn d xs q11).trans r, b1, b2⟩
  by_cases q12 : x.toInt = 12
  · obtain ⟨lv, h, r, b1, b2⟩ := zop_blind zn d xs
    exact ⟨lv, h, (zsw_12 zn d xs q12).trans r, b1, b2⟩
  by_cases q13 : x.toInt = 13
  · obtain ⟨lv, h, r, b1, b2⟩ := zop_hang zn d xs
    exact ⟨lv, h, (zsw_13 zn d xs q13).trans r, b1, b2⟩
  by_cases q14 : x.toInt = 14
  · obtain ⟨lv, h, r, b1, b2⟩ := zop_face zn d xs
    exact ⟨lv, h, (zsw_14 zn d xs q14).trans r, b1, b2⟩
  by_cases q15 : x.toInt = 15
  · obtain ⟨lv, h, r, b1, b2⟩ := zop_wind zn d xs
    exact ⟨lv, h, (zsw_15 zn d xs q15).trans r, b1, b2⟩
  by_cases q16 : x.toInt = 16
  · obtain ⟨lv, h, r, b1, b2⟩ := zop_paint zn d xs
    exact ⟨lv, h, (zsw_16 zn d xs q16).trans r, b1, b2⟩
  by_cases q17 : x.toInt = 17
  · obtain ⟨lv, h, r, b1, b2⟩ := zop_undo zn d xs
    exact ⟨lv, h, (zsw_17 zn d xs q17).trans r, b1, b2⟩
  by_cases q18 : x.toInt = 18
  · obtain ⟨lv, h, r, b1, b2⟩ := zop_log zn d xs
    exact ⟨lv, h, (zsw_18 zn d xs q18).trans r, b1, b2⟩
  by_cases q19 : x.toInt = 19
  · obtain ⟨lv, h, r, b1, b2⟩ := zop_ahead zn d xs
    exact ⟨lv, h, (zsw_19 zn d xs q19).trans r, b1, b2⟩
  by_cases q20 : x.toInt = 20
  · obtain ⟨lv, h, r, b1, b2⟩ := zop_starves zn d xs
    exact ⟨lv, h, (zsw_20 zn d xs q20).trans r, b1, b2⟩
  by_cases q21 : x.toInt = 21
  · obtain ⟨lv, h, r, b1, b2⟩ := zop_wild zn d xs
    exact ⟨lv, h, (zsw_21 zn d xs q21).trans r, b1, b2⟩
  by_cases q22 : x.toInt = 22
  · obtain ⟨lv, h, r, b1, b2⟩ := zop_full zn d xs
    exact ⟨lv, h, (zsw_22 zn d xs q22).trans r, b1, b2⟩
  by_cases q23 : x.toInt = 23
  · obtain ⟨lv, h, r, b1, b2⟩ := zop_kinds zn d xs
    exact ⟨lv, h, (zsw_23 zn d xs q23).trans r, b1, b2⟩
  by_cases q24 : x.toInt = 24
  · obtain ⟨lv, h, r, b1, b2⟩ := zop_rota zn d xs
    exact ⟨lv, h, (zsw_24 zn d xs q24).trans r, b1, b2⟩
  by_cases q25 : x.toInt = 25
  · obtain ⟨lv, h, r, b1, b2⟩ := zop_fewest zn d xs
    exact ⟨lv, h, (zsw_25 zn d xs q25).trans r, b1, b2⟩
  by_cases q26 : x.toInt = 26
  · obtain ⟨lv, h, r, b1, b2⟩ := zop_best zn d xs
    exact ⟨lv, h, (zsw_26 zn d xs q26).trans r, b1, b2⟩
  by_cases q27 : x.toInt = 27
  · obtain ⟨lv, h, r, b1, b2⟩ := zop_shows zn d xs
    exact ⟨lv, h, (zsw_27 zn d xs q27).trans r, b1, b2⟩
  by_cases q28 : x.toInt = 28
  · obtain ⟨lv, h, r, b1, b2⟩ := zop_near zn d xs
    exact ⟨lv, h, (zsw_28 zn d xs q28).trans r, b1, b2⟩
  by_cases q29 : x.toInt = 29
  · obtain ⟨lv, h, r, b1, b2⟩ := zop_middle zn d xs
    exact ⟨lv, h, (zsw_29 zn d xs q29).trans r, b1, b2⟩
  by_cases q30 : x.toInt = 30
  · obtain ⟨lv, h, r, b1, b2⟩ := zop_ring zn d xs
    exact ⟨lv, h, (zsw_30 zn d xs q30).trans r, b1, b2⟩
  by_cases q31 : x.toInt = 31
  · obtain ⟨lv, h, r, b1, b2⟩ := zop_still zn d xs
    exact ⟨lv, h, (zsw_31 zn d xs q31).trans r, b1, b2⟩
  by_cases q32 : x.toInt = 32
  · obtain ⟨lv, h, r, b1, b2⟩ := zop_deaths zn d xs
    exact ⟨lv, h, (zsw_32 zn d xs q32).trans r, b1, b2⟩
  by_cases q33 : x.toInt = 33
  · obtain ⟨lv, h, r, b1, b2⟩ := zop_hear zn d xs
    exact ⟨lv, h, (zsw_33 zn d xs q33).trans r, b1, b2⟩
  by_cases q34 : x.toInt = 34
  · obtain ⟨lv, h, r, b1, b2⟩ := zop_thief zn d xs
    exact ⟨lv, h, (zsw_34 zn d xs q34).trans r, b1, b2⟩
  by_cases q35 : x.toInt = 35
  · obtain ⟨lv, h, r, b1, b2⟩ := zop_lures zn d xs
    exact ⟨lv, h, (zsw_35 zn d xs q35).trans r, b1, b2⟩
  by_cases q36 : x.toInt = 36
  · obtain ⟨lv, h, r, b1, b2⟩ := zop_later zn d xs
    exact ⟨lv, h, (zsw_36 zn d xs q36).trans r, b1, b2⟩
  by_cases q37 : x.toInt = 37
  · obtain ⟨lv, h, r, b1, b2⟩ := zop_spared zn d xs
    exact ⟨lv, h, (zsw_37 zn d xs q37).trans r, b1, b2⟩
  by_cases q38 : x.toInt = 38
  · obtain ⟨lv, h, r, b1, b2⟩ := zop_seen zn d xs
    exact ⟨lv, h, (zsw_38 zn d xs q38).trans r, b1, b2⟩
  by_cases q39 : x.toInt = 39
  · obtain ⟨lv, h, r, b1, b2⟩ := zop_looks zn d xs
    exact ⟨lv, h, (zsw_39 zn d xs q39).trans r, b1, b2⟩
  by_cases q40 : x.toInt = 40
  · obtain ⟨lv, h, r, b1, b2⟩ := zop_child zn d xs
    exact ⟨lv, h, (zsw_40 zn d xs q40).trans r, b1, b2⟩
  by_cases q41 : x.toInt = 41
  · obtain ⟨lv, h, r, b1, b2⟩ := zop_image zn d xs
    exact ⟨lv, h, (zsw_41 zn d xs q41).trans r, b1, b2⟩
  by_cases q42 : x.toInt = 42
  · obtain ⟨lv, h, r, b1, b2⟩ := zop_back zn d xs
    exact ⟨lv, h, (zsw_42 zn d xs q42).trans r, b1, b2⟩
  by_cases q43 : x.toInt = 43
  · obtain ⟨lv, h, r, b1, b2⟩ := zop_count zn d xs
    exact ⟨lv, h, (zsw_43 zn d xs q43).trans r, b1, b2⟩
  obtain ⟨lv, h, r, b1, b2⟩ := zop_none zn d xs
  exact ⟨lv, h, (zsw_no zn d xs (by omega)).trans r, b1, b2⟩
theorem z6s : ∀ L : Nat, L < 6 → Int32.ofNat L - (Int8.ofInt 6).toInt32 < Int32.ofInt 0 := by decide +kernel
set_option maxRecDepth 100000 in
set_option maxHeartbeats 4000000 in
theorem zl_short (zn : Bool) (d : Nat) (xs : Nat → Int32) {L : Nat} (hL : L < 6) : z_reach (z_sem zn (d + 10)) (some (L, xs), zn) (200, 40000) 1 (0, z_args 7 [.ref (z_RO + 300)], [], zh0) (1722, [some (.ref (z_RO + 300)), some (.ref 0), some (.ref 79), some (.ref 106), some (.int (Int32.ofInt 0)), none, none], [.int (Int32.ofInt 1)], zh40) := by
  refine ⟨[zo, zo, zc (none) zh35, zo, zo, zo, zc (none) zh38, zo, zo, zo, zo, zo, zo, zo, zo, zo, zo, zo, zt, zo], _, rfl, ?_⟩
  exact ⟨⟨(Nat.le_of_ble_eq_true rfl), (Nat.le_of_ble_eq_true rfl)⟩, trivial, ⟨⟨(Nat.le_of_ble_eq_true rfl), rfl⟩, zq36 zn (d + 7), (Nat.le_of_ble_eq_true rfl), (Nat.le_of_ble_eq_true rfl), (Nat.le_of_ble_eq_true rfl), (Nat.le_of_ble_eq_true rfl), (Nat.le_of_ble_eq_true rfl)⟩, trivial, ⟨(Nat.le_of_ble_eq_true rfl), (Nat.le_of_ble_eq_true rfl)⟩, trivial, ⟨⟨(Nat.le_of_ble_eq_true rfl), rfl⟩, zq39 zn (d + 9), (Nat.le_of_ble_eq_true rfl), (Nat.le_of_ble_eq_true rfl), (Nat.le_of_ble_eq_true rfl), (Nat.le_of_ble_eq_true rfl), (Nat.le_of_ble_eq_true rfl)⟩, trivial, trivial, ⟨(by decide +kernel), (Nat.le_of_ble_eq_true rfl), (Nat.le_of_ble_eq_true rfl)⟩, trivial, trivial, trivial, trivial, trivial, trivial, trivial, trivial, zbt (z6s L hL), trivial, trivial⟩
