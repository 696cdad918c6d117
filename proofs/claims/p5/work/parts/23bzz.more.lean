/-! small numbers -/
theorem zne_1 {a p q x y : Int} (h0 : 0 ≤ a) (h1 : a ≤ p) (h2 : p ≤ q) (h3 : q + 1 ≤ x) (h4 : y = x) : y ≠ -1 := by omega
