/-! small numbers -/
theorem zne_1 {a p q x y : Int} (h0 : 0 ≤ a) (h1 : a ≤ p) (h2 : p ≤ q) (h3 : q + 1 ≤ x) (h4 : y = x) : y ≠ -1 := by omega
theorem zt_b_r0m (b : Nat → Int) (n c : Int) (h0 : 0 ≤ c) (hn : n ≤ 240) (h : zpk b n (znx b n c) = 33 ∨ zpk b n (znx b n c) = 40) : (zt_body b n c).1 = (zt_rest b n (zt_co b n 6 0 (znx b n c))).1 ∧ (zt_body b n c).2 = (zt_rest b n (zt_co b n 6 0 (znx b n c))).2 := by
  rw [zt_co_nx 6 0 h0 hn]
  exact zpe (if_pos h)
