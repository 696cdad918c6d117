/-! what printed rows use -/
def zh0 : z_H := (0, 0, fun _ => .inr (0, []))
def zo : z_O := (false, 0, none, zh0, none)
def zt : z_O := (true, 0, none, zh0, none)
def zc (v : Option Value) (h : z_H) : z_O := (false, 0, v, h, none)
theorem zbt {c : Prop} (h : c) : z_b true c := h
theorem zbf {c : Prop} (h : ¬ c) : z_b false c := h
theorem zfin_i {y pc len : Nat} {f : z_I} {lv : List (Option Value)} {r : Int32} {h : z_H} {ty : FieldType} (hf : z_fetch y pc = some (.ireturn, len, f)) (hr : z_mr y = some ty) (hn : narrow ty (.int r) = .int r) : z_fin y (pc, lv, [.int r], h) (some (.int r)) h := by
  refine ⟨rfl, ?_⟩
  dsimp only
  rw [hf]
  exact ⟨rfl, ty, hr, hn⟩
theorem zfin_v {y pc len : Nat} {f : z_I} {lv : List (Option Value)} {h : z_H} (hf : z_fetch y pc = some (.return_, len, f)) (hr : z_mr y = none) : z_fin y (pc, lv, [], h) none h := by
  refine ⟨rfl, ?_⟩
  dsimp only
  rw [hf]
  exact ⟨rfl, hr⟩
/-- branches on an argument, by what is known of it as an integer -/
theorem zT_lt {u v : Int32} {p q : Int} (hu : u.toInt = p) (hv : v.toInt = q) (h : p < q) : z_b true (u < v) := Int32.lt_iff_toInt_lt.mpr (by rw [hu, hv]; exact h)
theorem zF_lt {u v : Int32} {p q : Int} (hu : u.toInt = p) (hv : v.toInt = q) (h : q ≤ p) : z_b false (u < v) := fun z => by
  have := Int32.lt_iff_toInt_lt.mp z
  rw [hu, hv] at this
  omega
theorem zT_le {u v : Int32} {p q : Int} (hu : u.toInt = p) (hv : v.toInt = q) (h : p ≤ q) : z_b true (u ≤ v) := Int32.le_iff_toInt_le.mpr (by rw [hu, hv]; exact h)
theorem zF_le {u v : Int32} {p q : Int} (hu : u.toInt = p) (hv : v.toInt = q) (h : q < p) : z_b false (u ≤ v) := fun z => by
  have := Int32.le_iff_toInt_le.mp z
  rw [hu, hv] at this
  omega
theorem zT_eq {u v : Int32} {p q : Int} (hu : u.toInt = p) (hv : v.toInt = q) (h : p = q) : z_b true (u = v) := Int32.toInt_inj.mp (by rw [hu, hv]; exact h)
theorem zF_eq {u v : Int32} {p q : Int} (hu : u.toInt = p) (hv : v.toInt = q) (h : p < q ∨ q < p) : z_b false (u = v) := fun z => by
  have e : u.toInt = v.toInt := congrArg Int32.toInt z
  rw [hu, hv] at e
  omega
theorem zT_ne {u v : Int32} {p q : Int} (hu : u.toInt = p) (hv : v.toInt = q) (h : p < q ∨ q < p) : z_b true (u ≠ v) := zF_eq hu hv h
theorem zF_ne {u v : Int32} {p q : Int} (hu : u.toInt = p) (hv : v.toInt = q) (h : p = q) : z_b false (u ≠ v) := fun z => z (zT_eq hu hv h)
theorem zi_64 (a : Int32) : a.toInt64.toInt = a.toInt := by simp
theorem zc_lt {x y : Int64} {p q : Int} (hx : x.toInt = p) (hy : y.toInt = q) (h : p < q) : lg_cmp x y = -1 := by
  have h1 : ¬ y < x := fun z => by
    have := Int64.lt_iff_toInt_lt.mp z
    omega
  have h2 : ¬ x = y := fun z => by
    subst z
    omega
  simp [lg_cmp, h1, h2]
theorem zc_eq {x y : Int64} {p q : Int} (hx : x.toInt = p) (hy : y.toInt = q) (h : p = q) : lg_cmp x y = 0 := by
  have h2 : x = y := Int64.toInt_inj.mp (by omega)
  subst h2
  simp [lg_cmp]
theorem zc_gt {x y : Int64} {p q : Int} (hx : x.toInt = p) (hy : y.toInt = q) (h : q < p) : lg_cmp x y = 1 := by
  have h1 : y < x := Int64.lt_iff_toInt_lt.mpr (by omega)
  simp [lg_cmp, h1]
