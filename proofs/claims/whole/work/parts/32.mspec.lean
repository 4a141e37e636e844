/-! SPEC of the reference's own small functions -/
def mIn (x u v : Int) : Bool := decide (u ≤ x) && decide (x ≤ v)
theorem mIn_t {x u v : Int} (h : mIn x u v = true) : u ≤ x ∧ x ≤ v := by simpa [mIn] using h
theorem mIn_f {x u v : Int} (h : mIn x u v = false) : x < u ∨ v < x := by simp [mIn] at h; omega
theorem mIn_R (x : Int) : mIn x 0 5 = kIsR x := by
  unfold mIn kIsR
  congr 1
  exact decide_eq_decide.mpr (by omega)
