/-! floats -/
theorem d_ok {x y : Int} (hy : InR y) (h : y ≠ 0) : okD (fddiv (fi2d x) (fi2d y)) := by
  sorry
theorem f_ok {x y : Int} (hy : InR y) (h : y ≠ 0) : okF (ffdiv (fi2f x) (fi2f y)) := by
  sorry
theorem f2_ok {v : Int} (h : okF v) : okD (ff2d v) := by
  sorry
theorem cmp_self {v : Int} (h : okD v) : fdcmp v v .l = 0 := by
  sorry
theorem f_0 : okF 0 := by
  sorry
