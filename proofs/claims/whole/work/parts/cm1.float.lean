/-! floats -/
theorem n64_iff (x : UInt64) : vf_n64 x ↔ FP.Core.dIsNaN x = false := by
  have e : vf_n64 x ↔ x.toNat % 2 ^ 63 ≤ 9218868437227405312 := by
    unfold vf_n64
    rw [UInt64.le_iff_toNat_le, UInt64.toNat_and, show (0x7fffffffffffffff : UInt64).toNat = 2 ^ 63 - 1 by decide, show (0x7ff0000000000000 : UInt64).toNat = 9218868437227405312 by decide, Nat.and_two_pow_sub_one_eq_mod]
  rw [e, ← Bool.not_eq_true, FP.Core.isNaN_bits]
  omega
theorem n32_iff (x : UInt32) : vf_n32 x ↔ FP.Core.fIsNaN x = false := by
  have e : vf_n32 x ↔ x.toNat % 2 ^ 31 ≤ 2139095040 := by
    unfold vf_n32
    rw [UInt32.le_iff_toNat_le, UInt32.toNat_and, show (0x7fffffff : UInt32).toNat = 2 ^ 31 - 1 by decide, show (0x7f800000 : UInt32).toNat = 2139095040 by decide, Nat.and_two_pow_sub_one_eq_mod]
  rw [e, ← Bool.not_eq_true, FP.Core.isNaN_bits32]
  omega
theorem o32_ne {y : Int} (hy : InR y) (h : y ≠ 0) : Int32.ofInt y ≠ 0 := by
  intro e
  have := congrArg Int32.toInt e
  rw [show (Int32.ofInt y).toInt = y from oI_toInt hy] at this
  exact h (this.trans rfl)
theorem d_ok {x y : Int} (hy : InR y) (h : y ≠ 0) : okD (fddiv (fi2d x) (fi2d y)) := by
  unfold okD fddiv fi2d
  rw [f64_of, f64_of, f64_of, n64_iff]
  refine FP.Core.ddiv_out ?_ (FP.Core.i2d_fin _) ?_
  · rw [← Bool.not_eq_true, FP.Core.isNaN_bits]
    have := FP.Core.i2d_mag (Int32.ofInt x)
    show ¬ 9218868437227405312 < (FP.Core.i2d (Int32.ofInt x)).toNat % 2 ^ 63
    omega
  · rw [FP.Core.zero_bits2]
    exact FP.Core.i2d_ne_zero (o32_ne hy h)
theorem f_ok {x y : Int} (hy : InR y) (h : y ≠ 0) : okF (ffdiv (fi2f x) (fi2f y)) := by
  unfold okF ffdiv fi2f
  rw [f32_of, f32_of, f32_of, n32_iff]
  refine FP.Core.fdiv_out ?_ (FP.Core.i2f_fin _) ?_
  · rw [← Bool.not_eq_true, FP.Core.isNaN_bits32]
    have := FP.Core.i2f_mag (Int32.ofInt x)
    show ¬ 2139095040 < (FP.Core.i2f (Int32.ofInt x)).toNat % 2 ^ 31
    omega
  · rw [FP.Core.zero_bits232]
    exact FP.Core.i2f_ne_zero (o32_ne hy h)
theorem f2_ok {v : Int} (h : okF v) : okD (ff2d v) := by
  unfold okD ff2d
  rw [f64_of, n64_iff]
  unfold okF at h
  rw [n32_iff] at h
  exact (FP.f2d_nan (f32 v)).trans h
theorem cmp_self {v : Int} (h : okD v) : fdcmp v v .l = 0 := by
  unfold okD at h
  rw [n64_iff, FP.Core.notNaN_iff] at h
  have e : FP.dcmp (f64 v) (f64 v) = some .eq := FP.Core.dcmp_self h
  unfold fdcmp
  rw [e]
  rfl
theorem f_0 : okF 0 := by
  unfold okF
  rw [n32_iff]
  decide
