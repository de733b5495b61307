/-! numbers: ints as Int, looked at in range -/
abbrev oI (x : Int) : Int32 := Int32.ofInt x
theorem oI_toInt {x : Int} (h : InR x) : (oI x).toInt = x := by
  rw [Int32.toInt_ofInt, show Int32.size = 4294967296 from rfl]
  exact Int.bmod_eq_of_le (by omega) (by omega)
theorem oI_eq {x y : Int} (hx : InR x) (hy : InR y) : oI x = oI y ↔ x = y := ⟨fun h => by rw [← oI_toInt hx, ← oI_toInt hy, h], fun h => by rw [h]⟩
theorem oI_le {x y : Int} (hx : InR x) (hy : InR y) : oI x ≤ oI y ↔ x ≤ y := by rw [Int32.le_iff_toInt_le, oI_toInt hx, oI_toInt hy]
theorem oI_lt {x y : Int} (hx : InR x) (hy : InR y) : oI x < oI y ↔ x < y := by rw [Int32.lt_iff_toInt_lt, oI_toInt hx, oI_toInt hy]
theorem oI_0 : oI 0 = 0 := rfl
theorem oI_clamp {x : Int} (h0 : 0 ≤ x) (h : x ≤ 2147483647) : (oI x).toNatClampNeg = x.toNat := by
  show (oI x).toInt.toNat = _
  rw [oI_toInt ⟨by omega, h⟩]
theorem oI_add (x y : Int) : oI (x + y) = oI x + oI y := Int32.ofInt_add ..
theorem oI_sub (x y : Int) : oI (x - y) = oI x - oI y := Int32.ofInt_sub ..
theorem oI_mul (x y : Int) : oI (x * y) = oI x * oI y := Int32.ofInt_mul ..
theorem oI_of (x : Int32) : oI x.toInt = x := Int32.ofInt_toInt x
theorem oI_bmod (x : Int) : oI (x.bmod (2 ^ 32)) = oI x := by
  apply Int32.toInt_inj.mp
  rw [Int32.toInt_ofInt, Int32.toInt_ofInt]
  exact Int.bmod_bmod
theorem oI_div {x y : Int} (hx : InR x) (hy : InR y) : oI (x.tdiv y) = oI x / oI y := by
  rw [← oI_of (oI x / oI y), Int32.toInt_div, oI_toInt hx, oI_toInt hy, oI_bmod]
theorem oI_rem {x y : Int} (hx : InR x) (hy : InR y) : oI (x.tmod y) = oI x - oI x / oI y * oI y := by
  rw [← oI_div hx hy, ← oI_mul, ← oI_sub]
  congr 1
  have := Int.tmod_add_tdiv_mul x y
  omega
theorem oI_in {x : Int} {n : Nat} (h : 0 ≤ x ∧ x < n) (hn : n < 2 ^ 31) : ¬ (oI x < 0 ∨ n ≤ (oI x).toNatClampNeg) := by
  rw [oI_clamp h.1 (by omega), show (0 : Int32) = oI 0 from rfl, oI_lt ⟨by omega, by omega⟩ ⟨by omega, by omega⟩]
  omega
theorem oL_toInt {x : Int} (h : InL x) : (Int64.ofInt x).toInt = x := by
  rw [Int64.toInt_ofInt, show Int64.size = 18446744073709551616 from rfl]
  exact Int.bmod_eq_of_le (by omega) (by omega)
theorem oL_eq {x y : Int} (hx : InL x) (hy : InL y) : Int64.ofInt x = Int64.ofInt y ↔ x = y := ⟨fun h => by rw [← oL_toInt hx, ← oL_toInt hy, h], fun h => by rw [h]⟩
theorem oL_lt {x y : Int} (hx : InL x) (hy : InL y) : Int64.ofInt x < Int64.ofInt y ↔ x < y := by rw [Int64.lt_iff_toInt_lt, oL_toInt hx, oL_toInt hy]
theorem oI_long {x : Int} (h : InR x) : (oI x).toInt64 = Int64.ofInt x := by
  apply Int64.toInt_inj.mp
  rw [Int32.toInt_toInt64, oI_toInt h, oL_toInt ⟨by omega, by omega⟩]
theorem f32_of (x : UInt32) : f32 ((x.toNat : Nat) : Int) = x := by
  show UInt32.ofNat (((x.toNat : Nat) : Int).toNat) = x
  rw [Int.toNat_natCast]
  exact UInt32.ofNat_toNat
theorem f64_of (x : UInt64) : f64 ((x.toNat : Nat) : Int) = x := by
  show UInt64.ofNat (((x.toNat : Nat) : Int).toNat) = x
  rw [Int.toNat_natCast]
  exact UInt64.ofNat_toNat
theorem oI_i8 {x : Int} (h : -128 ≤ x ∧ x ≤ 127) : (Int8.ofInt x).toInt32 = oI x := by
  apply Int32.toInt_inj.mp
  rw [Int8.toInt_toInt32, oI_toInt ⟨by omega, by omega⟩, Int8.toInt_ofInt, show Int8.size = 256 from rfl]
  exact Int.bmod_eq_of_le (by omega) (by omega)
theorem oI_i16 {x : Int} (h : -32768 ≤ x ∧ x ≤ 32767) : (Int16.ofInt x).toInt32 = oI x := by
  apply Int32.toInt_inj.mp
  rw [Int16.toInt_toInt32, oI_toInt ⟨by omega, by omega⟩, Int16.toInt_ofInt, show Int16.size = 65536 from rfl]
  exact Int.bmod_eq_of_le (by omega) (by omega)
theorem oI_eq0 {x : Int} (h : InR x) : oI x = 0 ↔ x = 0 := oI_eq h (y := 0) (by omega)
theorem oI_lt0 {x : Int} (h : InR x) : oI x < 0 ↔ x < 0 := oI_lt h (y := 0) (by omega)
theorem oI_le0 {x : Int} (h : InR x) : oI x ≤ 0 ↔ x ≤ 0 := oI_le h (y := 0) (by omega)
theorem oI_0lt {x : Int} (h : InR x) : 0 < oI x ↔ 0 < x := oI_lt (x := 0) (by omega) h
theorem oI_0le {x : Int} (h : InR x) : 0 ≤ oI x ↔ 0 ≤ x := oI_le (x := 0) (by omega) h
theorem sz32 (n : Nat) : n.toInt32 = oI (n : Int) := (Int32.ofInt_eq_ofNat ..).symm
