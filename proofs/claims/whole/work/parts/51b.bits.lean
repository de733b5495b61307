/-! bit operations are in range -/
theorem toInt_InR (x : Int32) : InR x.toInt := ⟨x.minValue_le_toInt, by have := x.toInt_le; exact this⟩
theorem band_InR (x y : Int) : InR (band x y) := toInt_InR _
theorem bor_InR (x y : Int) : InR (bor x y) := toInt_InR _
theorem bxor_InR (x y : Int) : InR (bxor x y) := toInt_InR _
theorem bshl_InR (x y : Int) : InR (bshl x y) := toInt_InR _
theorem bshr_InR (x y : Int) : InR (bshr x y) := toInt_InR _
theorem tm40 {x : Int} (h : 0 ≤ x) : 0 ≤ Int.tmod x 40 ∧ Int.tmod x 40 < 40 := by
  rw [Int.tmod_eq_emod_of_nonneg h]; omega
theorem tmN {x y : Int} (h : 0 ≤ x) (hy : 0 < y) : 0 ≤ Int.tmod x y ∧ Int.tmod x y < y := by
  rw [Int.tmod_eq_emod_of_nonneg h]
  exact ⟨Int.emod_nonneg _ (by omega), Int.emod_lt_of_pos _ hy⟩
