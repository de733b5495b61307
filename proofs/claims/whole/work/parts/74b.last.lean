/-! the last in the order, one place more -/
section LIO
variable {s : Int → Int} {p i f gr : Int}
theorem lio_new (h : i = 0 ∧ gr = 999 ∨ ((0 ≤ f ∧ f < i) ∧ gr = ur s p (qv s p f 1)) ∧ ∀ o, 0 ≤ o → o < i → o ≠ f → ahd s p o f = 1) (h0 : 0 ≤ i) (hu : ur s p (qv s p i 1) ≤ gr) : i + 1 = 0 ∧ ur s p (qv s p i 1) = 999 ∨ ((0 ≤ i ∧ i < i + 1) ∧ ur s p (qv s p i 1) = ur s p (qv s p i 1)) ∧ ∀ o, 0 ≤ o → o < i + 1 → o ≠ i → ahd s p o i = 1 := by
  refine Or.inr ⟨⟨⟨h0, by omega⟩, rfl⟩, fun o h1 h2 h3 => ?_⟩
  rw [ahd_iff]
  rcases h with h | h
  · omega
  · by_cases q : o = f
    · subst q
      omega
    · have := (ahd_iff o f).mp (h.2 o h1 (by omega) q)
      omega
theorem lio_old (h : i = 0 ∧ gr = 999 ∨ ((0 ≤ f ∧ f < i) ∧ gr = ur s p (qv s p f 1)) ∧ ∀ o, 0 ≤ o → o < i → o ≠ f → ahd s p o f = 1) (h0 : 0 ≤ i) (hu : gr < ur s p (qv s p i 1)) (h9 : i = 0 → ur s p (qv s p i 1) ≤ 99) : i + 1 = 0 ∧ gr = 999 ∨ ((0 ≤ f ∧ f < i + 1) ∧ gr = ur s p (qv s p f 1)) ∧ ∀ o, 0 ≤ o → o < i + 1 → o ≠ f → ahd s p o f = 1 := by
  rcases h with h | h
  · have := h9 h.1
    omega
  · refine Or.inr ⟨⟨⟨h.1.1.1, by omega⟩, h.1.2⟩, fun o h1 h2 h3 => ?_⟩
    by_cases q : o = i
    · subst q
      rw [ahd_iff]
      omega
    · exact h.2 o h1 (by omega) h3
end LIO
