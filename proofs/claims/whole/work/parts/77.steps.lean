/-! single steps on both sides -/
section STEPS
variable {E E' : Nat → Int → Int} {C : Int} {s s' : Int → Int} {K P c N : Int}
theorem hr_congr (R : HR E C K s) (h : s' = s) : HR E C K s' := by rw [h]; exact R
theorem hr_tir {e z : Int} (R : HR E C K s) (he : 0 ≤ e ∧ e < 48) : HR (dst E 3 e z) C K (ups s (37 + e) z) := by
  have ne : ∀ i, i ≠ 37 + e → ups s (37 + e) z i = s i := fun i h => ups_ne h
  obtain ⟨r0, ⟨a1, a2, a3, a4, a5, a6, a7, a8⟩, rq, rs, re, rf⟩ := R
  refine ⟨r0, ⟨a1.of rfl (fun i _ _ => ne i (by omega)), a2.of rfl (fun i _ _ => ne i (by omega)), fun i h1 h2 => ?_, a4.of rfl (fun i _ _ => ne i (by omega)), a5.of rfl (fun i _ _ => ne i (by omega)), a6.of rfl (fun i _ _ => ne i (by omega)), a7.of rfl (fun i _ _ => ne i (by omega)), a8.of rfl (fun i _ _ => ne i (by omega))⟩, ?_, ?_, re.of rfl (fun i _ _ => ne i (by omega)) (ne 2 (by omega)), ?_⟩
  · by_cases q : i = e
    · rw [q, dst_eq, ups_eq]
    · rw [dst_ne q, ne _ (by omega)]; exact a3 i h1 h2
  · intro p i w h1 h2 h3 h4 h5 h6
    rw [ne _ (by omega)] at h4
    show E 8 _ = ups s (37 + e) z (121 + 5 * (13 * p + i) + w)
    rw [ne _ (by omega)]
    exact rq p i w h1 h2 h3 h4 h5 h6
  · intro p i h1 h2 h3 h4
    rw [ne _ (by omega)] at h4
    have g : ∀ w, 0 ≤ w → sv (ups s (37 + e) z) p i w = sv s p i w := fun w _ => ne _ (by omega)
    rw [g 0 (by omega), g 1 (by omega), g 2 (by omega), g 3 (by omega), g 4 (by omega), g 5 (by omega)]
    exact rs p i h1 h2 h3 h4
  · unfold HRf
    rw [ne 2 (by omega), ne 0 (by omega), ne 1 (by omega), ne 3 (by omega), ne (-1) (by omega), ne (-2) (by omega)]
    exact rf
theorem hr_msk {p z : Int} (R : HR E C K s) (he : 0 ≤ p ∧ p < 6) : HR (dst E 4 p z) C K (ups s (85 + p) z) := by
  have ne : ∀ i, i ≠ 85 + p → ups s (85 + p) z i = s i := fun i h => ups_ne h
  obtain ⟨r0, ⟨a1, a2, a3, a4, a5, a6, a7, a8⟩, rq, rs, re, rf⟩ := R
  refine ⟨r0, ⟨a1.of rfl (fun i _ _ => ne i (by omega)), a2.of rfl (fun i _ _ => ne i (by omega)), a3.of rfl (fun i _ _ => ne i (by omega)), fun i h1 h2 => ?_, a5.of rfl (fun i _ _ => ne i (by omega)), a6.of rfl (fun i _ _ => ne i (by omega)), a7.of rfl (fun i _ _ => ne i (by omega)), a8.of rfl (fun i _ _ => ne i (by omega))⟩, ?_, ?_, re.of rfl (fun i _ _ => ne i (by omega)) (ne 2 (by omega)), ?_⟩
  · by_cases q : i = p
    · rw [q, dst_eq, ups_eq]
    · rw [dst_ne q, ne _ (by omega)]; exact a4 i h1 h2
  · intro p i w h1 h2 h3 h4 h5 h6
    rw [ne _ (by omega)] at h4
    show E 8 _ = ups s _ z (121 + 5 * (13 * p + i) + w)
    rw [ne _ (by omega)]
    exact rq p i w h1 h2 h3 h4 h5 h6
  · intro p i h1 h2 h3 h4
    rw [ne _ (by omega)] at h4
    have g : ∀ w, 0 ≤ w → sv (ups s _ z) p i w = sv s p i w := fun w _ => ne _ (by omega)
    rw [g 0 (by omega), g 1 (by omega), g 2 (by omega), g 3 (by omega), g 4 (by omega), g 5 (by omega)]
    exact rs p i h1 h2 h3 h4
  · unfold HRf
    rw [ne 2 (by omega), ne 0 (by omega), ne 1 (by omega), ne 3 (by omega), ne (-1) (by omega), ne (-2) (by omega)]
    exact rf
theorem hr_num {k w z : Int} (R : HR E C K s) (hk : 0 ≤ k ∧ k < 8) (hw : 0 ≤ w ∧ w < 3) : HR (dst E 2 (k * 3 + w) z) C K (ups s (13 + 3 * k + w) z) := by
  have ne : ∀ i, i ≠ 13 + 3 * k + w → ups s (13 + 3 * k + w) z i = s i := fun i h => ups_ne h
  obtain ⟨r0, ⟨a1, a2, a3, a4, a5, a6, a7, a8⟩, rq, rs, re, rf⟩ := R
  refine ⟨r0, ⟨a1.of rfl (fun i _ _ => ne i (by omega)), fun i h1 h2 h3 => ?_, a3.of rfl (fun i _ _ => ne i (by omega)), a4.of rfl (fun i _ _ => ne i (by omega)), a5.of rfl (fun i _ _ => ne i (by omega)), a6.of rfl (fun i _ _ => ne i (by omega)), a7.of rfl (fun i _ _ => ne i (by omega)), a8.of rfl (fun i _ _ => ne i (by omega))⟩, ?_, ?_, re.of rfl (fun i _ _ => ne i (by omega)) (ne 2 (by omega)), ?_⟩
  · by_cases q : i = k * 3 + w
    · rw [q, dst_eq, show 13 + (k * 3 + w) = 13 + 3 * k + w by omega, ups_eq]
    · rw [dst_ne q, ne _ (by omega)]; exact a2 i h1 h2 h3
  · intro p i w h1 h2 h3 h4 h5 h6
    rw [ne _ (by omega)] at h4
    show E 8 _ = ups s _ z (121 + 5 * (13 * p + i) + w)
    rw [ne _ (by omega)]
    exact rq p i w h1 h2 h3 h4 h5 h6
  · intro p i h1 h2 h3 h4
    rw [ne _ (by omega)] at h4
    have g : ∀ w, 0 ≤ w → sv (ups s _ z) p i w = sv s p i w := fun w _ => ne _ (by omega)
    rw [g 0 (by omega), g 1 (by omega), g 2 (by omega), g 3 (by omega), g 4 (by omega), g 5 (by omega)]
    exact rs p i h1 h2 h3 h4
  · unfold HRf
    rw [ne 2 (by omega), ne 0 (by omega), ne 1 (by omega), ne 3 (by omega), ne (-1) (by omega), ne (-2) (by omega)]
    exact rf
theorem hr_put {w z : Int} (R : HR E C K s) (hw : 0 ≤ w ∧ w < 3) : HR (dst E 1 w z) C K (ups s (10 + w) z) := by
  have ne : ∀ i, i ≠ 10 + w → ups s (10 + w) z i = s i := fun i h => ups_ne h
  obtain ⟨⟨b1, b2, b3⟩, ⟨a1, a2, a3, a4, a5, a6, a7, a8⟩, rq, rs, re, rf⟩ := R
  refine ⟨⟨b1, b2, by rw [dst_ne (by omega)]; exact b3⟩, ⟨fun i h1 h2 => ?_, a2.of rfl (fun i _ _ => ne i (by omega)), a3.of rfl (fun i _ _ => ne i (by omega)), a4.of rfl (fun i _ _ => ne i (by omega)), a5.of rfl (fun i _ _ => ne i (by omega)), a6.of rfl (fun i _ _ => ne i (by omega)), a7.of rfl (fun i _ _ => ne i (by omega)), a8.of rfl (fun i _ _ => ne i (by omega))⟩, ?_, ?_, re.of rfl (fun i _ _ => ne i (by omega)) (ne 2 (by omega)), ?_⟩
  · by_cases q : i = w
    · rw [q, dst_eq, ups_eq]
    · rw [dst_ne q, ne _ (by omega)]; exact a1 i h1 h2
  · intro p i w h1 h2 h3 h4 h5 h6
    rw [ne _ (by omega)] at h4
    show E 8 _ = ups s _ z (121 + 5 * (13 * p + i) + w)
    rw [ne _ (by omega)]
    exact rq p i w h1 h2 h3 h4 h5 h6
  · intro p i h1 h2 h3 h4
    rw [ne _ (by omega)] at h4
    have g : ∀ w, 0 ≤ w → sv (ups s _ z) p i w = sv s p i w := fun w _ => ne _ (by omega)
    rw [g 0 (by omega), g 1 (by omega), g 2 (by omega), g 3 (by omega), g 4 (by omega), g 5 (by omega)]
    exact rs p i h1 h2 h3 h4
  · unfold HRf
    rw [ne 2 (by omega), ne 0 (by omega), ne 1 (by omega), ne 3 (by omega), ne (-1) (by omega), ne (-2) (by omega)]
    exact rf
theorem hr_time (R : HR E C K s) : HR (dst E 0 10 (E 0 10 + 1)) C K (ups s 0 (s 0 + 1)) := by
  have ne : ∀ i, i ≠ 0 → ups s 0 (s 0 + 1) i = s i := fun i h => ups_ne h
  obtain ⟨r0, ⟨a1, a2, a3, a4, a5, a6, a7, a8⟩, rq, rs, re, rf⟩ := R
  refine ⟨r0, ⟨a1.of rfl (fun i _ _ => ne i (by omega)), a2.of rfl (fun i _ _ => ne i (by omega)), a3.of rfl (fun i _ _ => ne i (by omega)), a4.of rfl (fun i _ _ => ne i (by omega)), a5.of rfl (fun i _ _ => ne i (by omega)), a6.of rfl (fun i _ _ => ne i (by omega)), a7.of rfl (fun i _ _ => ne i (by omega)), a8.of rfl (fun i _ _ => ne i (by omega))⟩, ?_, ?_, re.of rfl (fun i _ _ => ne i (by omega)) (ne 2 (by omega)), ?_⟩
  · intro p i w h1 h2 h3 h4 h5 h6
    rw [ne _ (by omega)] at h4
    show E 8 _ = ups s _ _ (121 + 5 * (13 * p + i) + w)
    rw [ne _ (by omega)]
    exact rq p i w h1 h2 h3 h4 h5 h6
  · intro p i h1 h2 h3 h4
    rw [ne _ (by omega)] at h4
    have g : ∀ w, 0 ≤ w → sv (ups s 0 (s 0 + 1)) p i w = sv s p i w := fun w _ => ne _ (by omega)
    rw [g 0 (by omega), g 1 (by omega), g 2 (by omega), g 3 (by omega), g 4 (by omega), g 5 (by omega)]
    exact rs p i h1 h2 h3 h4
  · obtain ⟨f1, f2, f3, f4, f5, f6⟩ := rf
    unfold HRf
    rw [ne 2 (by omega), ne 1 (by omega), ne 3 (by omega), ne (-1) (by omega), ne (-2) (by omega), ups_eq, dst_eq, dst_ne (by decide), dst_ne (by decide), dst_ne (by decide), dst_ne (by decide), dst_ne (by decide), f2]
    exact ⟨f1, rfl, f3, f4, f5, f6⟩
theorem hr_lft {p j z : Int} (R : HR E C K s) (hc : ∀ q, 0 ≤ q → q < 6 → s (115 + q) ≤ 13) (I : ∀ q, 0 ≤ q → q < 6 → s (511 + q) ≤ 4) (hp : 0 ≤ p ∧ p < 6) (hj : 0 ≤ j ∧ j < 4) : HR (dst E 11 ((p * 4 + j) * 7 + 6) z) C K (ups s (517 + 6 * (4 * p + j) + 3) z) := by
  have ne : ∀ i, i ≠ 517 + 6 * (4 * p + j) + 3 → ups s (517 + 6 * (4 * p + j) + 3) z i = s i := fun i h => ups_ne h
  obtain ⟨r0, ⟨a1, a2, a3, a4, a5, a6, a7, a8⟩, rq, rs, re, rf⟩ := R
  refine ⟨r0, ⟨a1.of rfl (fun i _ _ => ne i (by omega)), a2.of rfl (fun i _ _ => ne i (by omega)), a3.of rfl (fun i _ _ => ne i (by omega)), a4.of rfl (fun i _ _ => ne i (by omega)), a5.of rfl (fun i _ _ => ne i (by omega)), a6.of rfl (fun i _ _ => ne i (by omega)), a7.of rfl (fun i _ _ => ne i (by omega)), a8.of rfl (fun i _ _ => ne i (by omega))⟩, ?_, fun q i h1 h2 h3 h4 => ?_, re.of rfl (fun i _ _ => ne i (by omega)) (ne 2 (by omega)), ?_⟩
  · exact rq.of rfl (fun i _ _ => ne i (by omega)) hc
  · rw [ne _ (by omega)] at h4
    have h9 := I q h1 h2
    obtain ⟨g0, g1, g3, g4, g5, g6⟩ := rs q i h1 h2 h3 h4
    have n0 : sv (ups s (517 + 6 * (4 * p + j) + 3) z) q i 0 = sv s q i 0 := ne _ (by omega)
    have n1 : sv (ups s (517 + 6 * (4 * p + j) + 3) z) q i 1 = sv s q i 1 := ne _ (by omega)
    have n2 : sv (ups s (517 + 6 * (4 * p + j) + 3) z) q i 2 = sv s q i 2 := ne _ (by omega)
    have n4 : sv (ups s (517 + 6 * (4 * p + j) + 3) z) q i 4 = sv s q i 4 := ne _ (by omega)
    have n5 : sv (ups s (517 + 6 * (4 * p + j) + 3) z) q i 5 = sv s q i 5 := ne _ (by omega)
    rw [n0, n1, n2, n4, n5, dst_ne (by omega), dst_ne (by omega), dst_ne (by omega), dst_ne (by omega), dst_ne (by omega)]
    refine ⟨g0, g1, g3, g4, g5, ?_⟩
    by_cases h : q = p ∧ i = j
    · rw [h.1, h.2, dst_eq]
      exact (ups_eq _ _ _).symm
    · rw [dst_ne (by omega), g6]
      exact (ne _ (by omega)).symm
  · unfold HRf
    rw [ne 2 (by omega), ne 0 (by omega), ne 1 (by omega), ne 3 (by omega), ne (-1) (by omega), ne (-2) (by omega)]
    exact rf
end STEPS
