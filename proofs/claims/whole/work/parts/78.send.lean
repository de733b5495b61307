/-! the class sends, pushes and pops: against the model's row -/
def c_snd (E : Nat → Int → Int) (p k v w : Int) : Nat → Int → Int :=
  let E1 := dst E 7 p (E 7 p + 1)
  let E2 := dst E1 0 11 (E1 0 11 + 1)
  let E3 := dst E2 8 ((p * 13 + E 7 p) * 7 + 0) (E1 0 11)
  let E4 := dst E3 8 ((p * 13 + E 7 p) * 7 + 1) k
  let E5 := dst E4 8 ((p * 13 + E 7 p) * 7 + 2) w
  let E6 := dst E5 8 ((p * 13 + E 7 p) * 7 + 3) v
  let E7 := dst E6 8 ((p * 13 + E 7 p) * 7 + 4) (E6 0 10)
  let E8 := dst E7 5 (p * 4 + 0) (E7 5 (p * 4 + 0) + 1)
  if w = -1 then E8 else dst E8 5 (w * 4 + 1) (E8 5 (w * 4 + 1) + 1)
section SENDS
variable {E E' : Nat → Int → Int} {C : Int} {s s' : Int → Int} {K P c N : Int}
theorem csnd_row {p k v w : Int} {j : Nat} (h0 : j ≠ 0) (h5 : j ≠ 5) (h7 : j ≠ 7) (h8 : j ≠ 8) : c_snd E p k v w j = E j := by
  simp only [c_snd]
  split
  · rw [dst_row h5, dst_row h8, dst_row h8, dst_row h8, dst_row h8, dst_row h8, dst_row h0, dst_row h7]
  · rw [dst_row h5, dst_row h5, dst_row h8, dst_row h8, dst_row h8, dst_row h8, dst_row h8, dst_row h0, dst_row h7]
theorem csnd_0 {p k v w e : Int} : c_snd E p k v w 0 e = if e = 11 then E 0 11 + 1 else E 0 e := by
  have h : c_snd E p k v w 0 e = dst (dst E 7 p (E 7 p + 1)) 0 11 (E 0 11 + 1) 0 e := by
    simp only [c_snd]
    split <;> rfl
  rw [h]
  by_cases q : e = 11
  · rw [if_pos q, q, dst_eq]
  · rw [if_neg q, dst_ne q]; rfl
theorem csnd_7 {p k v w e : Int} : c_snd E p k v w 7 e = if e = p then E 7 p + 1 else E 7 e := by
  have h : c_snd E p k v w 7 e = dst E 7 p (E 7 p + 1) 7 e := by
    simp only [c_snd]
    split <;> rfl
  rw [h]
  by_cases q : e = p
  · rw [if_pos q, q, dst_eq]
  · rw [if_neg q, dst_ne q]
theorem csnd_8 {p k v w u : Int} (hu : 0 ≤ u ∧ u < 5) : c_snd E p k v w 8 ((p * 13 + E 7 p) * 7 + u) = if u = 0 then E 0 11 else if u = 1 then k else if u = 2 then w else if u = 3 then v else E 0 10 := by
  have e : ∀ x, c_snd E p k v w 8 x = dst (dst (dst (dst (dst (dst (dst E 7 p (E 7 p + 1)) 0 11 (E 0 11 + 1)) 8 ((p * 13 + E 7 p) * 7 + 0) (E 0 11)) 8 ((p * 13 + E 7 p) * 7 + 1) k) 8 ((p * 13 + E 7 p) * 7 + 2) w) 8 ((p * 13 + E 7 p) * 7 + 3) v) 8 ((p * 13 + E 7 p) * 7 + 4) (E 0 10) 8 x := by
    intro x
    simp only [c_snd]
    split
    · rw [dst_row (by decide)]; rfl
    · rw [dst_row (by decide), dst_row (by decide)]; rfl
  rw [e]
  have hu' : u = 0 ∨ u = 1 ∨ u = 2 ∨ u = 3 ∨ u = 4 := by omega
  rcases hu' with rfl | rfl | rfl | rfl | rfl
  · rw [dst_ne (by omega), dst_ne (by omega), dst_ne (by omega), dst_ne (by omega), dst_eq]; rfl
  · rw [dst_ne (by omega), dst_ne (by omega), dst_ne (by omega), dst_eq]; rfl
  · rw [dst_ne (by omega), dst_ne (by omega), dst_eq]; rfl
  · rw [dst_ne (by omega), dst_eq]; rfl
  · rw [dst_eq]; rfl
theorem csnd_8n {p k v w x : Int} (h : ¬ ((p * 13 + E 7 p) * 7 ≤ x ∧ x < (p * 13 + E 7 p) * 7 + 5)) : c_snd E p k v w 8 x = E 8 x := by
  simp only [c_snd]
  split
  · rw [dst_row (by decide), dst_ne (by omega), dst_ne (by omega), dst_ne (by omega), dst_ne (by omega), dst_ne (by omega)]; rfl
  · rw [dst_row (by decide), dst_row (by decide), dst_ne (by omega), dst_ne (by omega), dst_ne (by omega), dst_ne (by omega), dst_ne (by omega)]; rfl
theorem csnd_5 {p k v w e : Int} (hw : -1 ≤ w) (he : 0 ≤ e) : c_snd E p k v w 5 e = if e = p * 4 then E 5 e + 1 else if w ≠ -1 ∧ e = w * 4 + 1 then E 5 e + 1 else E 5 e := by
  have r5 : ∀ x, dst (dst (dst (dst (dst (dst (dst E 7 p (E 7 p + 1)) 0 11 (E 0 11 + 1)) 8 ((p * 13 + E 7 p) * 7 + 0) (E 0 11)) 8 ((p * 13 + E 7 p) * 7 + 1) k) 8 ((p * 13 + E 7 p) * 7 + 2) w) 8 ((p * 13 + E 7 p) * 7 + 3) v) 8 ((p * 13 + E 7 p) * 7 + 4) (E 0 10) 5 x = E 5 x := fun x => rfl
  simp only [c_snd]
  by_cases hw1 : w = -1
  · rw [if_pos hw1]
    by_cases q : e = p * 4
    · rw [if_pos q, show e = p * 4 + 0 by omega, dst_eq]; rfl
    · rw [if_neg q, if_neg (by omega), dst_ne (by omega)]; rfl
  · rw [if_neg hw1]
    by_cases q2 : e = w * 4 + 1
    · rw [if_neg (by omega), if_pos ⟨hw1, q2⟩, q2, dst_eq, dst_ne (by omega)]; rfl
    · rw [dst_ne q2]
      by_cases q : e = p * 4
      · rw [if_pos q, show e = p * 4 + 0 by omega, dst_eq]; rfl
      · rw [if_neg q, if_neg (fun h => q2 h.2), dst_ne (by omega)]; rfl
theorem snd0_pc {p k v b a e : Int} (hp : 0 ≤ p ∧ p < 6) (hb : -1 ≤ b ∧ b < 6) (ha : 121 ≤ a ∧ a ≤ 506) (he : 0 ≤ e ∧ e < 24) : e_snd0 s p k v b a (91 + e) = if e = p * 4 then s (91 + e) + 1 else if b ≠ -1 ∧ e = b * 4 + 1 then s (91 + e) + 1 else s (91 + e) := by
  simp only [e_snd0, e_cnt]
  by_cases hb1 : b = -1
  · rw [if_pos hb1]
    by_cases q : e = p * 4
    · rw [if_pos q, show 91 + e = 91 + 4 * p + 0 by omega, ups_eq]
      repeat rw [ups_ne (by omega)]
    · rw [if_neg q, if_neg (by omega)]
      repeat rw [ups_ne (by omega)]
  · rw [if_neg hb1]
    by_cases q2 : e = b * 4 + 1
    · rw [if_neg (by omega), if_pos ⟨hb1, q2⟩, show 91 + e = 91 + 4 * b + 1 by omega, ups_eq]
      repeat rw [ups_ne (by omega)]
    · rw [ups_ne (by omega)]
      by_cases q : e = p * 4
      · rw [if_pos q, show 91 + e = 91 + 4 * p + 0 by omega, ups_eq]
        repeat rw [ups_ne (by omega)]
      · rw [if_neg q, if_neg (fun h => q2 h.2)]
        repeat rw [ups_ne (by omega)]
theorem snd0_HR {p k v w : Int} (R : HR E C K s) (I : HI K P c N s) (hp : 0 ≤ p ∧ p < 6) (hw : -1 ≤ w ∧ w < 6) (hs : s (115 + p) ≤ 12) : HR (c_snd E p k v w) C K (e_snd0 s p k v w (121 + 5 * (13 * p + s (115 + p)))) := by
  have hs0 := I.qn hp
  have hc13 := I.hq.1
  have ha : 121 ≤ 121 + 5 * (13 * p + s (115 + p)) ∧ 121 + 5 * (13 * p + s (115 + p)) ≤ 506 := by omega
  have ne : ∀ e, e ≠ 1 → e ≠ 115 + p → ¬ (91 ≤ e ∧ e < 115) → ¬ (121 ≤ e ∧ e < 511) → e_snd0 s p k v w (121 + 5 * (13 * p + s (115 + p))) e = s e := fun e a1 a2 a3 a4 => snd0_ne hp hw ha a1 a2 a3 (by omega)
  have row : ∀ j, j ≠ 0 → j ≠ 5 → j ≠ 7 → j ≠ 8 → c_snd E p k v w j = E j := fun j a b c d => csnd_row a b c d
  obtain ⟨⟨b1, b2, b3⟩, ⟨a1, a2, a3, a4, a5, a6, a7, a8⟩, rq, rs, re, ⟨f1, f2, f3, f4, f5, f6⟩⟩ := id R
  refine ⟨⟨?_, ?_, ?_⟩, ⟨a1.of (row 1 (by decide) (by decide) (by decide) (by decide)) (fun i _ _ => ne i (by omega) (by omega) (by omega) (by omega)), a2.of (row 2 (by decide) (by decide) (by decide) (by decide)) (fun i _ _ => ne i (by omega) (by omega) (by omega) (by omega)), a3.of (row 3 (by decide) (by decide) (by decide) (by decide)) (fun i _ _ => ne i (by omega) (by omega) (by omega) (by omega)), a4.of (row 4 (by decide) (by decide) (by decide) (by decide)) (fun i _ _ => ne i (by omega) (by omega) (by omega) (by omega)), fun e h1 h2 => ?_, fun e h1 h2 => ?_, a7.of (row 10 (by decide) (by decide) (by decide) (by decide)) (fun i _ _ => ne i (by omega) (by omega) (by omega) (by omega)), a8.of (row 12 (by decide) (by decide) (by decide) (by decide)) (fun i _ _ => ne i (by omega) (by omega) (by omega) (by omega))⟩, fun q i u h1 h2 h3 h4 h5 h6 => ?_, rs.of (row 11 (by decide) (by decide) (by decide) (by decide)) (fun i _ _ => ne i (by omega) (by omega) (by omega) (by omega)) (fun q a b => (I.sn ⟨a, b⟩).2), re.of (row 13 (by decide) (by decide) (by decide) (by decide)) (fun i _ _ => ne i (by omega) (by omega) (by omega) (by omega)) (ne 2 (by omega) (by omega) (by omega) (by omega)), ⟨?_, ?_, ?_, ?_, ?_, ?_⟩⟩
  · rw [row 6 (by decide) (by decide) (by decide) (by decide)]; exact b1
  · rw [row 9 (by decide) (by decide) (by decide) (by decide)]; exact b2
  · rw [row 1 (by decide) (by decide) (by decide) (by decide)]; exact b3
  · rw [csnd_5 hw.1 h1, snd0_pc hp hw ha ⟨h1, h2⟩, a5 e h1 h2]
  · rw [csnd_7]
    by_cases h : e = p
    · rw [if_pos h, h, snd0_sz hp hw ha, a6 p hp.1 hp.2]
    · rw [if_neg h, ne _ (by omega) (by omega) (by omega) (by omega)]
      exact a6 e h1 h2
  · have e7 := a6 p hp.1 hp.2
    have h4' : q = p → i < s (115 + p) + 1 := fun e => by rw [e, snd0_sz hp hw ha] at h4; exact h4
    have h4n : q ≠ p → i < s (115 + q) := fun e => by rw [ne _ (by omega) (by omega) (by omega) (by omega)] at h4; exact h4
    have hq2 := I.qn ⟨h1, h2⟩
    have i13 : i < 13 := by
      by_cases h : q = p
      · have := h4' h; omega
      · have := h4n h; omega
    rw [snd0_qv hp hw ⟨hs0.1, hs⟩ ⟨h1, h2⟩ ⟨h3, i13⟩ ⟨h5, h6⟩]
    by_cases h : q = p ∧ i = s (115 + p)
    · rw [if_pos h, h.1, h.2, ← e7, csnd_8 ⟨h5, h6⟩, f3, f2]
    · rw [if_neg h]
      have h9 : i < s (115 + q) := by
        by_cases hh : q = p
        · have := h4' hh; subst hh; omega
        · exact h4n hh
      rw [csnd_8n (by rw [e7]; omega)]
      exact rq q i u h1 h2 h3 h9 h5 h6
  · rw [csnd_0, if_neg (by decide), ne 2 (by omega) (by omega) (by omega) (by omega)]; exact f1
  · rw [csnd_0, if_neg (by decide), ne 0 (by omega) (by omega) (by omega) (by omega)]; exact f2
  · rw [csnd_0, if_pos rfl, snd0_1 hp hw ha, f3]
  · rw [csnd_0, if_neg (by decide), ne 3 (by omega) (by omega) (by omega) (by omega)]; exact f4
  · rw [csnd_0, if_neg (by decide), ne (-1) (by omega) (by omega) (by omega) (by omega)]; exact f5
  · rw [csnd_0, if_neg (by decide), ne (-1) (by omega) (by omega) (by omega) (by omega), ne (-2) (by omega) (by omega) (by omega) (by omega)]; exact f6
/-- the handled one, on both sides; r: what the row is before -/
theorem cend_h {p z t' kd : Int} (R : HR E C K s) (hqc : ∀ q, 0 ≤ q → q < 6 → s (115 + q) ≤ 13) (hsc : ∀ q, 0 ≤ q → q < 6 → s (511 + q) ≤ 4) (hE : 0 ≤ s 2) (hp : 0 ≤ p ∧ p < 6) (hs : 0 < s (511 + p)) (ht : t' = s (511 + p) - 1) (hkd : kd = sv s p t' 1) (hk : 0 ≤ kd ∧ kd < 8)
    (hz : z = if 99 ≤ td s p kd + kn s kd 1 then 99 else td s p kd + kn s kd 1) : HR (c_end 9 4 (dst E 3 (p * 8 + kd) z) p t' 0) C K (e_wk0 s p (517 + 6 * (4 * p + t'))) := by
  have hs4 := hsc p hp.1 hp.2
  have ht6 : (0 : Int) ≤ 0 ∧ (0 : Int) < 6 := by omega
  have kd0 : s (517 + 6 * (4 * p + t') + 1) = kd := hkd.symm
  have R2 := hr_tir (e := p * 8 + kd) (z := z) R (by omega)
  obtain ⟨sv0, sv1, -, sv4, -, -⟩ := R.sv hp (i := t') ⟨by omega, by omega⟩
  have e11 : dst E 3 (p * 8 + kd) z 11 = E 11 := rfl
  -- the row behind all but the end
  have hr4 : ∃ y : Int → Int, e_wk0 s p (517 + 6 * (4 * p + t')) = e_ends y (sv s p t' 0) 0 p kd ∧ (∀ i, i ≠ 3 → i ≠ 511 + p → y i = ups s (37 + (p * 8 + kd)) z i) ∧ y (511 + p) = t' ∧ y 3 = s 3 + (s 0 - sv s p t' 5) := by
    refine ⟨ups (ups (ups s 3 (s 3 + (s 0 - s (517 + 6 * (4 * p + t') + 5)))) (511 + p) (s (511 + p) - 1)) (37 + 8 * p + kd) z, ?_, ?_, ?_, ?_⟩
    · simp only [e_wk0, kd0]
      have t1 : td (ups (ups s 3 (s 3 + (s 0 - s (517 + 6 * (4 * p + t') + 5)))) (511 + p) (s (511 + p) - 1)) p kd = td s p kd := by unfold td; rw [ups_ne (by omega), ups_ne (by omega)]
      have t2 : kn (ups (ups s 3 (s 3 + (s 0 - s (517 + 6 * (4 * p + t') + 5)))) (511 + p) (s (511 + p) - 1)) kd 1 = kn s kd 1 := by unfold kn; rw [ups_ne (by omega), ups_ne (by omega)]
      rw [t1, t2, ← hz]
      rfl
    · intro i a b
      by_cases q : i = 37 + 8 * p + kd
      · rw [q, ups_eq, show 37 + 8 * p + kd = 37 + (p * 8 + kd) by omega, ups_eq]
      · rw [ups_ne q, ups_ne b, ups_ne a, ups_ne (by omega)]
    · rw [ups_ne (by omega), ups_eq, ht]
    · rw [ups_ne (by omega), ups_ne (by omega), ups_eq]; rfl
  obtain ⟨y, ey, yn, ysz, y3⟩ := hr4
  rw [ey]
  have y2 : y 2 = s 2 := by rw [yn 2 (by omega) (by omega), ups_ne (by omega)]
  have hE2 : 0 ≤ y 2 := by rw [y2]; exact hE
  have X0 : HRx (dst E 3 (p * 8 + kd) z) K y := R2.x.of (fun _ _ => rfl) (fun i hi' => yn i (by omega) (by omega))
  have X1 : HRx (c_E10 9 4 (dst E 3 (p * 8 + kd) z) p t' 0) K (e_ends y (sv s p t' 0) 0 p kd) := e10_HRx (Or.inr rfl) X0 hE2 ht6 hp sv0 (by rw [hkd]; exact sv1) (Or.inr trivial)
  have el : ∀ j, j = 6 ∨ j = 7 ∨ j = 8 ∨ j = 9 ∨ j = 10 ∨ j = 11 ∨ j = 1 → c_E10 9 4 (dst E 3 (p * 8 + kd) z) p t' 0 j = E j := fun j hj => by
    rw [e10_list (by omega), dst_row (by omega)]
  have rr : ∀ j, j ≠ 10 → j ≠ 11 → c_end 9 4 (dst E 3 (p * 8 + kd) z) p t' 0 j = c_E10 9 4 (dst E 3 (p * 8 + kd) z) p t' 0 j := fun j a b => by rw [c_end_eq]; exact rm_row a b
  have sne : ∀ e, e ≠ -2 → e ≠ 2 → ¬ (4 ≤ e ∧ e < 10) → ¬ (91 ≤ e ∧ e < 115) → ¬ (661 ≤ e ∧ e < 861) → e_ends y (sv s p t' 0) 0 p kd e = y e := fun e a1 a2 a3 a4 a5 => ends_ne hE2 ht6 hp a1 a2 a3 a4 a5
  have lst : ∀ e, 115 ≤ e → e < 661 → e ≠ 511 + p → e_ends y (sv s p t' 0) 0 p kd e = s e := fun e a b d => by
    rw [sne e (by omega) (by omega) (by omega) (by omega) (by omega), yn e (by omega) d, ups_ne (by omega)]
  have szs : e_ends y (sv s p t' 0) 0 p kd (511 + p) = t' := by rw [sne _ (by omega) (by omega) (by omega) (by omega) (by omega), ysz]
  refine HR.mk' ?_ (X1.of (fun j hj => rr j (by omega) (by omega)) (fun _ _ => rfl)) ?_ ?_ (fun e h1 h2 => ?_) (fun q i h1 h2 h3 h4 => ?_) ?_
  · unfold HRo
    rw [rr 6 (by decide) (by decide), rr 9 (by decide) (by decide), rr 1 (by decide) (by decide), el 6 (by omega), el 9 (by omega), el 1 (by omega)]
    exact R.1
  · exact (R.2.1.2.2.2.2.2.1).of (by rw [rr 7 (by decide) (by decide), el 7 (by omega)]) (fun i _ _ => lst i (by omega) (by omega) (by omega))
  · exact (R.2.2.1).of (by rw [rr 8 (by decide) (by decide), el 8 (by omega)]) (fun i _ _ => lst i (by omega) (by omega) (by omega)) hqc
  · rw [c_end_eq, show (10 : Nat) = 9 + 1 from rfl, rm_sz]
    show (if e = p then c_E10 9 4 (dst E 3 (p * 8 + kd) z) p t' 0 10 p - 1 else c_E10 9 4 (dst E 3 (p * 8 + kd) z) p t' 0 10 e) = _
    rw [el 10 (by omega)]
    by_cases h : e = p
    · rw [if_pos h, h, szs, R.sn hp, ht]
    · rw [if_neg h, lst _ (by omega) (by omega) (by omega)]
      exact R.sn ⟨h1, h2⟩
  · have h4' : q = p → i < t' := fun e => by rw [e, szs] at h4; exact h4
    have h4n : q ≠ p → i < s (511 + q) := fun e => by rw [lst _ (by omega) (by omega) (by omega)] at h4; exact h4
    have h9 : i < s (511 + q) := by
      by_cases h : q = p
      · have := h4' h; subst h; omega
      · exact h4n h
    have g4 := hsc q h1 h2
    have ce : ∀ x, c_end 9 4 (dst E 3 (p * 8 + kd) z) p t' 0 11 x = E 11 x := fun x => by
      rw [c_end_eq, show (11 : Nat) = 9 + 2 from rfl, rm_cell (by show 0 ≤ c_E10 9 4 (dst E 3 (p * 8 + kd) z) p t' 0 10 p - t' - 1; rw [el 10 (by omega), R.sn hp]; omega)]
      show (if (p * 4 + t') * 7 ≤ x ∧ x < (p * 4 + t') * 7 + 7 * (c_E10 9 4 (dst E 3 (p * 8 + kd) z) p t' 0 10 p - t' - 1) then _ else c_E10 9 4 (dst E 3 (p * 8 + kd) z) p t' 0 11 x) = _
      rw [if_neg (by rw [el 10 (by omega), R.sn hp]; omega), el 11 (by omega)]
    have g : ∀ w, 0 ≤ w → w < 6 → sv (e_ends y (sv s p t' 0) 0 p kd) q i w = sv s q i w := fun w a b => lst _ (by omega) (by omega) (by omega)
    rw [ce, ce, ce, ce, ce, ce, g 0 (by omega) (by omega), g 1 (by omega) (by omega), g 2 (by omega) (by omega), g 3 (by omega) (by omega), g 4 (by omega) (by omega), g 5 (by omega) (by omega)]
    exact R.sv ⟨h1, h2⟩ ⟨h3, h9⟩
  · rw [rr 0 (by decide) (by decide), e10_w (Or.inr rfl), if_pos rfl, sne 3 (by omega) (by omega) (by omega) (by omega) (by omega), y3]
    show E 0 12 + (E 0 10 - E 11 ((p * 4 + t') * 7 + 4)) = _
    rw [R.fl.2.2.2.1, R.fl.2.1, sv4]
end SENDS
