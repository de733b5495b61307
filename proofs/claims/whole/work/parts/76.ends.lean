/-! the class writes an end down: against the model's row -/
def HRg (E : Nat → Int → Int) (s : Int → Int) : Prop := E 0 9 = s 2 ∧ E 0 10 = s 0 ∧ E 0 11 = s 1 ∧ E 0 13 = s (-1) ∧ (s (-1) ≠ -1 → E 0 14 = s (-2))
/-- all but the lists and what was waited -/
def HRx (E : Nat → Int → Int) (K : Int) (s : Int → Int) : Prop := Rw 1 10 3 E s ∧ HRk E K s ∧ Rw 3 37 48 E s ∧ Rw 4 85 6 E s ∧ Rw 5 91 24 E s ∧ Rw 12 4 6 E s ∧ HRe E s ∧ HRg E s
section ENDS
variable {E E' : Nat → Int → Int} {C : Int} {s s' : Int → Int} {K P c N : Int}
theorem HR.x (R : HR E C K s) : HRx E K s := ⟨R.2.1.1, R.2.1.2.1, R.2.1.2.2.1, R.2.1.2.2.2.1, R.2.1.2.2.2.2.1, R.2.1.2.2.2.2.2.2.2, R.2.2.2.2.1, R.fl.1, R.fl.2.1, R.fl.2.2.1, R.fl.2.2.2.2.1, R.fl.2.2.2.2.2⟩
theorem HR.mk' (h1 : HRo E C) (h2 : HRx E K s) (h3 : Rw 7 115 6 E s) (h4 : HRq E s) (h5 : Rw 10 511 6 E s) (h6 : HRs E s) (h7 : E 0 12 = s 3) : HR E C K s :=
  ⟨h1, ⟨h2.1, h2.2.1, h2.2.2.1, h2.2.2.2.1, h2.2.2.2.2.1, h3, h5, h2.2.2.2.2.2.1⟩, h4, h6, h2.2.2.2.2.2.2.1, h2.2.2.2.2.2.2.2.1, h2.2.2.2.2.2.2.2.2.1, h2.2.2.2.2.2.2.2.2.2.1, h7, h2.2.2.2.2.2.2.2.2.2.2⟩
theorem HRx.of (h : HRx E K s) (hE : ∀ j, j = 0 ∨ j = 1 ∨ j = 2 ∨ j = 3 ∨ j = 4 ∨ j = 5 ∨ j = 12 ∨ j = 13 → E' j = E j) (hs : ∀ i, i < 3 ∨ 4 ≤ i ∧ i < 115 ∨ 661 ≤ i ∧ i < 861 → s' i = s i) : HRx E' K s' := by
  obtain ⟨a1, a2, a3, a4, a5, a6, a7, b1, b2, b3, b4, b5⟩ := h
  refine ⟨a1.of (hE 1 (by omega)) (fun i _ _ => hs i (by omega)), a2.of (hE 2 (by omega)) (fun i _ _ => hs i (by omega)), a3.of (hE 3 (by omega)) (fun i _ _ => hs i (by omega)), a4.of (hE 4 (by omega)) (fun i _ _ => hs i (by omega)), a5.of (hE 5 (by omega)) (fun i _ _ => hs i (by omega)), a6.of (hE 12 (by omega)) (fun i _ _ => hs i (by omega)), a7.of (hE 13 (by omega)) (fun i _ _ => hs i (by omega)) (hs 2 (by omega)), ?_⟩
  unfold HRg
  rw [hE 0 (by omega), hs 2 (by omega), hs 0 (by omega), hs 1 (by omega), hs (-1) (by omega), hs (-2) (by omega)]
  exact ⟨b1, b2, b3, b4, b5⟩
theorem ends_pc {g t p k e : Int} (hE : 0 ≤ s 2) (ht : 0 ≤ t ∧ t < 6) (hp : 0 ≤ p ∧ p < 6) (he : 0 ≤ e ∧ e < 24) : e_ends s g t p k (91 + e) = if e = 4 * p + (if t = 0 then 2 else 3) then s (91 + e) + 1 else s (91 + e) := by
  have := tm40 hE
  rw [ends_pt (by omega)]
  simp only [e_end0, e_cnt]
  generalize hw : (if t = 0 then (2 : Int) else 3) = w
  have hw2 : 2 ≤ w ∧ w ≤ 3 := by rw [← hw]; split <;> omega
  by_cases q : e = 4 * p + w
  · rw [if_pos q, show 91 + e = 91 + 4 * p + w by omega, ups_eq]
    repeat rw [ups_ne (by omega)]
  · rw [if_neg q]
    repeat rw [ups_ne (by omega)]
theorem ends_ec {g t p k e : Int} (hE : 0 ≤ s 2) (ht : 0 ≤ t ∧ t < 6) (hp : 0 ≤ p ∧ p < 6) (he : 0 ≤ e ∧ e < 6) : e_ends s g t p k (4 + e) = if e = t then s (4 + e) + 1 else s (4 + e) := by
  have := tm40 hE
  rw [ends_pt (by omega)]
  simp only [e_end0, e_cnt]
  generalize hw : (if t = 0 then (2 : Int) else 3) = w
  have hw2 : 2 ≤ w ∧ w ≤ 3 := by rw [← hw]; split <;> omega
  by_cases q : e = t
  · rw [if_pos q, q, ups_ne (by omega), ups_eq]
    repeat rw [ups_ne (by omega)]
  · rw [if_neg q]
    repeat rw [ups_ne (by omega)]
def c_E10 (o : Nat) (r : Int) (E : Nat → Int → Int) (p i t : Int) : Nat → Int → Int :=
  let E9 := c_en1 o r E p i t (Int.tmod (E 0 9) 40 * 5)
  if E (o + 2) ((p * r + i) * 7 + 0) = E9 0 13 then dst E9 0 14 t else E9
theorem c_end_eq (o : Nat) (r : Int) (E : Nat → Int → Int) (p i t : Int) : c_end o r E p i t = c_rm o r (c_E10 o r E p i t) p i := rfl
theorem en0_row {o j : Nat} {r p i t a : Int} (h0 : j ≠ 0) (h5 : j ≠ 5) (h12 : j ≠ 12) (h13 : j ≠ 13) : c_en0 o r E p i t a j = E j := by
  simp only [c_en0]
  rw [dst_row h5, dst_row h12, dst_row h0, dst_row h13, dst_row h13, dst_row h13, dst_row h13, dst_row h13]
theorem en0_0 {o : Nat} {r p i t a e : Int} : c_en0 o r E p i t a 0 e = if e = 9 then E 0 9 + 1 else E 0 e := by
  simp only [c_en0]
  rw [dst_row (by decide), dst_row (by decide)]
  by_cases q : e = 9
  · rw [if_pos q, q, dst_eq]
    repeat rw [dst_row (by decide)]
  · rw [if_neg q, dst_ne q]
    repeat rw [dst_row (by decide)]
theorem en0_12 {o : Nat} {r p i t a e : Int} : c_en0 o r E p i t a 12 e = if e = t then E 12 e + 1 else E 12 e := by
  simp only [c_en0]
  rw [dst_row (by decide)]
  by_cases q : e = t
  · rw [if_pos q, q, dst_eq]
    repeat rw [dst_row (by decide)]
  · rw [if_neg q, dst_ne q]
    repeat rw [dst_row (by decide)]
theorem en0_5 {o : Nat} {r p i t a e : Int} : c_en0 o r E p i t a 5 e = if e = p * 4 + (if t = 0 then 2 else 3) then E 5 e + 1 else E 5 e := by
  simp only [c_en0]
  by_cases q : e = p * 4 + (if t = 0 then 2 else 3)
  · rw [if_pos q, q, dst_eq]
    repeat rw [dst_row (by decide)]
  · rw [if_neg q, dst_ne q]
    repeat rw [dst_row (by decide)]
theorem en0_13 {o : Nat} {r p i t a w : Int} (ho : o = 6 ∨ o = 9) (hw : 0 ≤ w ∧ w < 5) : c_en0 o r E p i t a 13 (a + w) = if w = 0 then E (o + 2) ((p * r + i) * 7 + 0) else if w = 1 then t else if w = 2 then E 0 10 else if w = 3 then p else E (o + 2) ((p * r + i) * 7 + 1) := by
  have ho2 : o + 2 ≠ 13 := by omega
  simp only [c_en0]
  have hw' : w = 0 ∨ w = 1 ∨ w = 2 ∨ w = 3 ∨ w = 4 := by omega
  rw [dst_row (by decide), dst_row (by decide), dst_row (by decide)]
  rcases hw' with rfl | rfl | rfl | rfl | rfl
  · rw [dst_ne (by omega), dst_ne (by omega), dst_ne (by omega), dst_ne (by omega), dst_eq]; rfl
  · rw [dst_ne (by omega), dst_ne (by omega), dst_ne (by omega), dst_eq]; rfl
  · rw [dst_ne (by omega), dst_ne (by omega), dst_eq, dst_row (by decide), dst_row (by decide)]; rfl
  · rw [dst_ne (by omega), dst_eq]; rfl
  · rw [dst_eq, dst_row ho2, dst_row ho2, dst_row ho2, dst_row ho2]; rfl
theorem en0_13n {o : Nat} {r p i t a e : Int} (h : ¬ (a ≤ e ∧ e < a + 5)) : c_en0 o r E p i t a 13 e = E 13 e := by
  simp only [c_en0]
  rw [dst_row (by decide), dst_row (by decide), dst_row (by decide), dst_ne (by omega), dst_ne (by omega), dst_ne (by omega), dst_ne (by omega), dst_ne (by omega)]
theorem en1_row {o j : Nat} {r p i t a : Int} (h0 : j ≠ 0) : c_en1 o r E p i t a j = c_en0 o r E p i t a j := by
  simp only [c_en1]
  split
  · rw [dst_row h0]
  · rfl
theorem en1_0 {o : Nat} {r p i t a e : Int} (h : e ≠ 12) : c_en1 o r E p i t a 0 e = if e = 9 then E 0 9 + 1 else E 0 e := by
  simp only [c_en1]
  split
  · rw [dst_ne h, en0_0]
  · rw [en0_0]
theorem en1_w {o : Nat} {r p i t a : Int} (ho : o = 6 ∨ o = 9) : c_en1 o r E p i t a 0 12 = if t = 0 then E 0 12 + (E 0 10 - E (o + 2) ((p * r + i) * 7 + 4)) else E 0 12 := by
  simp only [c_en1]
  split
  · rw [dst_eq, en0_0, if_neg (by decide), en0_0, if_neg (by decide), en0_row (by omega) (by omega) (by omega) (by omega)]
  · rw [en0_0, if_neg (by decide)]
theorem e10_row {o j : Nat} {r p i t : Int} (h0 : j ≠ 0) : c_E10 o r E p i t j = c_en0 o r E p i t (Int.tmod (E 0 9) 40 * 5) j := by
  simp only [c_E10]
  split
  · rw [dst_row h0, en1_row h0]
  · rw [en1_row h0]
theorem e10_0 {o : Nat} {r p i t e : Int} (h : e ≠ 12) (h2 : e ≠ 14) : c_E10 o r E p i t 0 e = if e = 9 then E 0 9 + 1 else E 0 e := by
  simp only [c_E10]
  split
  · rw [dst_ne h2, en1_0 h]
  · rw [en1_0 h]
theorem e10_w {o : Nat} {r p i t : Int} (ho : o = 6 ∨ o = 9) : c_E10 o r E p i t 0 12 = if t = 0 then E 0 12 + (E 0 10 - E (o + 2) ((p * r + i) * 7 + 4)) else E 0 12 := by
  simp only [c_E10]
  split
  · rw [dst_ne (by decide), en1_w ho]
  · rw [en1_w ho]
theorem e10_14 {o : Nat} {r p i t : Int} : c_E10 o r E p i t 0 14 = if E (o + 2) ((p * r + i) * 7 + 0) = E 0 13 then t else E 0 14 := by
  have e : c_en1 o r E p i t (Int.tmod (E 0 9) 40 * 5) 0 13 = E 0 13 := by rw [en1_0 (by decide), if_neg (by decide)]
  simp only [c_E10]
  rw [e]
  split
  · rw [dst_eq]
  · rw [en1_0 (by decide), if_neg (by decide)]
theorem e10_list {o j : Nat} {r p i t : Int} (h : j = 6 ∨ j = 7 ∨ j = 8 ∨ j = 9 ∨ j = 10 ∨ j = 11 ∨ j = 1 ∨ j = 2 ∨ j = 3 ∨ j = 4) : c_E10 o r E p i t j = E j := by
  rw [e10_row (by omega), en0_row (by omega) (by omega) (by omega) (by omega)]
/-- an end written down, on both sides -/
theorem e10_HRx {o : Nat} {r p i t g kd : Int} (ho : o = 6 ∨ o = 9) (R : HRx E K s) (hE : 0 ≤ s 2) (ht : 0 ≤ t ∧ t < 6) (hp : 0 ≤ p ∧ p < 6) (hg : E (o + 2) ((p * r + i) * 7 + 0) = g) (hk : E (o + 2) ((p * r + i) * 7 + 1) = kd) (hg0 : g ≠ -1 ∨ True) : HRx (c_E10 o r E p i t) K (e_ends s g t p kd) := by
  have hm := tm40 hE
  obtain ⟨a1, a2, a3, a4, a5, a6, a7, b1, b2, b3, b4, b5⟩ := R
  have ne : ∀ e, e ≠ -2 → e ≠ 2 → ¬ (4 ≤ e ∧ e < 10) → ¬ (91 ≤ e ∧ e < 115) → ¬ (661 ≤ e ∧ e < 861) → e_ends s g t p kd e = s e := fun e a1 a2 a3 a4 a5 => ends_ne hE ht hp a1 a2 a3 a4 a5
  refine ⟨a1.of (e10_list (by omega)) (fun i _ _ => ne i (by omega) (by omega) (by omega) (by omega) (by omega)), a2.of (e10_list (by omega)) (fun i _ _ => ne i (by omega) (by omega) (by omega) (by omega) (by omega)), a3.of (e10_list (by omega)) (fun i _ _ => ne i (by omega) (by omega) (by omega) (by omega) (by omega)), a4.of (e10_list (by omega)) (fun i _ _ => ne i (by omega) (by omega) (by omega) (by omega) (by omega)), fun e h1 h2 => ?_, fun e h1 h2 => ?_, fun j w h1 h2 h3 h4 h5 => ?_, ?_, ?_, ?_, ?_, ?_⟩
  · rw [e10_row (by decide), en0_5, ends_pc hE ht hp ⟨h1, h2⟩, a5 e h1 h2]
    by_cases q : e = p * 4 + (if t = 0 then 2 else 3)
    · rw [if_pos q, if_pos (by omega)]
    · rw [if_neg q, if_neg (by omega)]
  · rw [e10_row (by decide), en0_12, ends_ec hE ht hp ⟨h1, h2⟩, a6 e h1 h2]
  · rw [ends_2 hE ht hp] at h3
    rw [e10_row (by decide), ends_rv hE ht hp ⟨h1, h2⟩ ⟨h4, h5⟩, b1]
    by_cases q : j = Int.tmod (s 2) 40
    · rw [if_pos q, q, en0_13 ho ⟨h4, h5⟩, hg, hk, b2]
    · rw [if_neg q, en0_13n (by omega)]
      rw [Int.tmod_eq_emod_of_nonneg hE] at q
      exact a7 j w h1 h2 (by omega) h4 h5
  · rw [e10_0 (by decide) (by decide), if_pos rfl, ends_2 hE ht hp, b1]
  · rw [e10_0 (by decide) (by decide), if_neg (by decide), ne 0 (by omega) (by omega) (by omega) (by omega) (by omega), b2]
  · rw [e10_0 (by decide) (by decide), if_neg (by decide), ne 1 (by omega) (by omega) (by omega) (by omega) (by omega), b3]
  · rw [e10_0 (by decide) (by decide), if_neg (by decide), ne (-1) (by omega) (by omega) (by omega) (by omega) (by omega), b4]
  · rw [ne (-1) (by omega) (by omega) (by omega) (by omega) (by omega), e10_14, ends_w hE ht hp, hg, b4]
    intro h
    split
    · rfl
    · exact b5 h
theorem srow_eq (E : Nat → Int → Int) (j : Nat) (f : Int → Int) : srow E j f j = f := if_pos rfl
theorem rm_row {o j : Nat} {r p i : Int} (h1 : j ≠ o + 1) (h2 : j ≠ o + 2) : c_rm o r E p i j = E j := by
  unfold c_rm
  rw [dst_row h1]
  exact if_neg h2
theorem rm_sz {o : Nat} {r p i e : Int} : c_rm o r E p i (o + 1) e = if e = p then E (o + 1) p - 1 else E (o + 1) e := by
  unfold c_rm
  by_cases q : e = p
  · rw [if_pos q, q, dst_eq]
  · rw [if_neg q, dst_ne q]
    exact congrFun (if_neg (by omega)) e
theorem rm_cell {o : Nat} {r p i e : Int} (h : 0 ≤ E (o + 1) p - i - 1) : c_rm o r E p i (o + 2) e = if (p * r + i) * 7 ≤ e ∧ e < (p * r + i) * 7 + 7 * (E (o + 1) p - i - 1) then E (o + 2) (e + 7) else E (o + 2) e := by
  unfold c_rm
  rw [dst_row (by omega), srow_eq, sfl_at (by decide)]
  by_cases q : (p * r + i) * 7 ≤ e ∧ e < (p * r + i) * 7 + 7 * (E (o + 1) p - i - 1)
  · rw [if_pos q, if_pos (by omega)]
  · rw [if_neg q, if_neg (by omega)]
/-- a signal of a queue leaves it with an end that isn't 'handled', on both sides -/
theorem cend_q {p k t : Int} (R : HR E C K s) (I : HI K P c N s) (hp : 0 ≤ p ∧ p < 6) (hk : 0 ≤ k ∧ k < s (115 + p)) (ht : 1 ≤ t ∧ t < 6) : HR (c_end 6 13 E p k t) C K (e_eiq s p k t) := by
  have hq := I.qn hp
  have hc13 := I.hq.1
  have hE := I.e2.1
  have ht6 : 0 ≤ t ∧ t < 6 := by omega
  have l2 : e_lv s p k 2 = s 2 := elv_ne hp hk (by omega) (by omega) (by omega)
  have lne : ∀ e, e ≠ 115 + p → ¬ (121 + 65 * p ≤ e ∧ e < 121 + 65 * p + 65) → e_lv s p k e = s e := fun e a b => elv_ne hp hk (by omega) a b
  have X0 : HRx E K (e_lv s p k) := R.x.of (fun _ _ => rfl) (fun i hi' => lne i (by omega) (by omega))
  have X1 : HRx (c_E10 6 13 E p k t) K (e_eiq s p k t) := e10_HRx (Or.inl rfl) X0 (by rw [l2]; exact hE) ht6 hp (R.qv hp hk ⟨by omega, by omega⟩) (R.qv hp hk ⟨by omega, by omega⟩) (Or.inr trivial)
  have e7 : c_E10 6 13 E p k t 7 = E 7 := e10_list (by omega)
  have e8 : c_E10 6 13 E p k t 8 = E 8 := e10_list (by omega)
  have rr : ∀ j, j ≠ 7 → j ≠ 8 → c_end 6 13 E p k t j = c_E10 6 13 E p k t j := fun j a b => by rw [c_end_eq]; exact rm_row a b
  have sne : ∀ e, e ≠ -2 → e ≠ 2 → ¬ (4 ≤ e ∧ e < 10) → ¬ (91 ≤ e ∧ e < 115) → ¬ (661 ≤ e ∧ e < 861) → e_eiq s p k t e = e_lv s p k e := fun e a1 a2 a3 a4 a5 => ends_ne (by rw [l2]; exact hE) ht6 hp a1 a2 a3 a4 a5
  refine HR.mk' ?_ (X1.of (fun j hj => rr j (by omega) (by omega)) (fun _ _ => rfl)) (fun e h1 h2 => ?_) (fun q i w h1 h2 h3 h4 h5 h6 => ?_) ?_ ?_ ?_
  · unfold HRo
    rw [rr 6 (by decide) (by decide), rr 9 (by decide) (by decide), rr 1 (by decide) (by decide), e10_list (by omega), e10_list (by omega), e10_list (by omega)]
    exact R.1
  · rw [c_end_eq, show (7 : Nat) = 6 + 1 from rfl, rm_sz]
    show (if e = p then c_E10 6 13 E p k t 7 p - 1 else c_E10 6 13 E p k t 7 e) = _
    rw [e7, sne _ (by omega) (by omega) (by omega) (by omega) (by omega), R.qn hp, R.qn ⟨h1, h2⟩]
    by_cases h : e = p
    · rw [if_pos h, h, elv_sz hp hk]
    · rw [if_neg h, lne _ (by omega) (by omega)]
  · rw [sne _ (by omega) (by omega) (by omega) (by omega) (by omega)] at h4
    have hq2 := I.qn ⟨h1, h2⟩
    have h4' : q = p → i < s (115 + p) - 1 := fun e => by rw [e, elv_sz hp hk] at h4; exact h4
    have h4n : q ≠ p → i < s (115 + q) := fun e => by rw [lne _ (by omega) (by omega)] at h4; exact h4
    have i13 : i < 13 := by
      by_cases h : q = p
      · have := h4' h; subst h; omega
      · have := h4n h; omega
    rw [c_end_eq, show (8 : Nat) = 6 + 2 from rfl, rm_cell (by show 0 ≤ c_E10 6 13 E p k t 7 p - k - 1; rw [e7, R.qn hp]; omega)]
    show (if (p * 13 + k) * 7 ≤ (q * 13 + i) * 7 + w ∧ (q * 13 + i) * 7 + w < (p * 13 + k) * 7 + 7 * (c_E10 6 13 E p k t 7 p - k - 1) then c_E10 6 13 E p k t 8 ((q * 13 + i) * 7 + w + 7) else c_E10 6 13 E p k t 8 ((q * 13 + i) * 7 + w)) = _
    rw [e7, e8, R.qn hp, qv_of (s := e_lv s p k) (fun i _ _ => sne i (by omega) (by omega) (by omega) (by omega) (by omega)) ⟨h1, h2⟩ ⟨h3, i13⟩ ⟨h5, h6⟩, elv_qv hp hk (by omega) ⟨h3, i13⟩ ⟨h1, h2⟩ ⟨h5, h6⟩ (fun e => h4' e.symm)]
    by_cases h : q = p ∧ k ≤ i
    · have := h4' h.1
      obtain ⟨hqp, hki⟩ := h
      subst hqp
      rw [if_pos (by omega), if_pos ⟨rfl, hki⟩, ← R.qv hp (i := i + 1) ⟨by omega, by omega⟩ ⟨h5, h6⟩]
      congr 1
      omega
    · rw [if_neg h]
      by_cases h7 : q = p
      · have := h4' h7
        subst h7
        rw [if_neg (by omega), R.qv hp ⟨h3, by omega⟩ ⟨h5, h6⟩]
      · rw [if_neg (by omega), R.qv ⟨h1, h2⟩ ⟨h3, h4n h7⟩ ⟨h5, h6⟩]
  · exact (R.2.1.2.2.2.2.2.2.1).of (by rw [rr 10 (by decide) (by decide), e10_list (by omega)]) (fun i _ _ => by rw [sne i (by omega) (by omega) (by omega) (by omega) (by omega), lne i (by omega) (by omega)])
  · exact (R.2.2.2.1).of (by rw [rr 11 (by decide) (by decide), e10_list (by omega)]) (fun i _ _ => by rw [sne i (by omega) (by omega) (by omega) (by omega) (by omega), lne i (by omega) (by omega)]) (fun p a b => (I.sn ⟨a, b⟩).2)
  · rw [rr 0 (by decide) (by decide), e10_w (Or.inl rfl), if_neg (by omega), sne 3 (by omega) (by omega) (by omega) (by omega) (by omega), lne 3 (by omega) (by omega)]
    exact R.fl.2.2.2.1
end ENDS
