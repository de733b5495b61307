/-! each step keeps what holds of a hall's row -/
section OPS
variable {K P c N : Int} {s s' : Int → Int}
theorem end0_ne {g t p k a e : Int} (ht : 0 ≤ t ∧ t < 6) (hp : 0 ≤ p ∧ p < 6) (ha : 661 ≤ a ∧ a ≤ 856) (h2 : e ≠ 2) (h4 : ¬ (4 ≤ e ∧ e < 10)) (h9 : ¬ (91 ≤ e ∧ e < 115)) (h6 : ¬ (a ≤ e ∧ e < a + 5)) : e_end0 s g t p k a e = s e := by
  simp only [e_end0, e_cnt]
  split <;> (repeat rw [ups_ne (by omega)])
theorem end0_c {g t p k a e : Int} (ht : 0 ≤ t ∧ t < 6) (hp : 0 ≤ p ∧ p < 6) (ha : 661 ≤ a ∧ a ≤ 856) (he : isC e) : s e ≤ e_end0 s g t p k a e ∧ e_end0 s g t p k a e ≤ s e + 1 := by
  have b1 : ∀ (z : Int → Int) (x v : Int), x = 0 ∨ x = 2 ∨ 4 ≤ x ∧ x < 10 ∨ 91 ≤ x ∧ x < 115 → ∀ (y : Int), 661 ≤ y → ups z y v x = z x := fun z x v hx y hy => ups_ne (by omega)
  unfold isC at he
  simp only [e_end0, e_cnt]
  generalize hw : (if t = 0 then (2 : Int) else 3) = w
  have hw2 : 2 ≤ w ∧ w ≤ 3 := by rw [← hw]; split <;> omega
  by_cases q1 : e = 91 + 4 * p + w
  · rw [q1, ups_eq]
    repeat rw [ups_ne (by omega)]
    omega
  · rw [ups_ne q1]
    by_cases q2 : e = 4 + t
    · rw [q2, ups_eq]
      repeat rw [ups_ne (by omega)]
      omega
    · rw [ups_ne q2]
      by_cases q3 : e = 2
      · rw [q3, ups_eq]
        repeat rw [ups_ne (by omega)]
        omega
      · rw [ups_ne q3]
        repeat rw [ups_ne (by omega)]
        omega
theorem ends_pt {g t p k e : Int} (h : e ≠ -2) : e_ends s g t p k e = e_end0 s g t p k (661 + 5 * Int.tmod (s 2) 40) e := ups_ne h
theorem ends_ne {g t p k e : Int} (hE : 0 ≤ s 2) (ht : 0 ≤ t ∧ t < 6) (hp : 0 ≤ p ∧ p < 6) (h0 : e ≠ -2) (h2 : e ≠ 2) (h4 : ¬ (4 ≤ e ∧ e < 10)) (h9 : ¬ (91 ≤ e ∧ e < 115)) (h6 : ¬ (661 ≤ e ∧ e < 861)) : e_ends s g t p k e = s e := by
  have := tm40 hE
  rw [ends_pt h0, end0_ne ht hp (by omega) h2 h4 h9 (by omega)]
theorem ends_2 {g t p k : Int} (hE : 0 ≤ s 2) (ht : 0 ≤ t ∧ t < 6) (hp : 0 ≤ p ∧ p < 6) : e_ends s g t p k 2 = s 2 + 1 := by
  have := tm40 hE
  rw [ends_pt (by omega)]
  simp only [e_end0, e_cnt]
  split <;> (rw [ups_ne (by omega), ups_ne (by omega), ups_eq]; repeat rw [ups_ne (by omega)])
theorem ends_w {g t p k : Int} (hE : 0 ≤ s 2) (ht : 0 ≤ t ∧ t < 6) (hp : 0 ≤ p ∧ p < 6) : e_ends s g t p k (-2) = if g = s (-1) then t else s (-2) := by
  have := tm40 hE
  simp only [e_ends]
  rw [ups_eq, end0_ne ht hp (by omega) (by omega) (by omega) (by omega) (by omega), end0_ne ht hp (by omega) (by omega) (by omega) (by omega) (by omega)]
theorem ends_rv {g t p k j w : Int} (hE : 0 ≤ s 2) (ht : 0 ≤ t ∧ t < 6) (hp : 0 ≤ p ∧ p < 6) (hj : 0 ≤ j ∧ j < 40) (hw : 0 ≤ w ∧ w < 5) : rv (e_ends s g t p k) j w = if j = Int.tmod (s 2) 40 then (if w = 0 then g else if w = 1 then t else if w = 2 then s 0 else if w = 3 then p else k) else rv s j w := by
  have := tm40 hE
  unfold rv
  rw [ends_pt (by omega)]
  by_cases q : j = Int.tmod (s 2) 40
  · rw [if_pos q]
    subst q
    have hw' : w = 0 ∨ w = 1 ∨ w = 2 ∨ w = 3 ∨ w = 4 := by omega
    simp only [e_end0, e_cnt]
    generalize hw : (if t = 0 then (2 : Int) else 3) = w1
    have hw2 : 2 ≤ w1 ∧ w1 ≤ 3 := by rw [← hw]; split <;> omega
    rcases hw' with rfl | rfl | rfl | rfl | rfl
    · rw [ups_ne (by omega), ups_ne (by omega), ups_ne (by omega), ups_ne (by omega), ups_ne (by omega), ups_ne (by omega), ups_ne (by omega), Int.add_zero, ups_eq]
      rfl
    · rw [ups_ne (by omega), ups_ne (by omega), ups_ne (by omega), ups_ne (by omega), ups_ne (by omega), ups_ne (by omega), ups_eq]
      rfl
    · rw [ups_ne (by omega), ups_ne (by omega), ups_ne (by omega), ups_ne (by omega), ups_ne (by omega), ups_eq, ups_ne (by omega), ups_ne (by omega)]
      rfl
    · rw [ups_ne (by omega), ups_ne (by omega), ups_ne (by omega), ups_ne (by omega), ups_eq]
      rfl
    · rw [ups_ne (by omega), ups_ne (by omega), ups_ne (by omega), ups_eq]
      rfl
  · rw [if_neg q]
    exact end0_ne ht hp (by omega) (by omega) (by omega) (by omega) (by omega)
theorem ends_HI {g t p k : Int} (I : HI K P c N s) (hK : 0 ≤ K) (hP : 0 ≤ P) (hg : 0 ≤ g ∧ g < s 1) (ht : 0 ≤ t ∧ t < 6) (hp : 0 ≤ p ∧ p < 6) (hk : 0 ≤ k ∧ k < 8) : HI K P c (N + 1) (e_ends s g t p k) := by
  have hE := I.e2.1
  have hm := tm40 hE
  have ne : ∀ e, e ≠ -2 → e ≠ 2 → ¬ (4 ≤ e ∧ e < 10) → ¬ (91 ≤ e ∧ e < 115) → ¬ (661 ≤ e ∧ e < 861) → e_ends s g t p k e = s e := fun e a1 a2 a3 a4 a5 => ends_ne hE ht hp a1 a2 a3 a4 a5
  have z0 : e_ends s g t p k 0 = s 0 := ne 0 (by omega) (by omega) (by omega) (by omega) (by omega)
  have z1 : e_ends s g t p k 1 = s 1 := ne 1 (by omega) (by omega) (by omega) (by omega) (by omega)
  refine ⟨I.hk.of (fun i _ _ => ne i (by omega) (by omega) (by omega) (by omega) (by omega)), I.ht.of (fun i _ _ => ne i (by omega) (by omega) (by omega) (by omega) (by omega)), I.hm.of (fun i _ _ => ne i (by omega) (by omega) (by omega) (by omega) (by omega)), fun e he => ?_, I.hq.of (fun i _ _ => ne i (by omega) (by omega) (by omega) (by omega) (by omega)) (by omega) (by omega), I.hs.of (fun i _ _ => ne i (by omega) (by omega) (by omega) (by omega) (by omega)) (by omega) (by omega), fun j h1 h2 h3 => ?_, I.hz.of hK hP (fun q h1 h2 => ⟨ne _ (by omega) (by omega) (by omega) (by omega) (by omega), ne _ (by omega) (by omega) (by omega) (by omega) (by omega)⟩) (fun i _ _ => ne i (by omega) (by omega) (by omega) (by omega) (by omega)), HId.of I.hq I.hs I.hd (fun i _ _ => ne i (by omega) (by omega) (by omega) (by omega) (by omega)), I.ho.of (fun i _ _ => ne i (by omega) (by omega) (by omega) (by omega) (by omega)) (ne _ (by omega) (by omega) (by omega) (by omega) (by omega)) ?_⟩
  · have := I.cn he
    have h5 : e ≠ -2 := by unfold isC at he; omega
    rw [ends_pt h5]
    have := end0_c (s := s) (g := g) (k := k) ht hp (a := 661 + 5 * Int.tmod (s 2) 40) (by omega) he
    omega
  · rw [ends_2 hE ht hp] at h3
    have r := fun w (hw : 0 ≤ w ∧ w < 5) => ends_rv (s := s) (g := g) (k := k) (t := t) hE ht hp ⟨h1, h2⟩ hw
    rw [r 0 (by omega), r 1 (by omega), r 2 (by omega), r 3 (by omega), r 4 (by omega), z0, z1]
    have he := I.e0
    by_cases q : j = Int.tmod (s 2) 40
    · simp only [if_pos q]
      refine ⟨hg, ht, ⟨he.1, Int.le_refl _⟩, hp, hk⟩
    · simp only [if_neg q]
      refine I.hr j h1 h2 ?_
      rw [Int.tmod_eq_emod_of_nonneg hE] at q
      omega
  · rw [ends_w hE ht hp]
    split
    · exact ⟨by omega, by omega⟩
    · exact I.ho.2.2.2.2
theorem sfl_at {d : Int} (hd : 0 < d) : ∀ (n : Nat) (i : Int) (s : Int → Int) (e : Int), sfl d n i s e = if i ≤ e ∧ e < i + n then s (e + d) else s e
  | 0, i, s, e => by rw [if_neg (by omega)]; rfl
  | n + 1, i, s, e => by
    show sfl d n (i + 1) (ups s i (s (i + d))) e = _
    rw [sfl_at hd n]
    by_cases q : e = i
    · subst q
      rw [if_neg (by omega), if_pos (by omega), ups_eq]
    · by_cases q2 : i + 1 ≤ e ∧ e < i + 1 + n
      · rw [if_pos q2, if_pos (by omega), ups_ne (by omega)]
      · rw [if_neg q2, if_neg (by omega), ups_ne q]
theorem elv_at {p k e : Int} (hp : 0 ≤ p ∧ p < 6) (hk : 0 ≤ k ∧ k < s (115 + p)) : e_lv s p k e = if 121 + 5 * (13 * p + k) ≤ e ∧ e < 121 + 5 * (13 * p + (s (115 + p) - 1)) then s (e + 5) else if e = 115 + p then s (115 + p) - 1 else s e := by
  simp only [e_lv]
  rw [sfl_at (by omega), ups_eq]
  by_cases q : 121 + 5 * (13 * p + k) ≤ e ∧ e < 121 + 5 * (13 * p + (s (115 + p) - 1))
  · rw [if_pos (by omega), if_pos q, ups_ne (by omega)]
  · rw [if_neg (by omega), if_neg q]
    rfl
theorem elv_sz {p k : Int} (hp : 0 ≤ p ∧ p < 6) (hk : 0 ≤ k ∧ k < s (115 + p)) : e_lv s p k (115 + p) = s (115 + p) - 1 := by
  rw [elv_at hp hk, if_neg (by omega), if_pos rfl]
theorem elv_ne {p k e : Int} (hp : 0 ≤ p ∧ p < 6) (hk : 0 ≤ k ∧ k < s (115 + p)) (hc : s (115 + p) ≤ 13) (h1 : e ≠ 115 + p) (h2 : ¬ (121 + 65 * p ≤ e ∧ e < 121 + 65 * p + 65)) : e_lv s p k e = s e := by
  rw [elv_at hp hk, if_neg (by omega), if_neg h1]
theorem elv_qv {p k q i w : Int} (hp : 0 ≤ p ∧ p < 6) (hk : 0 ≤ k ∧ k < s (115 + p)) (hc : s (115 + p) ≤ 13) (hi : 0 ≤ i ∧ i < 13) (hq : 0 ≤ q ∧ q < 6) (hw : 0 ≤ w ∧ w < 5) (hpq : p = q → i < s (115 + p) - 1) : qv (e_lv s p k) q i w = if q = p ∧ k ≤ i then qv s q (i + 1) w else qv s q i w := by
  unfold qv
  rw [elv_at hp hk]
  by_cases h : q = p ∧ k ≤ i
  · have := hpq h.1.symm
    rw [if_pos (by omega), if_pos h]
    congr 1
    omega
  · rw [if_neg (by omega), if_neg (by omega), if_neg h]
theorem lv_HI {p k c' : Int} (I : HI K P c N s) (hK : 0 ≤ K) (hP : 0 ≤ P) (hp : 0 ≤ p ∧ p < 6) (hk : 0 ≤ k ∧ k < s (115 + p)) (hc' : c' ≤ 13) (hc : ∀ q, 0 ≤ q → q < 6 → q ≠ p → s (115 + q) ≤ c') (hc2 : s (115 + p) - 1 ≤ c') : HI K P c' N (e_lv s p k) := by
  have hq := I.qn hp
  have hc13 := I.hq.1
  have ne : ∀ e, e ≠ 115 + p → ¬ (121 + 65 * p ≤ e ∧ e < 121 + 65 * p + 65) → e_lv s p k e = s e := fun e a1 a2 => elv_ne hp hk (by omega) a1 a2
  have sz : ∀ q, 0 ≤ q → q < 6 → e_lv s p k (115 + q) = if q = p then s (115 + p) - 1 else s (115 + q) := by
    intro q h1 h2
    by_cases h : q = p
    · rw [if_pos h, h]; exact elv_sz hp hk
    · rw [if_neg h]; exact ne _ (by omega) (by omega)
  have qe : ∀ q i w, 0 ≤ q → q < 6 → 0 ≤ i → i < e_lv s p k (115 + q) → 0 ≤ w → w < 5 → qv (e_lv s p k) q i w = qv s q (if q = p ∧ k ≤ i then i + 1 else i) w := by
    intro q i w h1 h2 h3 h4 h5 h6
    rw [sz q h1 h2] at h4
    have hq2 := I.qn ⟨h1, h2⟩
    rw [elv_qv hp hk (by omega) ⟨h3, by split at h4 <;> omega⟩ ⟨h1, h2⟩ ⟨h5, h6⟩ (fun e => by rw [if_pos e.symm] at h4; exact h4)]
    split <;> rfl
  have old : ∀ q i, 0 ≤ q → q < 6 → 0 ≤ i → i < e_lv s p k (115 + q) → 0 ≤ (if q = p ∧ k ≤ i then i + 1 else i) ∧ (if q = p ∧ k ≤ i then i + 1 else i) < s (115 + q) := by
    intro q i h1 h2 h3 h4
    rw [sz q h1 h2] at h4
    by_cases h : q = p
    · subst h
      rw [if_pos rfl] at h4
      split <;> omega
    · rw [if_neg h] at h4
      rw [if_neg (fun z => h z.1)]
      exact ⟨h3, h4⟩
  have z0 : e_lv s p k 0 = s 0 := ne 0 (by omega) (by omega)
  have z1 : e_lv s p k 1 = s 1 := ne 1 (by omega) (by omega)
  refine ⟨I.hk.of (fun i _ _ => ne i (by omega) (by omega)), I.ht.of (fun i _ _ => ne i (by omega) (by omega)), I.hm.of (fun i _ _ => ne i (by omega) (by omega)), fun e he => ?_, ⟨hc', fun q h1 h2 => ⟨?_, fun i h3 h4 => ?_⟩⟩, I.hs.of (fun i _ _ => ne i (by omega) (by omega)) (by omega) (by omega), I.hr.of (fun i _ _ => ne i (by omega) (by omega)) (by omega) (by omega) (ne 2 (by omega) (by omega)), ?_, ?_, I.ho.of (fun i _ _ => ne i (by omega) (by omega)) (ne _ (by omega) (by omega)) ?_⟩
  · have h5 := I.cn he
    unfold isC at he
    rw [ne e (by omega) (by omega)]
    exact h5
  · rw [sz q h1 h2]
    have := I.qn ⟨h1, h2⟩
    split
    · omega
    · exact ⟨this.1, hc q h1 h2 (by assumption)⟩
  · have o := old q i h1 h2 h3 h4
    exact (I.qe ⟨h1, h2⟩ o).mv (fun w hw hw' => qe q i w h1 h2 h3 h4 hw hw') (by omega) (by omega)
  · refine ⟨fun q h1 h2 => ?_, fun q k' h1 h2 h3 h4 => ?_⟩
    · have := I.hz.1 q h1 h2
      have hpq : q ≠ p := fun e => by subst e; omega
      rw [sz q (by omega) h2, if_neg hpq, ne _ (by omega) (by omega)]
      exact this
    · have := I.hz.2 q k' h1 h2 h3 h4
      unfold td at this ⊢
      rw [ne _ (by omega) (by omega)]
      exact this
  · refine ⟨fun q i r j h1 h2 h3 h4 h5 h6 h7 h8 => ?_, fun q i r j h1 h2 h3 h4 h5 h6 h7 h8 => ?_⟩
    · rw [qe q i 0 h1 h2 h3 h4 (by omega) (by omega), qe r j 0 h5 h6 h7 h8 (by omega) (by omega)]
      intro hh
      have o1 := old q i h1 h2 h3 h4
      have o2 := old r j h5 h6 h7 h8
      have := I.hd.1 q _ r _ h1 h2 o1.1 o1.2 h5 h6 o2.1 o2.2 hh
      obtain ⟨e1, e2⟩ := this
      subst e1
      refine ⟨rfl, ?_⟩
      by_cases a : q = p ∧ k ≤ i <;> by_cases b : q = p ∧ k ≤ j
      · rw [if_pos a, if_pos b] at e2; omega
      · rw [if_pos a, if_neg b] at e2; omega
      · rw [if_neg a, if_pos b] at e2; omega
      · rw [if_neg a, if_neg b] at e2; exact e2
    · rw [qe q i 0 h1 h2 h3 h4 (by omega) (by omega)]
      have o1 := old q i h1 h2 h3 h4
      rw [ne _ (by omega) (by omega)] at h8
      have hs8 := I.sn ⟨h5, h6⟩
      rw [sv_of (s := s) (fun i _ _ => ne i (by omega) (by omega)) ⟨h5, h6⟩ ⟨h7, by omega⟩ ⟨by omega, by omega⟩]
      exact I.hd.2 q _ r j h1 h2 o1.1 o1.2 h5 h6 h7 h8
  · rw [ne _ (by omega) (by omega)]
    exact I.ho.2.2.2.2
/-- what is needed of the world for all steps -/
theorem eiq_HI' {p k t c' : Int} (I : HI K P c N s) (hK : 0 ≤ K ∧ K ≤ 8) (hP : 0 ≤ P) (hp : 0 ≤ p ∧ p < 6) (hk : 0 ≤ k ∧ k < s (115 + p)) (ht : 0 ≤ t ∧ t < 6) (hc' : c' ≤ 13) (hc : ∀ q, 0 ≤ q → q < 6 → q ≠ p → s (115 + q) ≤ c') (hc2 : s (115 + p) - 1 ≤ c') : HI K P c' (N + 1) (e_eiq s p k t) := by
  have I1 := lv_HI (k := k) I hK.1 hP hp hk hc' hc hc2
  have q := I.qe hp hk
  have hq := I.qn hp
  have hc13 := I.hq.1
  unfold QE at q
  exact ends_HI I1 hK.1 hP (by rw [elv_ne hp hk (by omega) (by omega) (by omega)]; exact q.1) ht hp (by omega)
theorem eiq_HI {p k t : Int} (I : HI K P c N s) (hK : 0 ≤ K ∧ K ≤ 8) (hP : 0 ≤ P) (hp : 0 ≤ p ∧ p < 6) (hk : 0 ≤ k ∧ k < s (115 + p)) (ht : 0 ≤ t ∧ t < 6) : HI K P c (N + 1) (e_eiq s p k t) :=
  eiq_HI' I hK hP hp hk ht I.hq.1 (fun q h1 h2 _ => (I.qn ⟨h1, h2⟩).2) (by have := I.qn hp; omega)
theorem eiq_ne {p k t e : Int} (I : HI K P c N s) (hp : 0 ≤ p ∧ p < 6) (hk : 0 ≤ k ∧ k < s (115 + p)) (ht : 0 ≤ t ∧ t < 6) (h0 : e ≠ -2) (h2 : e ≠ 2) (h4 : ¬ (4 ≤ e ∧ e < 10)) (h9 : ¬ (91 ≤ e ∧ e < 115)) (h6 : ¬ (661 ≤ e ∧ e < 861)) (h1 : e ≠ 115 + p) (h7 : ¬ (121 + 65 * p ≤ e ∧ e < 121 + 65 * p + 65)) : e_eiq s p k t e = s e := by
  have hq := I.qn hp
  have hc13 := I.hq.1
  have hE := I.e2
  rw [e_eiq, ends_ne (by rw [elv_ne hp hk (by omega) (by omega) (by omega)]; exact hE.1) ht hp h0 h2 h4 h9 h6, elv_ne hp hk (by omega) h1 h7]
theorem eiq_sz {p k t : Int} (I : HI K P c N s) (hp : 0 ≤ p ∧ p < 6) (hk : 0 ≤ k ∧ k < s (115 + p)) (ht : 0 ≤ t ∧ t < 6) : e_eiq s p k t (115 + p) = s (115 + p) - 1 := by
  have hq := I.qn hp
  have hc13 := I.hq.1
  have hE := I.e2
  rw [e_eiq, ends_ne (by rw [elv_ne hp hk (by omega) (by omega) (by omega)]; exact hE.1) ht hp (by omega) (by omega) (by omega) (by omega) (by omega), elv_sz hp hk]
end OPS
