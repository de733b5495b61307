/-! sending keeps what holds of a hall's row -/
section OPS2
variable {K P c N : Int} {s s' : Int → Int} {D : Nat → Int → Int}
theorem snd0_ne {p k v b a e : Int} (hp : 0 ≤ p ∧ p < 6) (hb : -1 ≤ b ∧ b < 6) (ha : 121 ≤ a ∧ a ≤ 506) (h1 : e ≠ 1) (h2 : e ≠ 115 + p) (h3 : ¬ (91 ≤ e ∧ e < 115)) (h4 : ¬ (a ≤ e ∧ e < a + 5)) : e_snd0 s p k v b a e = s e := by
  simp only [e_snd0, e_cnt]
  split <;> (repeat rw [ups_ne (by omega)])
theorem snd0_c {p k v b a e : Int} (hp : 0 ≤ p ∧ p < 6) (hb : -1 ≤ b ∧ b < 6) (ha : 121 ≤ a ∧ a ≤ 506) (he : isC e) : s e ≤ e_snd0 s p k v b a e ∧ e_snd0 s p k v b a e ≤ s e + 1 := by
  unfold isC at he
  simp only [e_snd0, e_cnt]
  split
  · by_cases q1 : e = 91 + 4 * p + 0
    · rw [q1, ups_eq]
      repeat rw [ups_ne (by omega)]
      omega
    · rw [ups_ne q1]
      by_cases q2 : e = 1
      · rw [q2, ups_eq]
        repeat rw [ups_ne (by omega)]
        omega
      · rw [ups_ne q2]
        repeat rw [ups_ne (by omega)]
        omega
  · by_cases q0 : e = 91 + 4 * b + 1
    · rw [q0, ups_eq]
      repeat rw [ups_ne (by omega)]
      omega
    rw [ups_ne q0]
    by_cases q1 : e = 91 + 4 * p + 0
    · rw [q1, ups_eq]
      repeat rw [ups_ne (by omega)]
      omega
    · rw [ups_ne q1]
      by_cases q2 : e = 1
      · rw [q2, ups_eq]
        repeat rw [ups_ne (by omega)]
        omega
      · rw [ups_ne q2]
        repeat rw [ups_ne (by omega)]
        omega
theorem snd0_1 {p k v b a : Int} (hp : 0 ≤ p ∧ p < 6) (hb : -1 ≤ b ∧ b < 6) (ha : 121 ≤ a ∧ a ≤ 506) : e_snd0 s p k v b a 1 = s 1 + 1 := by
  simp only [e_snd0, e_cnt]
  split <;> ((repeat rw [ups_ne (by omega)]); rw [ups_eq]; (repeat rw [ups_ne (by omega)]))
theorem snd0_sz {p k v b a : Int} (hp : 0 ≤ p ∧ p < 6) (hb : -1 ≤ b ∧ b < 6) (ha : 121 ≤ a ∧ a ≤ 506) : e_snd0 s p k v b a (115 + p) = s (115 + p) + 1 := by
  simp only [e_snd0, e_cnt]
  split <;> ((repeat rw [ups_ne (by omega)]); rw [ups_eq]; (repeat rw [ups_ne (by omega)]))
theorem snd0_new {p k v b a w : Int} (hp : 0 ≤ p ∧ p < 6) (hb : -1 ≤ b ∧ b < 6) (ha : 121 ≤ a ∧ a ≤ 506) (hw : 0 ≤ w ∧ w < 5) : e_snd0 s p k v b a (a + w) = if w = 0 then s 1 else if w = 1 then k else if w = 2 then b else if w = 3 then v else s 0 := by
  simp only [e_snd0, e_cnt]
  have hw' : w = 0 ∨ w = 1 ∨ w = 2 ∨ w = 3 ∨ w = 4 := by omega
  rcases hw' with rfl | rfl | rfl | rfl | rfl <;> split <;> ((repeat rw [ups_ne (by omega)]); rw [ups_eq]; first | rfl | ((repeat rw [ups_ne (by omega)]); rfl))
theorem snd0_qv {p k v b q i w : Int} (hp : 0 ≤ p ∧ p < 6) (hb : -1 ≤ b ∧ b < 6) (hs : 0 ≤ s (115 + p) ∧ s (115 + p) ≤ 12) (hq : 0 ≤ q ∧ q < 6) (hi : 0 ≤ i ∧ i < 13) (hw : 0 ≤ w ∧ w < 5) : qv (e_snd0 s p k v b (121 + 5 * (13 * p + s (115 + p)))) q i w = if q = p ∧ i = s (115 + p) then (if w = 0 then s 1 else if w = 1 then k else if w = 2 then b else if w = 3 then v else s 0) else qv s q i w := by
  unfold qv
  by_cases h : q = p ∧ i = s (115 + p)
  · rw [if_pos h, h.1, h.2]
    exact snd0_new hp hb (by omega) hw
  · rw [if_neg h]
    exact snd0_ne hp hb (by omega) (by omega) (by omega) (by omega) (by omega)
theorem snd0_HI {p k v b c' : Int} (I : HI K P c N s) (hK : 0 ≤ K) (hP : 0 ≤ P ∧ P ≤ 6) (hp : 0 ≤ p ∧ p < P) (hk : 0 ≤ k ∧ k < K) (hv : 0 ≤ v ∧ v < 1000) (hb : -1 ≤ b ∧ b < 6) (hs : s (115 + p) ≤ 12) (hc' : c' ≤ 13) (hc : ∀ q, 0 ≤ q → q < 6 → q ≠ p → s (115 + q) ≤ c') (hc2 : s (115 + p) + 1 ≤ c') : HI K P c' (N + 1) (e_snd0 s p k v b (121 + 5 * (13 * p + s (115 + p)))) := by
  have hp6 : 0 ≤ p ∧ p < 6 := by omega
  have hs0 := I.qn hp6
  have hc13 := I.hq.1
  have ha : 121 ≤ 121 + 5 * (13 * p + s (115 + p)) ∧ 121 + 5 * (13 * p + s (115 + p)) ≤ 506 := by omega
  have ne : ∀ e, e ≠ 1 → e ≠ 115 + p → ¬ (91 ≤ e ∧ e < 115) → ¬ (121 ≤ e ∧ e < 511) → e_snd0 s p k v b (121 + 5 * (13 * p + s (115 + p))) e = s e := fun e a1 a2 a3 a4 => snd0_ne hp6 hb ha a1 a2 a3 (by omega)
  have qq : ∀ q i w, 0 ≤ q → q < 6 → 0 ≤ i → i < 13 → 0 ≤ w → w < 5 → qv (e_snd0 s p k v b (121 + 5 * (13 * p + s (115 + p)))) q i w = if q = p ∧ i = s (115 + p) then (if w = 0 then s 1 else if w = 1 then k else if w = 2 then b else if w = 3 then v else s 0) else qv s q i w := fun q i w a1 a2 a3 a4 a5 a6 => snd0_qv hp6 hb ⟨hs0.1, hs⟩ ⟨a1, a2⟩ ⟨a3, a4⟩ ⟨a5, a6⟩
  have z0 : e_snd0 s p k v b (121 + 5 * (13 * p + s (115 + p))) 0 = s 0 := ne 0 (by omega) (by omega) (by omega) (by omega)
  have z1 := snd0_1 (s := s) (k := k) (v := v) hp6 hb ha
  have sz : ∀ q, 0 ≤ q → q < 6 → e_snd0 s p k v b (121 + 5 * (13 * p + s (115 + p))) (115 + q) = if q = p then s (115 + p) + 1 else s (115 + q) := by
    intro q h1 h2
    by_cases h : q = p
    · rw [if_pos h, h]; exact snd0_sz hp6 hb ha
    · rw [if_neg h]; exact ne _ (by omega) (by omega) (by omega) (by omega)
  have he0 := I.e0
  have he1 := I.e1
  have sv_eq : ∀ q j w, 0 ≤ q → q < 6 → 0 ≤ j → j < 4 → 0 ≤ w → w < 6 → sv (e_snd0 s p k v b (121 + 5 * (13 * p + s (115 + p)))) q j w = sv s q j w := fun q j w a1 a2 a3 a4 a5 a6 => sv_of (s := s) (fun i _ _ => ne i (by omega) (by omega) (by omega) (by omega)) ⟨a1, a2⟩ ⟨a3, a4⟩ ⟨a5, a6⟩
  refine ⟨I.hk.of (fun i _ _ => ne i (by omega) (by omega) (by omega) (by omega)), I.ht.of (fun i _ _ => ne i (by omega) (by omega) (by omega) (by omega)), I.hm.of (fun i _ _ => ne i (by omega) (by omega) (by omega) (by omega)), fun e he => ?_, ⟨hc', fun q h1 h2 => ⟨?_, fun i h3 h4 => ?_⟩⟩, I.hs.of (fun i _ _ => ne i (by omega) (by omega) (by omega) (by omega)) (by omega) (by omega), I.hr.of (fun i _ _ => ne i (by omega) (by omega) (by omega) (by omega)) (by omega) (by omega) (ne 2 (by omega) (by omega) (by omega) (by omega)), ?_, ⟨?_, ?_⟩, I.ho.of (fun i _ _ => ne i (by omega) (by omega) (by omega) (by omega)) (ne _ (by omega) (by omega) (by omega) (by omega)) ?_⟩
  · have h5 := I.cn he
    have := snd0_c (s := s) (k := k) (v := v) hp6 hb ha he
    omega
  · rw [sz q h1 h2]
    have := I.qn ⟨h1, h2⟩
    split
    · omega
    · exact ⟨this.1, hc q h1 h2 (by assumption)⟩
  · rw [sz q h1 h2] at h4
    have hqn := I.qn ⟨h1, h2⟩
    by_cases h : q = p ∧ i = s (115 + p)
    · have i13 : i < 13 := by omega
      unfold QE
      rw [qq q i 0 h1 h2 h3 i13 (by omega) (by omega), qq q i 1 h1 h2 h3 i13 (by omega) (by omega), qq q i 2 h1 h2 h3 i13 (by omega) (by omega), qq q i 3 h1 h2 h3 i13 (by omega) (by omega), qq q i 4 h1 h2 h3 i13 (by omega) (by omega), z0, z1]
      simp only [if_pos h]
      refine ⟨⟨he1.1, ?_⟩, hk, hb, hv, ⟨he0.1, Int.le_refl _⟩⟩
      show s 1 < s 1 + 1
      omega
    · have h4' : i < s (115 + q) := by
        by_cases hh : q = p
        · rw [if_pos hh] at h4
          subst hh
          omega
        · rw [if_neg hh] at h4
          exact h4
      refine (I.qe ⟨h1, h2⟩ ⟨h3, h4'⟩).mv (fun w hw hw' => ?_) (by omega) (by omega)
      rw [qq q i w h1 h2 h3 (by omega) hw hw', if_neg h]
  · refine ⟨fun q h1 h2 => ?_, fun q k' h1 h2 h3 h4 => ?_⟩
    · have := I.hz.1 q h1 h2
      rw [sz q (by omega) h2, if_neg (by omega), ne _ (by omega) (by omega) (by omega) (by omega)]
      exact this
    · have := I.hz.2 q k' h1 h2 h3 h4
      unfold td at this ⊢
      rw [ne _ (by omega) (by omega) (by omega) (by omega)]
      exact this
  · intro q i r j h1 h2 h3 h4 h5 h6 h7 h8
    rw [sz q h1 h2] at h4
    rw [sz r h5 h6] at h8
    have q1 := I.qn ⟨h1, h2⟩
    have q2 := I.qn ⟨h5, h6⟩
    have i13 : i < 13 := by split at h4 <;> omega
    have j13 : j < 13 := by split at h8 <;> omega
    rw [qq q i 0 h1 h2 h3 i13 (by omega) (by omega), qq r j 0 h5 h6 h7 j13 (by omega) (by omega)]
    by_cases u : q = p ∧ i = s (115 + p) <;> by_cases w : r = p ∧ j = s (115 + p)
    · intro _
      omega
    · rw [if_pos u, if_neg w, if_pos rfl]
      intro e
      have : j < s (115 + r) := by
        by_cases hh : r = p
        · rw [if_pos hh] at h8; subst hh; omega
        · rw [if_neg hh] at h8; exact h8
      have := (I.qe ⟨h5, h6⟩ ⟨h7, this⟩).1
      omega
    · rw [if_neg u, if_pos w, if_pos rfl]
      intro e
      have : i < s (115 + q) := by
        by_cases hh : q = p
        · rw [if_pos hh] at h4; subst hh; omega
        · rw [if_neg hh] at h4; exact h4
      have := (I.qe ⟨h1, h2⟩ ⟨h3, this⟩).1
      omega
    · rw [if_neg u, if_neg w]
      have a1 : i < s (115 + q) := by
        by_cases hh : q = p
        · rw [if_pos hh] at h4; subst hh; omega
        · rw [if_neg hh] at h4; exact h4
      have a2 : j < s (115 + r) := by
        by_cases hh : r = p
        · rw [if_pos hh] at h8; subst hh; omega
        · rw [if_neg hh] at h8; exact h8
      exact I.hd.1 q i r j h1 h2 h3 a1 h5 h6 h7 a2
  · intro q i r j h1 h2 h3 h4 h5 h6 h7 h8
    rw [sz q h1 h2] at h4
    rw [ne _ (by omega) (by omega) (by omega) (by omega)] at h8
    have q1 := I.qn ⟨h1, h2⟩
    have q2 := I.sn ⟨h5, h6⟩
    have i13 : i < 13 := by split at h4 <;> omega
    rw [qq q i 0 h1 h2 h3 i13 (by omega) (by omega), sv_eq r j 0 h5 h6 h7 (by omega) (by omega) (by omega)]
    by_cases u : q = p ∧ i = s (115 + p)
    · rw [if_pos u, if_pos rfl]
      have := (I.se ⟨h5, h6⟩ ⟨h7, h8⟩).1
      omega
    · rw [if_neg u]
      have a1 : i < s (115 + q) := by
        by_cases hh : q = p
        · rw [if_pos hh] at h4; subst hh; omega
        · rw [if_neg hh] at h4; exact h4
      exact I.hd.2 q i r j h1 h2 h3 a1 h5 h6 h7 h8
  · rw [ne _ (by omega) (by omega) (by omega) (by omega)]
    exact I.ho.2.2.2.2
theorem snd_HI {p k v b : Int} (I : HI K P (D 0 2) N s) (hD : D 0 2 ≤ 12) (hK : 0 ≤ K ∧ K ≤ 8) (hP : 0 ≤ P ∧ P ≤ 6) (hp : 0 ≤ p ∧ p < P) (hk : 0 ≤ k ∧ k < K) (hv : 0 ≤ v ∧ v < 1000) (hb : -1 ≤ b ∧ b < 6) : HI K P (D 0 2) (N + 2) (e_snd D s p k v b) := by
  have hp6 : 0 ≤ p ∧ p < 6 := by omega
  have hs0 := I.qn hp6
  have ha : 121 ≤ 121 + 5 * (13 * p + s (115 + p)) ∧ 121 + 5 * (13 * p + s (115 + p)) ≤ 506 := by omega
  have sz := snd0_sz (s := s) (k := k) (v := v) hp6 hb ha
  have szn : ∀ q, 0 ≤ q → q < 6 → q ≠ p → e_snd0 s p k v b (121 + 5 * (13 * p + s (115 + p))) (115 + q) = s (115 + q) := fun q h1 h2 h => snd0_ne hp6 hb ha (by omega) (by omega) (by omega) (by omega)
  simp only [e_snd]
  split
  · rename_i hlt
    have I1 := snd0_HI (c' := D 0 2 + 1) I hK.1 hP hp hk hv hb (by omega) (by omega) (fun q h1 h2 _ => by have := I.qn ⟨h1, h2⟩; omega) (by omega)
    have hr := (plc_spec (s := e_snd0 s p k v b (121 + 5 * (13 * p + s (115 + p)))) (p := p) (x := e_snd0 s p k v b (121 + 5 * (13 * p + s (115 + p))) (115 + p) - 1) ⟨by omega, by omega⟩).1
    have := eiq_HI' (t := 3) (c' := D 0 2) I1 hK hP.1 hp6 hr (by omega) (by omega) (fun q h1 h2 h => by rw [szn q h1 h2 h]; exact (I.qn ⟨h1, h2⟩).2) (by omega)
    exact this.mono (by omega)
  · rename_i hlt
    have I1 := snd0_HI (c' := D 0 2) I hK.1 hP hp hk hv hb (by omega) (by omega) (fun q h1 h2 _ => (I.qn ⟨h1, h2⟩).2) (by omega)
    exact I1.mono (by omega)
theorem drl_HI {p kd : Int} (hK : 0 ≤ K ∧ K ≤ 8) (hP : 0 ≤ P) (hp : 0 ≤ p ∧ p < 6) : ∀ (n : Nat) (k N : Int) (s : Int → Int), HI K P c N s → 0 ≤ k → k + n = s (115 + p) → HI K P c (N + n) (e_drl p kd n k s)
  | 0, k, N, s, I, _, _ => I.mono (by omega)
  | n + 1, k, N, s, I, h0, h1 => by
    show HI K P c _ (if kd = -1 ∨ qv s p k 1 = kd then e_drl p kd n k (e_eiq s p k 5) else e_drl p kd n (k + 1) s)
    split
    · have I1 := eiq_HI (t := 5) (k := k) I hK hP hp ⟨h0, by omega⟩ (by omega)
      exact (drl_HI hK hP hp n k (N + 1) _ I1 h0 (by rw [eiq_sz I hp ⟨h0, by omega⟩ (by omega)]; omega)).mono (by omega)
    · exact (drl_HI hK hP hp n (k + 1) N s I (by omega) (by omega)).mono (by omega)
theorem drops_HI {p kd : Int} (I : HI K P c N s) (hK : 0 ≤ K ∧ K ≤ 8) (hP : 0 ≤ P) (hp : 0 ≤ p ∧ p < 6) : HI K P c (N + 13) (e_drops s p kd) := by
  have := I.qn hp
  have := I.hq.1
  exact (drl_HI hK hP hp _ 0 N s I (by omega) (by omega)).mono (by omega)
theorem agl_HI {p : Int} (hK : 0 ≤ K ∧ K ≤ 8) (hP : 0 ≤ P) (hp : 0 ≤ p ∧ p < 6) : ∀ (n : Nat) (k N : Int) (s : Int → Int), HI K P c N s → 0 ≤ k → k + n = s (115 + p) → HI K P c (N + n) (e_agl p n k s)
  | 0, k, N, s, I, _, _ => I.mono (by omega)
  | n + 1, k, N, s, I, h0, h1 => by
    show HI K P c _ (if kn s (qv s p k 1) 2 ≤ s 0 - qv s p k 4 then e_agl p n k (e_eiq s p k 2) else e_agl p n (k + 1) s)
    split
    · have I1 := eiq_HI (t := 2) (k := k) I hK hP hp ⟨h0, by omega⟩ (by omega)
      exact (agl_HI hK hP hp n k (N + 1) _ I1 h0 (by rw [eiq_sz I hp ⟨h0, by omega⟩ (by omega)]; omega)).mono (by omega)
    · exact (agl_HI hK hP hp n (k + 1) N s I (by omega) (by omega)).mono (by omega)
theorem ages_HI {p : Int} (I : HI K P c N s) (hK : 0 ≤ K ∧ K ≤ 8) (hP : 0 ≤ P) (hp : 0 ≤ p ∧ p < 6) : HI K P c (N + 13) (e_ages s p) := by
  have := I.qn hp
  have := I.hq.1
  exact (agl_HI hK hP hp _ 0 N s I (by omega) (by omega)).mono (by omega)
end OPS2
