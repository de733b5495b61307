/-! ticks keep what holds of a hall's row -/
section OPS4
variable {K P c N : Int} {s s' : Int → Int} {D : Nat → Int → Int}
theorem lft_HI {p x : Int} (I : HI K P c N s) (hK : 0 ≤ K) (hP : 0 ≤ P) (hp : 0 ≤ p ∧ p < 6) (hs : 0 < s (511 + p)) (hx : 1 ≤ x ∧ x ≤ 20) : HI K P c N (ups s (517 + 6 * (4 * p + (s (511 + p) - 1)) + 3) x) := by
  have hs0 := I.sn hp
  have ne : ∀ e, e ≠ 517 + 6 * (4 * p + (s (511 + p) - 1)) + 3 → ups s (517 + 6 * (4 * p + (s (511 + p) - 1)) + 3) x e = s e := fun e h => ups_ne h
  have e0 := ne 0 (by omega)
  have e1 := ne 1 (by omega)
  have svn : ∀ q j w, 0 ≤ q → q < 6 → 0 ≤ j → j < 4 → 0 ≤ w → w < 6 → w ≠ 3 → sv (ups s (517 + 6 * (4 * p + (s (511 + p) - 1)) + 3) x) q j w = sv s q j w := fun q j w _ _ _ _ _ _ _ => ne _ (by omega)
  refine ⟨I.hk.of (fun i _ _ => ne i (by omega)), I.ht.of (fun i _ _ => ne i (by omega)), I.hm.of (fun i _ _ => ne i (by omega)), fun e he => ?_, I.hq.of (fun i _ _ => ne i (by omega)) (by omega) (by omega), fun q h1 h2 => ⟨?_, fun j h3 h4 => ?_⟩, I.hr.of (fun i _ _ => ne i (by omega)) (by omega) (by omega) (ne 2 (by omega)), I.hz.of hK hP (fun q h1 h2 => ⟨ne _ (by omega), ne _ (by omega)⟩) (fun i _ _ => ne i (by omega)), ⟨fun q i r j h1 h2 h3 h4 h5 h6 h7 h8 => ?_, fun q i r j h1 h2 h3 h4 h5 h6 h7 h8 => ?_⟩, I.ho.of (fun i _ _ => ne i (by omega)) (ne _ (by omega)) (by rw [ne _ (by omega)]; exact I.ho.2.2.2.2)⟩
  · have := I.cn he
    unfold isC at he
    rw [ne e (by omega)]
    exact this
  · rw [ne _ (by omega)]
    exact I.sn ⟨h1, h2⟩
  · rw [ne _ (by omega)] at h4
    have h9 := I.sn ⟨h1, h2⟩
    have h := I.se ⟨h1, h2⟩ ⟨h3, h4⟩
    unfold SE at h ⊢
    rw [svn q j 0 h1 h2 h3 (by omega) (by omega) (by omega) (by omega), svn q j 1 h1 h2 h3 (by omega) (by omega) (by omega) (by omega), svn q j 2 h1 h2 h3 (by omega) (by omega) (by omega) (by omega), svn q j 4 h1 h2 h3 (by omega) (by omega) (by omega) (by omega), svn q j 5 h1 h2 h3 (by omega) (by omega) (by omega) (by omega), e0, e1]
    refine ⟨h.1, h.2.1, h.2.2.1, ?_, h.2.2.2.2⟩
    unfold sv ups at *
    split <;> omega
  · rw [ne _ (by omega)] at h4 h8
    have a1 := (I.qn ⟨h1, h2⟩).2
    have a2 := (I.qn ⟨h5, h6⟩).2
    have a3 := I.hq.1
    rw [qv_of (s := s) (fun i _ _ => ne i (by omega)) ⟨h1, h2⟩ ⟨h3, by omega⟩ ⟨by omega, by omega⟩, qv_of (s := s) (fun i _ _ => ne i (by omega)) ⟨h5, h6⟩ ⟨h7, by omega⟩ ⟨by omega, by omega⟩]
    exact I.hd.1 q i r j h1 h2 h3 h4 h5 h6 h7 h8
  · rw [ne _ (by omega)] at h4 h8
    have a1 := (I.qn ⟨h1, h2⟩).2
    have a2 := (I.sn ⟨h5, h6⟩).2
    have a3 := I.hq.1
    rw [qv_of (s := s) (fun i _ _ => ne i (by omega)) ⟨h1, h2⟩ ⟨h3, by omega⟩ ⟨by omega, by omega⟩, svn r j 0 h5 h6 h7 (by omega) (by omega) (by omega) (by omega)]
    exact I.hd.2 q i r j h1 h2 h3 h4 h5 h6 h7 h8
theorem wk_HI {p : Int} (I : HI K P (D 0 2) N s) (hD : PIv D) (hK : K = D 0 3) (hP : P = D 0 4) (hp : 0 ≤ p ∧ p < P) : HI K P (D 0 2) (N + 53) (e_wk D s p) := by
  obtain ⟨d2, d3, d4, dh⟩ := id hD
  have hp6 : 0 ≤ p ∧ p < 6 := by omega
  have hs0 := I.sn hp6
  unfold e_wk
  split
  · exact I.mono (by omega)
  · rename_i hs
    have e := I.se hp6 (i := s (511 + p) - 1) ⟨by omega, by omega⟩
    unfold SE at e
    simp only []
    have ne : ∀ e, e ≠ 517 + 6 * (4 * p + (s (511 + p) - 1)) + 3 → ups s (517 + 6 * (4 * p + (s (511 + p) - 1)) + 3) (s (517 + 6 * (4 * p + (s (511 + p) - 1)) + 3) - 1) e = s e := fun e h => ups_ne h
    have n1 := ne (517 + 6 * (4 * p + (s (511 + p) - 1)) + 1) (by omega)
    have n4 := ne (517 + 6 * (4 * p + (s (511 + p) - 1)) + 4) (by omega)
    have e1 : 0 ≤ s (517 + 6 * (4 * p + (s (511 + p) - 1)) + 1) ∧ s (517 + 6 * (4 * p + (s (511 + p) - 1)) + 1) < K := e.2.1
    have e3 : 1 ≤ s (517 + 6 * (4 * p + (s (511 + p) - 1)) + 3) ∧ s (517 + 6 * (4 * p + (s (511 + p) - 1)) + 3) ≤ 20 := e.2.2.2.1
    have e4 : 0 ≤ s (517 + 6 * (4 * p + (s (511 + p) - 1)) + 4) ∧ s (517 + 6 * (4 * p + (s (511 + p) - 1)) + 4) < 1000 := e.2.2.2.2.1
    rw [ups_eq]
    split
    · exact (lft_HI I (by omega) (by omega) hp6 (by omega) (by omega)).mono (by omega)
    · have J := wk0_HI I ne (by omega) (by omega) hp6 (by omega) e.1 e.2.1
      rw [n1, n4]
      have h8 : 0 ≤ 8 * p + s (517 + 6 * (4 * p + (s (511 + p) - 1)) + 1) ∧ 8 * p + s (517 + 6 * (4 * p + (s (511 + p) - 1)) + 1) < 48 := by omega
      have a4 := (dh _ h8.1 h8.2).2.1
      exact (acl_HI hD hK hP hp h8 e4 _ 0 (N + 1) _ J (by omega) (by omega)).mono (by omega)
theorem time_HI (I : HI K P c N s) (hK : 0 ≤ K) (hP : 0 ≤ P) : HI K P c (N + 1) (ups s 0 (s 0 + 1)) := by
  have ne : ∀ e, e ≠ 0 → ups s 0 (s 0 + 1) e = s e := fun e h => ups_ne h
  have e0 : ups s 0 (s 0 + 1) 0 = s 0 + 1 := ups_eq _ _ _
  have e1 := ne 1 (by omega)
  refine ⟨I.hk.of (fun i _ _ => ne i (by omega)), I.ht.of (fun i _ _ => ne i (by omega)), I.hm.of (fun i _ _ => ne i (by omega)), fun e he => ?_, I.hq.of (fun i _ _ => ne i (by omega)) (by omega) (by omega), I.hs.of (fun i _ _ => ne i (by omega)) (by omega) (by omega), I.hr.of (fun i _ _ => ne i (by omega)) (by omega) (by omega) (ne 2 (by omega)), I.hz.of hK hP (fun q h1 h2 => ⟨ne _ (by omega), ne _ (by omega)⟩) (fun i _ _ => ne i (by omega)), HId.of I.hq I.hs I.hd (fun i _ _ => ne i (by omega)), I.ho.of (fun i _ _ => ne i (by omega)) (ne _ (by omega)) (by rw [ne _ (by omega)]; exact I.ho.2.2.2.2)⟩
  have := I.cn he
  by_cases h : e = 0
  · rw [h, e0]; rw [h] at this; omega
  · rw [ne e h]; omega
theorem tir_HI {e z : Int} (I : HI K P c N s) (hK : 0 ≤ K) (hP : 0 ≤ P) (he : 37 ≤ e ∧ e < 85) (hz : 0 ≤ z ∧ z ≤ 99) (hz2 : s e = 0 → z = 0) : HI K P c N (ups s e z) := by
  have ne : ∀ i, i ≠ e → ups s e z i = s i := fun e h => ups_ne h
  have e0 := ne 0 (by omega)
  have e1 := ne 1 (by omega)
  have htt : ∀ i, ups s e z i = if i = e then z else s i := fun i => rfl
  refine ⟨I.hk.of (fun i _ _ => ne i (by omega)), fun q k h1 h2 h3 h4 => ?_, I.hm.of (fun i _ _ => ne i (by omega)), fun i hi => ?_, I.hq.of (fun i _ _ => ne i (by omega)) (by omega) (by omega), I.hs.of (fun i _ _ => ne i (by omega)) (by omega) (by omega), I.hr.of (fun i _ _ => ne i (by omega)) (by omega) (by omega) (ne 2 (by omega)), ⟨fun q h1 h2 => ?_, fun q k h1 h2 h3 h4 => ?_⟩, HId.of I.hq I.hs I.hd (fun i _ _ => ne i (by omega)), I.ho.of (fun i _ _ => ne i (by omega)) (ne _ (by omega)) (by rw [ne _ (by omega)]; exact I.ho.2.2.2.2)⟩
  · have := I.ht q k h1 h2 h3 h4
    unfold td at this ⊢
    rw [htt]
    split <;> omega
  · have := I.cn hi
    unfold isC at hi
    rw [ne _ (by omega)]
    exact this
  · have := I.hz.1 q h1 h2
    rw [ne _ (by omega), ne _ (by omega)]
    exact this
  · have := I.hz.2 q k h1 h2 h3 h4
    unfold td at this ⊢
    rw [htt]
    split
    · rename_i h; exact hz2 (by rw [← h]; exact this)
    · exact this
theorem rsl_HI (hK : 0 ≤ K) (hP : 0 ≤ P) : ∀ (n : Nat) (k : Int) (s : Int → Int), HI K P c N s → 0 ≤ k → k + n = 48 → HI K P c N (e_rsl n k s)
  | 0, _, s, I, _, _ => I
  | n + 1, k, s, I, h0, h1 => by
    have ht := I.td (p := k / 8) (k := k % 8) ⟨by omega, by omega⟩ ⟨by omega, by omega⟩
    unfold td at ht
    rw [show 37 + 8 * (k / 8) + k % 8 = 37 + k by omega] at ht
    exact rsl_HI hK hP n (k + 1) _ (tir_HI I hK hP ⟨by omega, by omega⟩ (by split <;> omega) (fun h => by rw [h]; rfl)) (by omega) (by omega)
theorem bg_HI {p : Int} (I : HI K P c N s) (hD : PIv D) (hK : K = D 0 3) (hP : 0 ≤ P ∧ P ≤ 6) (hp : 0 ≤ p ∧ p < P) : HI K P c (N + 14) (e_bg D s p) := by
  have := I.qn (p := p) (by omega)
  have := I.hq.1
  exact (bgl_HI hD hK hP hp _ N s I).mono (by omega)
theorem prl_HI (hD : PIv D) (hK : K = D 0 3) (hP : P = D 0 4) : ∀ (n : Nat) (p N : Int) (s : Int → Int), HI K P (D 0 2) N s → 0 ≤ p → p + n ≤ P → HI K P (D 0 2) (N + 80 * n) (e_prl D n p s)
  | 0, _, N, s, I, _, _ => I.mono (by omega)
  | n + 1, p, N, s, I, h0, h1 => by
    obtain ⟨d2, d3, d4, dh⟩ := id hD
    have I1 := ages_HI (p := p) I (by omega) (by omega) (by omega)
    have I2 := bg_HI (p := p) I1 hD hK (by omega) (by omega)
    have I3 := wk_HI (p := p) I2 hD hK hP (by omega)
    exact (prl_HI hD hK hP n (p + 1) _ _ I3 (by omega) (by omega)).mono (by omega)
theorem tick_HI (I : HI K P (D 0 2) N s) (hD : PIv D) (hK : K = D 0 3) (hP : P = D 0 4) : HI K P (D 0 2) (N + 481) (e_tick D s) := by
  obtain ⟨d2, d3, d4, dh⟩ := id hD
  have I1 := time_HI I (by omega) (by omega)
  have I2 : HI K P (D 0 2) (N + 1) (if Int.tmod (ups s 0 (s 0 + 1) 0) (ups s 0 (s 0 + 1) 12) = 0 then e_rsl 48 0 (ups s 0 (s 0 + 1)) else ups s 0 (s 0 + 1)) := by
    split
    · exact rsl_HI (by omega) (by omega) 48 0 _ I1 (by omega) (by omega)
    · exact I1
  exact (prl_HI hD hK hP _ 0 _ _ I2 (by omega) (by omega)).mono (by omega)
theorem tks_HI (hD : PIv D) (hK : K = D 0 3) (hP : P = D 0 4) : ∀ (n : Nat) (N : Int) (s : Int → Int), HI K P (D 0 2) N s → HI K P (D 0 2) (N + 481 * n) (e_tks D n s)
  | 0, N, s, I => I.mono (by omega)
  | n + 1, N, s, I => (tks_HI hD hK hP n _ _ (tick_HI I hD hK hP)).mono (by omega)
end OPS4
