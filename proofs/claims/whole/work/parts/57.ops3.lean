/-! beginning, working, ticks keep what holds of a hall's row -/
section OPS3
variable {K P c N : Int} {s s' : Int → Int} {D : Nat → Int → Int}
theorem nxl_rng {p : Int} : ∀ (n : Nat) (k best : Int), 0 ≤ k → (best = -1 ∨ 0 ≤ best ∧ best < k) → nxl s p n k best = -1 ∨ 0 ≤ nxl s p n k best ∧ nxl s p n k best < k + n
  | 0, k, best, h0, h => by
    show best = -1 ∨ 0 ≤ best ∧ best < k + ((0 : Nat) : Int)
    omega
  | n + 1, k, best, h0, h => by
    have := nxl_rng (p := p) n (k + 1) (if msk s p (qv s p k 1) = 0 ∧ (best = -1 ∨ ahd s p k best = 1) then k else best) (by omega) (by split <;> omega)
    show nxl s p n (k + 1) _ = -1 ∨ 0 ≤ nxl s p n (k + 1) _ ∧ nxl s p n (k + 1) _ < k + ((n + 1 : Nat) : Int)
    omega
theorem nxt_rng (p : Int) : nxt s p = -1 ∨ 0 ≤ nxt s p ∧ nxt s p < s (115 + p) := by
  have := nxl_rng (s := s) (p := p) (s (115 + p)).toNat 0 (-1) (by omega) (Or.inl rfl)
  unfold nxt
  omega
theorem stk0_ne {p k u t a e : Int} (h1 : ¬ (a ≤ e ∧ e < a + 6)) (h2 : e ≠ 511 + p) : e_stk0 s p k u t a e = s e := by
  simp only [e_stk0]
  repeat rw [ups_ne (by omega)]
theorem stk0_sz {p k u t a : Int} (hp : 0 ≤ p ∧ p < 6) (ha : 517 ≤ a) : e_stk0 s p k u t a (511 + p) = s (511 + p) + 1 := by
  simp only [e_stk0]
  rw [ups_eq]
  repeat rw [ups_ne (by omega)]
theorem stk0_new {p k u t a w : Int} (hp : 0 ≤ p ∧ p < 6) (hk : 0 ≤ k ∧ k < 13) (ha : 517 ≤ a) (hw : 0 ≤ w ∧ w < 6) : e_stk0 s p k u t a (a + w) = if w = 0 then qv s p k 0 else if w = 1 then qv s p k 1 else if w = 2 then u else if w = 3 then t else if w = 4 then qv s p k 3 else qv s p k 4 := by
  simp only [e_stk0, qv]
  have hw' : w = 0 ∨ w = 1 ∨ w = 2 ∨ w = 3 ∨ w = 4 ∨ w = 5 := by omega
  rcases hw' with rfl | rfl | rfl | rfl | rfl | rfl <;> ((repeat rw [ups_ne (by omega)]); rw [ups_eq]; first | rfl | ((repeat rw [ups_ne (by omega)]); rfl))
theorem stk_at {p k u t e : Int} (hp : 0 ≤ p ∧ p < 6) (hk : 0 ≤ k ∧ k < s (115 + p)) (hc : s (115 + p) ≤ 13) (hs : 0 ≤ s (511 + p) ∧ s (511 + p) ≤ 3) (h1 : ¬ (517 + 6 * (4 * p + s (511 + p)) ≤ e ∧ e < 517 + 6 * (4 * p + s (511 + p)) + 6)) (h2 : e ≠ 511 + p) : e_stk s p k u t e = e_lv s p k e := by
  have z : ∀ e, ¬ (517 + 6 * (4 * p + s (511 + p)) ≤ e ∧ e < 517 + 6 * (4 * p + s (511 + p)) + 6) → e ≠ 511 + p → e_stk0 s p k u t (517 + 6 * (4 * p + s (511 + p))) e = s e := fun e a b => stk0_ne a b
  have z1 := z (115 + p) (by omega) (by omega)
  unfold e_stk
  rw [elv_at hp (by rw [z1]; exact hk), elv_at hp hk, z1]
  by_cases q : 121 + 5 * (13 * p + k) ≤ e ∧ e < 121 + 5 * (13 * p + (s (115 + p) - 1))
  · rw [if_pos q, if_pos q, z _ (by omega) (by omega)]
  · rw [if_neg q, if_neg q]
    split
    · rfl
    · exact z e h1 h2
theorem stk_sz {p k u t : Int} (hp : 0 ≤ p ∧ p < 6) (hk : 0 ≤ k ∧ k < s (115 + p)) (hc : s (115 + p) ≤ 13) (hs : 0 ≤ s (511 + p) ∧ s (511 + p) ≤ 3) : e_stk s p k u t (511 + p) = s (511 + p) + 1 := by
  have z1 : e_stk0 s p k u t (517 + 6 * (4 * p + s (511 + p))) (115 + p) = s (115 + p) := stk0_ne (by omega) (by omega)
  unfold e_stk
  rw [elv_ne hp (by rw [z1]; exact hk) (by rw [z1]; exact hc) (by omega) (by omega), stk0_sz hp (by omega)]
theorem stk_new {p k u t w : Int} (hp : 0 ≤ p ∧ p < 6) (hk : 0 ≤ k ∧ k < s (115 + p)) (hc : s (115 + p) ≤ 13) (hs : 0 ≤ s (511 + p) ∧ s (511 + p) ≤ 3) (hw : 0 ≤ w ∧ w < 6) : sv (e_stk s p k u t) p (s (511 + p)) w = if w = 0 then qv s p k 0 else if w = 1 then qv s p k 1 else if w = 2 then u else if w = 3 then t else if w = 4 then qv s p k 3 else qv s p k 4 := by
  have z1 : e_stk0 s p k u t (517 + 6 * (4 * p + s (511 + p))) (115 + p) = s (115 + p) := stk0_ne (by omega) (by omega)
  unfold e_stk sv
  rw [elv_ne hp (by rw [z1]; exact hk) (by rw [z1]; exact hc) (by omega) (by omega), stk0_new hp ⟨hk.1, by omega⟩ (by omega) hw]
theorem stk_sv {p k u t q j w : Int} (hp : 0 ≤ p ∧ p < 6) (hk : 0 ≤ k ∧ k < s (115 + p)) (hc : s (115 + p) ≤ 13) (hs : 0 ≤ s (511 + p) ∧ s (511 + p) ≤ 3) (hq : 0 ≤ q ∧ q < 6) (hj : 0 ≤ j ∧ j < 4) (hw : 0 ≤ w ∧ w < 6) (h : ¬ (q = p ∧ j = s (511 + p))) : sv (e_stk s p k u t) q j w = sv s q j w := by
  unfold sv
  rw [stk_at hp hk hc hs (by omega) (by omega), elv_ne hp hk hc (by omega) (by omega)]
theorem stk_HI {p k u t : Int} (I : HI K P c N s) (hK : 0 ≤ K ∧ K ≤ 8) (hP : 0 ≤ P ∧ P ≤ 6) (hp : 0 ≤ p ∧ p < P) (hk : 0 ≤ k ∧ k < s (115 + p)) (hs : s (511 + p) ≤ 3) (hu : 1 ≤ u ∧ u < 100) (ht : 1 ≤ t ∧ t ≤ 20) : HI K P c N (e_stk s p k u t) := by
  have hp6 : 0 ≤ p ∧ p < 6 := by omega
  have hq0 := I.qn hp6
  have hc13 := I.hq.1
  have hs0 := I.sn hp6
  have J := lv_HI (k := k) I hK.1 hP.1 hp6 hk hc13 (fun q h1 h2 _ => (I.qn ⟨h1, h2⟩).2) (by omega)
  have hss : 0 ≤ s (511 + p) ∧ s (511 + p) ≤ 3 := ⟨hs0.1, hs⟩
  have ne : ∀ e, ¬ (517 + 6 * (4 * p + s (511 + p)) ≤ e ∧ e < 517 + 6 * (4 * p + s (511 + p)) + 6) → e ≠ 511 + p → e_stk s p k u t e = e_lv s p k e := fun e a b => stk_at hp6 hk (by omega) hss a b
  have lo : ∀ e, e < 511 → e_stk s p k u t e = e_lv s p k e := fun e h => ne e (by omega) (by omega)
  have l0 : e_lv s p k 0 = s 0 := elv_ne hp6 hk (by omega) (by omega) (by omega)
  have l1 : e_lv s p k 1 = s 1 := elv_ne hp6 hk (by omega) (by omega) (by omega)
  have z0 : e_stk s p k u t 0 = e_lv s p k 0 := lo 0 (by omega)
  have z1 : e_stk s p k u t 1 = e_lv s p k 1 := lo 1 (by omega)
  have ssz : ∀ q, 0 ≤ q → q < 6 → e_stk s p k u t (511 + q) = if q = p then s (511 + p) + 1 else s (511 + q) := by
    intro q h1 h2
    by_cases h : q = p
    · rw [if_pos h, h]; exact stk_sz hp6 hk (by omega) hss
    · rw [if_neg h, ne _ (by omega) (by omega)]; exact elv_ne hp6 hk (by omega) (by omega) (by omega)
  have e := I.qe hp6 hk
  unfold QE at e
  have hnum : ∀ q i, 0 ≤ q → q < 6 → 0 ≤ i → i < e_lv s p k (115 + q) → qv (e_lv s p k) q i 0 ≠ qv s p k 0 := by
    intro q i h1 h2 h3 h4 h5
    have h6 := I.qn ⟨h1, h2⟩
    by_cases hqp : q = p
    · subst hqp
      rw [elv_sz hp6 hk] at h4
      rw [elv_qv hp6 hk (by omega) ⟨h3, by omega⟩ hp6 ⟨by omega, by omega⟩ (fun _ => h4)] at h5
      by_cases h7 : k ≤ i
      · rw [if_pos ⟨rfl, h7⟩] at h5
        have := I.hd.1 q (i + 1) q k h1 h2 (by omega) (by omega) h1 h2 hk.1 hk.2 h5
        omega
      · rw [if_neg (by omega)] at h5
        have := I.hd.1 q i q k h1 h2 h3 (by omega) h1 h2 hk.1 hk.2 h5
        omega
    · rw [elv_ne hp6 hk (by omega) (by omega) (by omega)] at h4
      rw [elv_qv hp6 hk (by omega) ⟨h3, by omega⟩ ⟨h1, h2⟩ ⟨by omega, by omega⟩ (fun z => absurd z.symm hqp), if_neg (fun z => hqp z.1)] at h5
      have := I.hd.1 q i p k h1 h2 h3 h4 hp6.1 hp6.2 hk.1 hk.2 h5
      exact hqp this.1
  refine ⟨J.hk.of (fun i _ _ => lo i (by omega)), J.ht.of (fun i _ _ => lo i (by omega)), J.hm.of (fun i _ _ => lo i (by omega)), fun e he => ?_, J.hq.of (fun i _ _ => lo i (by omega)) (by omega) (by omega), fun q h1 h2 => ⟨?_, fun j h3 h4 => ?_⟩, J.hr.of (fun i _ _ => ne i (by omega) (by omega)) (by omega) (by omega) (lo 2 (by omega)), ?_, ⟨?_, ?_⟩, J.ho.of (fun i _ _ => lo i (by omega)) (lo _ (by omega)) ?_⟩
  · have := J.cn he
    unfold isC at he
    rw [lo e (by omega)]
    exact this
  · rw [ssz q h1 h2]
    have := I.sn ⟨h1, h2⟩
    split <;> omega
  · rw [ssz q h1 h2] at h4
    by_cases h : q = p ∧ j = s (511 + p)
    · have g := fun w (hw : 0 ≤ w ∧ w < 6) => stk_new (s := s) (u := u) (t := t) hp6 hk (by omega) hss hw
      unfold SE
      rw [h.1, h.2, g 0 (by omega), g 1 (by omega), g 2 (by omega), g 3 (by omega), g 4 (by omega), g 5 (by omega), z0, z1, l0, l1]
      exact ⟨e.1, e.2.1, hu, ht, e.2.2.2.1, e.2.2.2.2⟩
    · have h4' : j < s (511 + q) := by
        by_cases hh : q = p
        · rw [if_pos hh] at h4
          subst hh
          omega
        · rw [if_neg hh] at h4
          exact h4
      have := I.sn ⟨h1, h2⟩
      exact (I.se ⟨h1, h2⟩ ⟨h3, h4'⟩).mv (fun w hw hw' => stk_sv hp6 hk (by omega) hss ⟨h1, h2⟩ ⟨h3, by omega⟩ ⟨hw, hw'⟩ h) (by omega) (by omega)
  · refine ⟨fun q h1 h2 => ?_, fun q k' h1 h2 h3 h4 => ?_⟩
    · have := J.hz.1 q h1 h2
      have h9 := I.hz.1 q h1 h2
      rw [lo _ (by omega), ssz q (by omega) h2, if_neg (by omega)]
      exact ⟨this.1, h9.2⟩
    · have := J.hz.2 q k' h1 h2 h3 h4
      unfold td at this ⊢
      rw [lo _ (by omega)]
      exact this
  · intro q i r j h1 h2 h3 h4 h5 h6 h7 h8
    rw [lo _ (by omega)] at h4 h8
    have a1 := (J.qn ⟨h1, h2⟩).2
    have a2 := (J.qn ⟨h5, h6⟩).2
    rw [qv_of (s := e_lv s p k) (fun i _ _ => lo i (by omega)) ⟨h1, h2⟩ ⟨h3, by omega⟩ ⟨by omega, by omega⟩, qv_of (s := e_lv s p k) (fun i _ _ => lo i (by omega)) ⟨h5, h6⟩ ⟨h7, by omega⟩ ⟨by omega, by omega⟩]
    exact J.hd.1 q i r j h1 h2 h3 h4 h5 h6 h7 h8
  · intro q i r j h1 h2 h3 h4 h5 h6 h7 h8
    rw [lo _ (by omega)] at h4
    have a1 := (J.qn ⟨h1, h2⟩).2
    rw [ssz r h5 h6] at h8
    rw [qv_of (s := e_lv s p k) (fun i _ _ => lo i (by omega)) ⟨h1, h2⟩ ⟨h3, by omega⟩ ⟨by omega, by omega⟩]
    by_cases h : r = p ∧ j = s (511 + p)
    · rw [h.1, h.2, stk_new hp6 hk (by omega) hss (by omega), if_pos rfl]
      exact hnum q i h1 h2 h3 h4
    · have h8' : j < s (511 + r) := by
        by_cases hh : r = p
        · rw [if_pos hh] at h8
          subst hh
          omega
        · rw [if_neg hh] at h8
          exact h8
      have a3 := I.sn ⟨h5, h6⟩
      rw [stk_sv hp6 hk (by omega) hss ⟨h5, h6⟩ ⟨h7, by omega⟩ ⟨by omega, by omega⟩ h]
      have hz := J.hd.2 q i r j h1 h2 h3 h4 h5 h6 h7 (by rw [elv_ne hp6 hk (by omega) (by omega) (by omega)]; exact h8')
      rwa [sv_of (s := s) (fun i _ _ => elv_ne hp6 hk (by omega) (by omega) (by omega)) ⟨h5, h6⟩ ⟨h7, by omega⟩ ⟨by omega, by omega⟩] at hz
  · rw [lo _ (by omega)]
    exact J.ho.2.2.2.2
theorem may_sz {p u : Int} (I : HI K P c N s) (hp : 0 ≤ p ∧ p < 6) (h : may s p u ≠ 0) : s (511 + p) ≤ 3 := by
  have := I.sn hp
  have := I.ho.1
  unfold may at h
  by_cases q : s (511 + p) = 0 ∨ sv s p (s (511 + p) - 1) 2 + s 11 < u ∧ s (511 + p) < s 10
  · omega
  · rw [if_neg q] at h
    exact absurd rfl h
theorem bgl_HI {p : Int} (hD : PIv D) (hK : K = D 0 3) (hP : 0 ≤ P ∧ P ≤ 6) (hp : 0 ≤ p ∧ p < P) : ∀ (n : Nat) (N : Int) (s : Int → Int), HI K P c N s → HI K P c (N + n) (e_bgl D p n s)
  | 0, N, s, I => I.mono (by omega)
  | n + 1, N, s, I => by
    have hK8 : 0 ≤ K ∧ K ≤ 8 := by rw [hK]; exact hD.2.1
    have hp6 : 0 ≤ p ∧ p < 6 := by omega
    show HI K P c _ (if nxt s p = -1 then s else if may s p (ur s p (qv s p (nxt s p) 1)) = 0 then s else if ur s p (qv s p (nxt s p) 1) = 0 then e_bgl D p n (e_eiq s p (nxt s p) 1) else if D 3 (8 * p + qv s p (nxt s p) 1) = 0 then e_bgl D p n (e_eiq s p (nxt s p) 4) else e_stk s p (nxt s p) (ur s p (qv s p (nxt s p) 1)) (D 3 (8 * p + qv s p (nxt s p) 1)))
    by_cases h1 : nxt s p = -1
    · rw [if_pos h1]
      exact I.mono (by omega)
    · rw [if_neg h1]
      have hx : 0 ≤ nxt s p ∧ nxt s p < s (115 + p) := (nxt_rng p).resolve_left h1
      have e := I.qe hp6 hx
      unfold QE at e
      have hu := (I.ur hp6 (k := qv s p (nxt s p) 1) ⟨e.2.1.1, by omega⟩).1
      by_cases h2 : may s p (ur s p (qv s p (nxt s p) 1)) = 0
      · rw [if_pos h2]
        exact I.mono (by omega)
      · rw [if_neg h2]
        by_cases h3 : ur s p (qv s p (nxt s p) 1) = 0
        · rw [if_pos h3]
          exact (bgl_HI hD hK hP hp n (N + 1) _ (eiq_HI (t := 1) I hK8 hP.1 hp6 hx (by omega))).mono (by omega)
        · rw [if_neg h3]
          have h48 := (hD.2.2.2 (8 * p + qv s p (nxt s p) 1) (by omega) (by omega)).1
          by_cases h4 : D 3 (8 * p + qv s p (nxt s p) 1) = 0
          · rw [if_pos h4]
            exact (bgl_HI hD hK hP hp n (N + 1) _ (eiq_HI (t := 4) I hK8 hP.1 hp6 hx (by omega))).mono (by omega)
          · rw [if_neg h4]
            exact (stk_HI I hK8 hP hp hx (may_sz I hp6 h2) (by omega) (by omega)).mono (by omega)
theorem msk_HI {p m : Int} (I : HI K P c N s) (hK : 0 ≤ K) (hP : 0 ≤ P) (hp : 0 ≤ p ∧ p < 6) (hm : InR m) : HI K P c N (ups s (85 + p) m) := by
  have ne : ∀ e, ¬ (85 ≤ e ∧ e < 91) → ups s (85 + p) m e = s e := fun e h => ups_ne (by omega)
  refine ⟨I.hk.of (fun i _ _ => ne i (by omega)), I.ht.of (fun i _ _ => ne i (by omega)), fun q h1 h2 => ?_, fun e he => ?_, I.hq.of (fun i _ _ => ne i (by omega)) (by rw [ne 0 (by omega)]; omega) (by rw [ne 1 (by omega)]; omega), I.hs.of (fun i _ _ => ne i (by omega)) (by rw [ne 0 (by omega)]; omega) (by rw [ne 1 (by omega)]; omega), I.hr.of (fun i _ _ => ne i (by omega)) (by rw [ne 0 (by omega)]; omega) (by rw [ne 1 (by omega)]; omega) (ne 2 (by omega)), I.hz.of hK hP (fun q h1 h2 => ⟨ne _ (by omega), ne _ (by omega)⟩) (fun i _ _ => ne i (by omega)), HId.of I.hq I.hs I.hd (fun i _ _ => ne i (by omega)), I.ho.of (fun i _ _ => ne i (by omega)) (ne _ (by omega)) (by rw [ne _ (by omega)]; exact I.ho.2.2.2.2)⟩
  · by_cases h : q = p
    · rw [h, ups_eq]; exact hm
    · rw [ups_ne (by omega)]; exact I.hm q h1 h2
  · have := I.cn he
    unfold isC at he
    rw [ne e (by omega)]
    exact this
theorem does_HI {p h i v : Int} (I : HI K P (D 0 2) N s) (hD : PIv D) (hK : K = D 0 3) (hP : P = D 0 4) (hp : 0 ≤ p ∧ p < P) (hh : 0 ≤ h ∧ h < 48) (hi : 0 ≤ i ∧ i < D 4 h) (hv : 0 ≤ v ∧ v < 1000) : HI K P (D 0 2) (N + 13) (e_does D s p (4 * (4 * h + i)) v) := by
  obtain ⟨d2, d3, d4, dh⟩ := id hD
  obtain ⟨a1, a2, a3, a4, a5⟩ := (dh h hh.1 hh.2).2.2 i hi.1 hi.2
  have hp6 : 0 ≤ p ∧ p < 6 := by omega
  unfold e_does
  split
  · rename_i h0
    obtain ⟨a6, a7⟩ := a5 h0
    have := tmN (x := v + D 5 (4 * (4 * h + i) + 3)) (y := 1000) (by omega) (by omega)
    exact (snd_HI I d2.2 (by omega) (by omega) (by omega) (by omega) (by omega) (by omega)).mono (by omega)
  · split
    · exact (msk_HI I (by omega) (by omega) hp6 (bor_InR _ _)).mono (by omega)
    · split
      · exact (msk_HI I (by omega) (by omega) hp6 (band_InR _ _)).mono (by omega)
      · exact drops_HI I (by omega) (by omega) hp6
theorem acl_HI {p h v : Int} (hD : PIv D) (hK : K = D 0 3) (hP : P = D 0 4) (hp : 0 ≤ p ∧ p < P) (hh : 0 ≤ h ∧ h < 48) (hv : 0 ≤ v ∧ v < 1000) : ∀ (n : Nat) (k N : Int) (s : Int → Int), HI K P (D 0 2) N s → 0 ≤ k → k + n ≤ D 4 h → HI K P (D 0 2) (N + 13 * n) (e_acl D p h v n k s)
  | 0, k, N, s, I, _, _ => I.mono (by omega)
  | n + 1, k, N, s, I, h0, h1 => (acl_HI hD hK hP hp hh hv n (k + 1) (N + 13) _ (does_HI I hD hK hP hp hh ⟨h0, by omega⟩ hv) (by omega) (by omega)).mono (by omega)
/-- the signal of the handler on top ends: all but its acts -/
theorem wk0_HI {p : Int} {r : Int → Int} (I : HI K P c N s) (hr : ∀ e, e ≠ 517 + 6 * (4 * p + (s (511 + p) - 1)) + 3 → r e = s e) (hK : 0 ≤ K ∧ K ≤ 8) (hP : 0 ≤ P) (hp : 0 ≤ p ∧ p < 6) (hs : 0 < s (511 + p)) (ha : 0 ≤ sv s p (s (511 + p) - 1) 0 ∧ sv s p (s (511 + p) - 1) 0 < s 1) (hk : 0 ≤ sv s p (s (511 + p) - 1) 1 ∧ sv s p (s (511 + p) - 1) 1 < K) : HI K P c (N + 1) (e_wk0 r p (517 + 6 * (4 * p + (s (511 + p) - 1)))) := by
  have hs0 := I.sn hp
  have k8 : 0 ≤ s (517 + 6 * (4 * p + (s (511 + p) - 1)) + 1) ∧ s (517 + 6 * (4 * p + (s (511 + p) - 1)) + 1) < K := hk
  have r1 := hr (517 + 6 * (4 * p + (s (511 + p) - 1)) + 1) (by omega)
  have r2 := hr (517 + 6 * (4 * p + (s (511 + p) - 1)) + 0) (by omega)
  have r3 := hr (511 + p) (by omega)
  simp only [e_wk0, r1, r2, r3]
  generalize hwt : r 3 + (r 0 - r (517 + 6 * (4 * p + (s (511 + p) - 1)) + 5)) = wt
  generalize hz : (if 99 ≤ td _ p _ + kn _ _ 1 then (99 : Int) else _) = z
  have hz2 : 0 ≤ z ∧ z ≤ 99 := by
    rw [← hz]
    have i1 := I.td hp (k := s (517 + 6 * (4 * p + (s (511 + p) - 1)) + 1)) ⟨k8.1, by omega⟩
    have i2 := (I.kn (k := s (517 + 6 * (4 * p + (s (511 + p) - 1)) + 1)) ⟨k8.1, by omega⟩).2.1
    have e1 : td (ups (ups r 3 wt) (511 + p) (s (511 + p) - 1)) p (s (517 + 6 * (4 * p + (s (511 + p) - 1)) + 1)) = td s p (s (517 + 6 * (4 * p + (s (511 + p) - 1)) + 1)) := by
      unfold td; rw [ups_ne (by omega), ups_ne (by omega), hr _ (by omega)]
    have e2 : kn (ups (ups r 3 wt) (511 + p) (s (511 + p) - 1)) (s (517 + 6 * (4 * p + (s (511 + p) - 1)) + 1)) 1 = kn s (s (517 + 6 * (4 * p + (s (511 + p) - 1)) + 1)) 1 := by
      unfold kn; rw [ups_ne (by omega), ups_ne (by omega), hr _ (by omega)]
    rw [e1, e2]
    split <;> omega
  generalize hy : ups (ups (ups r 3 wt) (511 + p) (s (511 + p) - 1)) (37 + 8 * p + s (517 + 6 * (4 * p + (s (511 + p) - 1)) + 1)) z = y
  have ne : ∀ e, e ≠ 3 → e ≠ 511 + p → e ≠ 37 + 8 * p + s (517 + 6 * (4 * p + (s (511 + p) - 1)) + 1) → e ≠ 517 + 6 * (4 * p + (s (511 + p) - 1)) + 3 → y e = s e := by
    intro e a b d d2
    rw [← hy, ups_ne d, ups_ne b, ups_ne a, hr e d2]
  have nsz : y (511 + p) = s (511 + p) - 1 := by rw [← hy, ups_ne (by omega), ups_eq]
  have nt : y (37 + 8 * p + s (517 + 6 * (4 * p + (s (511 + p) - 1)) + 1)) = z := by rw [← hy, ups_eq]
  have y0 : y 0 = s 0 := ne 0 (by omega) (by omega) (by omega) (by omega)
  have y1 : y 1 = s 1 := ne 1 (by omega) (by omega) (by omega) (by omega)
  have ssz : ∀ q, 0 ≤ q → q < 6 → y (511 + q) ≤ s (511 + q) := by
    intro q h1 h2
    by_cases h : q = p
    · rw [h, nsz]; omega
    · rw [ne _ (by omega) (by omega) (by omega) (by omega)]; omega
  have J : HI K P c N y := by
    refine ⟨I.hk.of (fun i _ _ => ne i (by omega) (by omega) (by omega) (by omega)), fun q k' h1 h2 h3 h4 => ?_, I.hm.of (fun i _ _ => ne i (by omega) (by omega) (by omega) (by omega)), fun e he => ?_, I.hq.of (fun i _ _ => ne i (by omega) (by omega) (by omega) (by omega)) (by omega) (by omega), fun q h1 h2 => ⟨?_, fun j h3 h4 => ?_⟩, I.hr.of (fun i _ _ => ne i (by omega) (by omega) (by omega) (by omega)) (by omega) (by omega) (ne 2 (by omega) (by omega) (by omega) (by omega)), ⟨fun q h1 h2 => ?_, fun q k' h1 h2 h3 h4 => ?_⟩, ⟨fun q i r j h1 h2 h3 h4 h5 h6 h7 h8 => ?_, fun q i r j h1 h2 h3 h4 h5 h6 h7 h8 => ?_⟩, I.ho.of (fun i _ _ => ne i (by omega) (by omega) (by omega) (by omega)) (ne _ (by omega) (by omega) (by omega) (by omega)) (by rw [ne _ (by omega) (by omega) (by omega) (by omega)]; exact I.ho.2.2.2.2)⟩
    · have i1 := I.ht q k' h1 h2 h3 h4
      unfold td at i1 ⊢
      by_cases h : 37 + 8 * q + k' = 37 + 8 * p + s (517 + 6 * (4 * p + (s (511 + p) - 1)) + 1)
      · rw [h, nt]; exact hz2
      · rw [ne _ (by omega) (by omega) h (by omega)]; exact i1
    · have := I.cn he
      unfold isC at he
      rw [ne e (by omega) (by omega) (by omega) (by omega)]
      exact this
    · have := I.sn ⟨h1, h2⟩
      by_cases h : q = p
      · rw [h, nsz]; omega
      · rw [ne _ (by omega) (by omega) (by omega) (by omega)]; exact this
    · have h9 := ssz q h1 h2
      have h10 : j < s (511 + p) - 1 ∨ q ≠ p := by
        by_cases h : q = p
        · rw [h, nsz] at h4; exact Or.inl h4
        · exact Or.inr h
      have := I.sn ⟨h1, h2⟩
      exact (I.se ⟨h1, h2⟩ ⟨h3, by omega⟩).mv (fun w hw hw' => ne _ (by omega) (by omega) (by omega) (by omega)) (by omega) (by omega)
    · have h9 := I.hz.1 q h1 h2
      have hqp : q ≠ p := fun e => by subst e; omega
      rw [ne _ (by omega) (by omega) (by omega) (by omega), ne _ (by omega) (by omega) (by omega) (by omega)]
      exact h9
    · have h9 := I.hz.2 q k' h1 h2 h3 h4
      unfold td at h9 ⊢
      rw [ne _ (by omega) (by omega) (by omega) (by omega)]
      exact h9
    · rw [ne _ (by omega) (by omega) (by omega) (by omega)] at h4 h8
      have a1 := (I.qn ⟨h1, h2⟩).2
      have a2 := (I.qn ⟨h5, h6⟩).2
      have a3 := I.hq.1
      rw [qv_of (s := s) (fun i _ _ => ne i (by omega) (by omega) (by omega) (by omega)) ⟨h1, h2⟩ ⟨h3, by omega⟩ ⟨by omega, by omega⟩, qv_of (s := s) (fun i _ _ => ne i (by omega) (by omega) (by omega) (by omega)) ⟨h5, h6⟩ ⟨h7, by omega⟩ ⟨by omega, by omega⟩]
      exact I.hd.1 q i r j h1 h2 h3 h4 h5 h6 h7 h8
    · rw [ne _ (by omega) (by omega) (by omega) (by omega)] at h4
      have a1 := (I.qn ⟨h1, h2⟩).2
      have a2 := (I.sn ⟨h5, h6⟩).2
      have a3 := I.hq.1
      have h9 := ssz r h5 h6
      have h10 : j < s (511 + p) - 1 ∨ r ≠ p := by
        by_cases h : r = p
        · rw [h, nsz] at h8; exact Or.inl h8
        · exact Or.inr h
      rw [qv_of (s := s) (fun i _ _ => ne i (by omega) (by omega) (by omega) (by omega)) ⟨h1, h2⟩ ⟨h3, by omega⟩ ⟨by omega, by omega⟩, show sv y r j 0 = sv s r j 0 from ne _ (by omega) (by omega) (by omega) (by omega)]
      exact I.hd.2 q i r j h1 h2 h3 h4 h5 h6 h7 (by omega)
  exact ends_HI J hK.1 hP (by rw [y1]; exact ha) (by omega) hp (by omega)
end OPS3
