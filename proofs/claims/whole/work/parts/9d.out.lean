/-! what lies outside the row stays -/
section OUT
variable {K P c N e : Int} {s : Int → Int} {D : Nat → Int → Int}
theorem ends_out {g t p k : Int} (he : e < 0 ∨ 861 ≤ e) (h2 : e = -2 → s (-1) = -1) (hE : 0 ≤ s 2) (ht : 0 ≤ t ∧ t < 6) (hp : 0 ≤ p ∧ p < 6) (hg : 0 ≤ g) : e_ends s g t p k e = s e := by
  by_cases q : e = -2
  · rw [q, ends_w hE ht hp, if_neg (by rw [h2 q]; omega)]
  · exact ends_ne hE ht hp q (by omega) (by omega) (by omega) (by omega)
theorem eiq_out {p k t : Int} (he : e < 0 ∨ 861 ≤ e) (h2 : e = -2 → s (-1) = -1) (I : HI K P c N s) (hp : 0 ≤ p ∧ p < 6) (hk' : 0 ≤ k ∧ k < s (115 + p)) (ht : 0 ≤ t ∧ t < 6) : e_eiq s p k t e = s e := by
  have hq := I.qn hp
  have hc13 := I.hq.1
  have qe := (I.qe hp hk').1
  have ln : ∀ i, i < 115 ∨ 511 ≤ i → e_lv s p k i = s i := fun i h => elv_ne hp hk' (by omega) (by omega) (by omega)
  unfold e_eiq
  rw [ends_out he (fun q => by rw [ln _ (by omega)]; exact h2 q) (by rw [ln 2 (by omega)]; exact I.e2.1) ht hp qe.1, ln e (by omega)]
theorem snd_out {p k v b : Int} (he : e < 0 ∨ 861 ≤ e) (h2 : e = -2 → s (-1) = -1) (I : HI K P (D 0 2) N s) (hD : D 0 2 ≤ 12) (hK : 0 ≤ K ∧ K ≤ 8) (hP : 0 ≤ P ∧ P ≤ 6) (hp : 0 ≤ p ∧ p < P) (hk' : 0 ≤ k ∧ k < K) (hv : 0 ≤ v ∧ v < 1000) (hb : -1 ≤ b ∧ b < 6) : e_snd D s p k v b e = s e := by
  have hp6 : 0 ≤ p ∧ p < 6 := by omega
  have hs0 := I.qn hp6
  have ha : 121 ≤ 121 + 5 * (13 * p + s (115 + p)) ∧ 121 + 5 * (13 * p + s (115 + p)) ≤ 506 := by omega
  have sz := snd0_sz (s := s) (k := k) (v := v) hp6 hb ha
  have n0 : ∀ e, e < 0 ∨ 861 ≤ e → e_snd0 s p k v b (121 + 5 * (13 * p + s (115 + p))) e = s e := fun e h => snd0_ne hp6 hb ha (by omega) (by omega) (by omega) (by omega)
  simp only [e_snd]
  split
  · have I1 := snd0_HI (c' := D 0 2 + 1) I hK.1 hP hp hk' hv hb (by omega) (by omega) (fun q h1 h2 _ => by have := I.qn ⟨h1, h2⟩; omega) (by omega)
    have hr := (plc_spec (s := e_snd0 s p k v b (121 + 5 * (13 * p + s (115 + p)))) (p := p) (x := e_snd0 s p k v b (121 + 5 * (13 * p + s (115 + p))) (115 + p) - 1) ⟨by omega, by omega⟩).1
    rw [eiq_out he (fun q => by rw [n0 _ (by omega)]; exact h2 q) I1 hp6 hr (by omega), n0 e he]
  · exact n0 e he
theorem drl_out {p kd : Int} (he : e < 0 ∨ 861 ≤ e) (hK : 0 ≤ K ∧ K ≤ 8) (hP : 0 ≤ P) (hp : 0 ≤ p ∧ p < 6) : ∀ (n : Nat) (k N : Int) (s : Int → Int), HI K P c N s → (e = -2 → s (-1) = -1) → 0 ≤ k → k + n = s (115 + p) → e_drl p kd n k s e = s e
  | 0, _, _, _, _, _, _, _ => rfl
  | n + 1, k, N, s, I, h2, h0, h1 => by
    show (if kd = -1 ∨ qv s p k 1 = kd then e_drl p kd n k (e_eiq s p k 5) else e_drl p kd n (k + 1) s) e = s e
    split
    · rw [drl_out he hK hP hp n k (N + 1) _ (eiq_HI (t := 5) (k := k) I hK hP hp ⟨h0, by omega⟩ (by omega)) (fun q => (eiq_neg I hp ⟨h0, by omega⟩ (by omega)).trans (h2 q)) h0 (by rw [eiq_sz I hp ⟨h0, by omega⟩ (by omega)]; omega), eiq_out he h2 I hp ⟨h0, by omega⟩ (by omega)]
    · exact drl_out he hK hP hp n (k + 1) N s I h2 (by omega) (by omega)
theorem drops_out {p kd : Int} (he : e < 0 ∨ 861 ≤ e) (h2 : e = -2 → s (-1) = -1) (I : HI K P c N s) (hK : 0 ≤ K ∧ K ≤ 8) (hP : 0 ≤ P) (hp : 0 ≤ p ∧ p < 6) : e_drops s p kd e = s e := by
  have := I.qn hp
  exact drl_out he hK hP hp _ 0 N s I h2 (by omega) (by omega)
theorem agl_out {p : Int} (he : e < 0 ∨ 861 ≤ e) (hK : 0 ≤ K ∧ K ≤ 8) (hP : 0 ≤ P) (hp : 0 ≤ p ∧ p < 6) : ∀ (n : Nat) (k N : Int) (s : Int → Int), HI K P c N s → (e = -2 → s (-1) = -1) → 0 ≤ k → k + n = s (115 + p) → e_agl p n k s e = s e
  | 0, _, _, _, _, _, _, _ => rfl
  | n + 1, k, N, s, I, h2, h0, h1 => by
    show (if kn s (qv s p k 1) 2 ≤ s 0 - qv s p k 4 then e_agl p n k (e_eiq s p k 2) else e_agl p n (k + 1) s) e = s e
    split
    · rw [agl_out he hK hP hp n k (N + 1) _ (eiq_HI (t := 2) (k := k) I hK hP hp ⟨h0, by omega⟩ (by omega)) (fun q => (eiq_neg I hp ⟨h0, by omega⟩ (by omega)).trans (h2 q)) h0 (by rw [eiq_sz I hp ⟨h0, by omega⟩ (by omega)]; omega), eiq_out he h2 I hp ⟨h0, by omega⟩ (by omega)]
    · exact agl_out he hK hP hp n (k + 1) N s I h2 (by omega) (by omega)
theorem ages_out {p : Int} (he : e < 0 ∨ 861 ≤ e) (h2 : e = -2 → s (-1) = -1) (I : HI K P c N s) (hK : 0 ≤ K ∧ K ≤ 8) (hP : 0 ≤ P) (hp : 0 ≤ p ∧ p < 6) : e_ages s p e = s e := by
  have := I.qn hp
  exact agl_out he hK hP hp _ 0 N s I h2 (by omega) (by omega)
theorem bgl_out {p : Int} (he : e < 0 ∨ 861 ≤ e) (hD : PIv D) (hK : K = D 0 3) (hP : 0 ≤ P ∧ P ≤ 6) (hp : 0 ≤ p ∧ p < P) : ∀ (n : Nat) (N : Int) (s : Int → Int), HI K P c N s → (e = -2 → s (-1) = -1) → e_bgl D p n s e = s e
  | 0, _, _, _, _ => rfl
  | n + 1, N, s, I, h2' => by
    have hK8 : 0 ≤ K ∧ K ≤ 8 := by rw [hK]; exact hD.2.1
    have hp6 : 0 ≤ p ∧ p < 6 := by omega
    have hc13 := I.hq.1
    have hq := I.qn hp6
    show (if nxt s p = -1 then s else if may s p (ur s p (qv s p (nxt s p) 1)) = 0 then s else if ur s p (qv s p (nxt s p) 1) = 0 then e_bgl D p n (e_eiq s p (nxt s p) 1) else if D 3 (8 * p + qv s p (nxt s p) 1) = 0 then e_bgl D p n (e_eiq s p (nxt s p) 4) else e_stk s p (nxt s p) (ur s p (qv s p (nxt s p) 1)) (D 3 (8 * p + qv s p (nxt s p) 1))) e = s e
    by_cases h1 : nxt s p = -1
    · rw [if_pos h1]
    · rw [if_neg h1]
      have hx : 0 ≤ nxt s p ∧ nxt s p < s (115 + p) := (nxt_rng p).resolve_left h1
      by_cases h2 : may s p (ur s p (qv s p (nxt s p) 1)) = 0
      · rw [if_pos h2]
      · rw [if_neg h2]
        by_cases h3 : ur s p (qv s p (nxt s p) 1) = 0
        · rw [if_pos h3, bgl_out he hD hK hP hp n (N + 1) _ (eiq_HI (t := 1) I hK8 hP.1 hp6 hx (by omega)) (fun q => (eiq_neg I hp6 hx (by omega)).trans (h2' q)), eiq_out he h2' I hp6 hx (by omega)]
        · rw [if_neg h3]
          by_cases h4 : D 3 (8 * p + qv s p (nxt s p) 1) = 0
          · rw [if_pos h4, bgl_out he hD hK hP hp n (N + 1) _ (eiq_HI (t := 4) I hK8 hP.1 hp6 hx (by omega)) (fun q => (eiq_neg I hp6 hx (by omega)).trans (h2' q)), eiq_out he h2' I hp6 hx (by omega)]
          · have h9 := may_sz I hp6 h2
            have h8 := I.sn hp6
            rw [if_neg h4, stk_at hp6 hx (by omega) ⟨h8.1, h9⟩ (by omega) (by omega), elv_ne hp6 hx (by omega) (by omega) (by omega)]
theorem does_out {p h i v : Int} (he : e < 0 ∨ 861 ≤ e) (h2 : e = -2 → s (-1) = -1) (I : HI K P (D 0 2) N s) (hD : PIv D) (hK : K = D 0 3) (hP : P = D 0 4) (hp : 0 ≤ p ∧ p < P) (hh : 0 ≤ h ∧ h < 48) (hi' : 0 ≤ i ∧ i < D 4 h) (hv : 0 ≤ v ∧ v < 1000) : e_does D s p (4 * (4 * h + i)) v e = s e := by
  obtain ⟨d2, d3, d4, dh⟩ := id hD
  obtain ⟨a1, a2, a3, a4, a5⟩ := (dh h hh.1 hh.2).2.2 i hi'.1 hi'.2
  have hp6 : 0 ≤ p ∧ p < 6 := by omega
  unfold e_does
  split
  · rename_i h0
    obtain ⟨a6, a7⟩ := a5 h0
    have := tmN (x := v + D 5 (4 * (4 * h + i) + 3)) (y := 1000) (by omega) (by omega)
    exact snd_out he h2 I d2.2 (by omega) (by omega) (by omega) (by omega) (by omega) (by omega)
  · split
    · exact ups_ne (by omega)
    · split
      · exact ups_ne (by omega)
      · exact drops_out he h2 I (by omega) (by omega) hp6
theorem acl_out {p h v : Int} (he : e < 0 ∨ 861 ≤ e) (hD : PIv D) (hK : K = D 0 3) (hP : P = D 0 4) (hp : 0 ≤ p ∧ p < P) (hh : 0 ≤ h ∧ h < 48) (hv : 0 ≤ v ∧ v < 1000) : ∀ (n : Nat) (k N : Int) (s : Int → Int), HI K P (D 0 2) N s → (e = -2 → s (-1) = -1) → 0 ≤ k → k + n ≤ D 4 h → e_acl D p h v n k s e = s e
  | 0, _, _, _, _, _, _, _ => rfl
  | n + 1, k, N, s, I, h2, h0, h1 => by
    show e_acl D p h v n (k + 1) (e_does D s p (4 * (4 * h + k)) v) e = s e
    rw [acl_out he hD hK hP hp hh hv n (k + 1) (N + 13) _ (does_HI I hD hK hP hp hh ⟨h0, by omega⟩ hv) (fun q => (does_neg I hD hK hP hp hh ⟨h0, by omega⟩ hv).trans (h2 q)) (by omega) (by omega), does_out he h2 I hD hK hP hp hh ⟨h0, by omega⟩ hv]
theorem wk_out {p : Int} (he : e < 0 ∨ 861 ≤ e) (h2 : e = -2 → s (-1) = -1) (I : HI K P (D 0 2) N s) (hD : PIv D) (hK : K = D 0 3) (hP : P = D 0 4) (hp : 0 ≤ p ∧ p < P) : e_wk D s p e = s e := by
  obtain ⟨d2, d3, d4, dh⟩ := id hD
  have hp6 : 0 ≤ p ∧ p < 6 := by omega
  have hs0 := I.sn hp6
  by_cases hs : s (511 + p) = 0
  · unfold e_wk
    rw [if_pos hs]
  · obtain ⟨tp, htp⟩ : ∃ tp, tp = s (511 + p) - 1 := ⟨_, rfl⟩
    have se := I.se hp6 (i := tp) ⟨by omega, by omega⟩
    unfold SE at se
    rw [e_wk_some hs htp]
    have ne : ∀ e, e ≠ 517 + 6 * (4 * p + tp) + 3 → ups s (517 + 6 * (4 * p + tp) + 3) (sv s p tp 3 - 1) e = s e := fun e h => ups_ne h
    split
    · exact ne _ (by omega)
    · have J : HI K P (D 0 2) (N + 1) (e_wk0 (ups s (517 + 6 * (4 * p + tp) + 3) (sv s p tp 3 - 1)) p (517 + 6 * (4 * p + tp))) := by
        have := wk0_HI (r := ups s (517 + 6 * (4 * p + tp) + 3) (sv s p tp 3 - 1)) I (by rw [← htp]; exact ne) (by omega) (by omega) hp6 (by omega) (by rw [← htp]; exact se.1) (by rw [← htp]; exact se.2.1)
        rw [← htp] at this
        exact this
      have h8 : 0 ≤ 8 * p + sv s p tp 1 ∧ 8 * p + sv s p tp 1 < 48 := by omega
      have a4 := (dh _ h8.1 h8.2).2.1
      have e2 := I.e2
      have k1 : ups s (517 + 6 * (4 * p + tp) + 3) (sv s p tp 3 - 1) (517 + 6 * (4 * p + tp) + 1) = sv s p tp 1 := ne _ (by omega)
      have k0 : ups s (517 + 6 * (4 * p + tp) + 3) (sv s p tp 3 - 1) (517 + 6 * (4 * p + tp) + 0) = sv s p tp 0 := ne _ (by omega)
      have w0 : ∀ e, e < 0 ∨ 861 ≤ e → (e = -2 → s (-1) = -1) → e_wk0 (ups s (517 + 6 * (4 * p + tp) + 3) (sv s p tp 3 - 1)) p (517 + 6 * (4 * p + tp)) e = s e := by
        intro e he h2
        simp only [e_wk0]
        rw [k1, k0, ends_out he (fun q => by rw [ups_ne (by omega), ups_ne (by omega), ups_ne (by omega), ne _ (by omega)]; exact h2 q) (by rw [ups_ne (by omega), ups_ne (by omega), ups_ne (by omega), ne _ (by omega)]; exact e2.1) (by omega) hp6 se.1.1, ups_ne (by omega), ups_ne (by omega), ups_ne (by omega), ne _ (by omega)]
      rw [acl_out he hD hK hP hp h8 se.2.2.2.2.1 _ 0 (N + 1) _ J (fun q => (w0 (-1) (by omega) (fun z => by omega)).trans (h2 q)) (by omega) (by omega), w0 e he h2]
theorem rsl_out (he : e < 0 ∨ 861 ≤ e) : ∀ (n : Nat) (k : Int) (s : Int → Int), 0 ≤ k → k + n ≤ 48 → e_rsl n k s e = s e
  | 0, _, _, _, _ => rfl
  | n + 1, k, s, h, h' => by
    show e_rsl n (k + 1) (ups s (37 + k) _) e = s e
    rw [rsl_out he n (k + 1) _ (by omega) (by omega), ups_ne (by omega)]
theorem prl_out (he : e < 0 ∨ 861 ≤ e) (hD : PIv D) (hK : K = D 0 3) (hP : P = D 0 4) : ∀ (n : Nat) (p N : Int) (s : Int → Int), HI K P (D 0 2) N s → (e = -2 → s (-1) = -1) → 0 ≤ p → p + n ≤ P → e_prl D n p s e = s e
  | 0, _, _, _, _, _, _, _ => rfl
  | n + 1, p, N, s, I, h2, h0, h1 => by
    obtain ⟨d2, d3, d4, dh⟩ := id hD
    have I1 := ages_HI (p := p) I (by omega) (by omega) (by omega)
    have I2 := bg_HI (p := p) I1 hD hK (by omega) (by omega)
    have I3 := wk_HI (p := p) I2 hD hK hP (by omega)
    have n1 := ages_neg (p := p) I (by omega) (by omega) (by omega)
    have n2 : e_bg D (e_ages s p) p (-1) = e_ages s p (-1) := bgl_neg hD hK (by omega) (by omega) _ _ _ I1
    have n3 := wk_neg I2 hD hK hP (p := p) (by omega)
    show e_prl D n (p + 1) (e_wk D (e_bg D (e_ages s p) p) p) e = s e
    rw [prl_out he hD hK hP n (p + 1) _ _ I3 (fun q => by rw [n3, n2, n1]; exact h2 q) (by omega) (by omega), wk_out he (fun q => by rw [n2, n1]; exact h2 q) I2 hD hK hP (by omega), e_bg, bgl_out he hD hK (by omega) (by omega) _ _ _ I1 (fun q => by rw [n1]; exact h2 q), ages_out he h2 I (by omega) (by omega) (by omega)]
theorem tick_out (he : e < 0 ∨ 861 ≤ e) (h2 : e = -2 → s (-1) = -1) (I : HI K P (D 0 2) N s) (hD : PIv D) (hK : K = D 0 3) (hP : P = D 0 4) : e_tick D s e = s e := by
  obtain ⟨d2, d3, d4, dh⟩ := id hD
  have I1 := time_HI I (by omega) (by omega)
  simp only [e_tick]
  split
  · rw [prl_out he hD hK hP _ 0 _ _ (rsl_HI (by omega) (by omega) 48 0 _ I1 (by omega) (by omega)) (fun q => by rw [rsl_neg _ _ _ (by omega), ups_ne (by omega)]; exact h2 q) (by omega) (by omega), rsl_out he _ _ _ (by omega) (by omega), ups_ne (by omega)]
  · rw [prl_out he hD hK hP _ 0 _ _ I1 (fun q => by rw [ups_ne (by omega)]; exact h2 q) (by omega) (by omega), ups_ne (by omega)]
theorem tks_out (he : e < 0 ∨ 861 ≤ e) (hD : PIv D) (hK : K = D 0 3) (hP : P = D 0 4) : ∀ (n : Nat) (N : Int) (s : Int → Int), HI K P (D 0 2) N s → (e = -2 → s (-1) = -1) → e_tks D n s e = s e
  | 0, _, _, _, _ => rfl
  | n + 1, N, s, I, h2 => by
    show e_tks D n (e_tick D s) e = s e
    rw [tks_out he hD hK hP n _ _ (tick_HI I hD hK hP) (fun q => (tick_neg I hD hK hP).trans (h2 q)), tick_out he h2 I hD hK hP]
/-- put back behind some ticks: as before -/
theorem back_eq {s' : Int → Int} {f : Int → Int} (ho : ∀ e, e < 0 ∨ 861 ≤ e → s' e = s e) (hf : ∀ e, 0 ≤ e → e < 861 → f e = s e) : scp 0 f 861 0 s' = s := by
  funext e
  rw [scp_at]
  by_cases q : 0 ≤ e ∧ e < 0 + ((861 : Nat) : Int)
  · rw [if_pos q, Int.zero_add]
    exact hf e (by omega) (by omega)
  · rw [if_neg q]
    exact ho e (by omega)
theorem aside_at (D : Nat → Int → Int) (s : Int → Int) {e : Int} (h0 : 0 ≤ e) (h1 : e < 861) : dcp 7 0 s 861 0 D 7 e = s e := by
  rw [dcp_eq, srow_eq]
  show (if 0 + 0 ≤ e ∧ e < 0 + 0 + ((861 : Nat) : Int) then s (e - 0) else D 7 e) = s e
  rw [if_pos (by omega)]
  congr 1
  omega
theorem aside_D (D : Nat → Int → Int) (s : Int → Int) : DEq D (dcp 7 0 s 861 0 D) := by
  rw [dcp_eq]
  exact DEq.row D _ (by decide) (by decide) (by decide) (by decide)
end OUT
