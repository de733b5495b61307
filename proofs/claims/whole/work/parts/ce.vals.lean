/-! what is answered is an int; what holds of the rows behind a call -/
theorem ck_t {t v l u c : Int} (h : ck t v l u c = 0) : t = 0 := by
  have := ck_or t v l u c
  omega
theorem ck_v {t v l u c : Int} (h : ck t v l u c = 0) (hc : c ≠ 0) : l ≤ v ∧ v ≤ u := by
  have := ck_or t v l u c
  omega
theorem tL_n {D : Nat → Int → Int} (h : tL D = 0) : D 0 1 ≠ 0 := by
  have := tL_or D
  omega
theorem tTk_n {D : Nat → Int → Int} {s : Int → Int} {n : Int} (h : tTk D s n = 0) : D 0 1 ≠ 0 ∧ (1 ≤ n ∧ n ≤ 200) := by
  have := tTk_or D s n
  omega
section VAL
variable {D : Nat → Int → Int} {s : Int → Int} {N : Int}
theorem CD.u (G : CD D s N) (l : D 0 1 ≠ 0) : HI (D 0 3) (D 0 4) (D 0 2) N s ∧ PIv D ∧ s (-1) = -1 := G.1.2.2.2.2.2 l
theorem V_setting (G : CD D s N) {w : Int} (t : ck (tL D) w 0 3 2 = 0) : InR (if w = 3 then D 0 2 else s (10 + w)) := by
  obtain ⟨I, V, sw⟩ := G.u (tL_n (ck_t t))
  have a := ck_v t (by decide)
  have o := I.ho
  have v := V.1
  split
  · exact ir (by omega) (by omega)
  · have hw : w = 0 ∨ w = 1 ∨ w = 2 := by omega
    unfold HIo at o
    rcases hw with rfl | rfl | rfl
    · exact show InR (s 10) from ir (by omega) (by omega)
    · exact show InR (s 11) from ir (by omega) (by omega)
    · exact show InR (s 12) from ir (by omega) (by omega)
theorem V_cnt (G : CD D s N) (hN : N ≤ 99999999) (l : D 0 1 ≠ 0) {e : Int} (he : isC e) : InR (s e) := by
  have := (G.u l).1.cn he
  exact ir (by omega) (by omega)
theorem V_count (G : CD D s N) (hN : N ≤ 99999999) (h5 : D 0 1 ≠ 0 → 0 ≤ D 0 5 ∧ D 0 5 ≤ 48) {w : Int} (t : ck (tL D) w 0 13 2 = 0) : InR (cntv D s w) := by
  have l := tL_n (ck_t t)
  obtain ⟨I, V, sw⟩ := G.u l
  have a := ck_v t (by decide)
  have h5 := h5 l
  have v3 := V.2.1
  have v4 := V.2.2.1
  unfold cntv
  split
  · exact ir (by omega) (by omega)
  split
  · exact ir (by omega) (by omega)
  split
  · exact ir (by omega) (by omega)
  split
  · exact V_cnt G hN l (Or.inl ⟨by omega, by omega⟩)
  split
  · exact V_cnt G hN l (Or.inl ⟨by omega, by omega⟩)
  split
  · have q := suml_D (s := s) (a := 115) (D 0 4).toNat 0 0 (fun q x y => by have := I.qn (p := q) ⟨x, by omega⟩; have := I.hq.1; omega) (by omega)
    exact ir (by omega) (by omega)
  split
  · have q := suml_D (s := s) (a := 511) (D 0 4).toNat 0 0 (fun q x y => by have := I.sn (p := q) ⟨x, by omega⟩; omega) (by omega)
    exact ir (by omega) (by omega)
  split
  · have := I.e2
    unfold tld
    split <;> exact ir (by omega) (by omega)
  · exact V_cnt G hN l (Or.inr (Or.inl ⟨by omega, by omega⟩))
theorem V_kn (G : CD D s N) (l : D 0 1 ≠ 0) {k w : Int} (hk : 0 ≤ k ∧ k < 8) (hw : 0 ≤ w ∧ w ≤ 2) : InR (kn s k w) := by
  have := (G.u l).1.kn hk
  have hw : w = 0 ∨ w = 1 ∨ w = 2 := by omega
  rcases hw with rfl | rfl | rfl
  · exact ir (by omega) (by omega)
  · exact ir (by omega) (by omega)
  · exact ir (by omega) (by omega)
theorem V_kind (G : CD D s N) {k w : Int} (t : ck (ck (tL D) k 0 (D 0 3 - 1) 2) w 0 2 3 = 0) : InR (kn s k w) := by
  have l := tL_n (ck_t (ck_t t))
  have v3 := (G.u l).2.1.2.1
  have a := ck_v (ck_t t) (by decide)
  have b := ck_v t (by decide)
  exact V_kn G l (by omega) b
theorem hofl_rng (D : Nat → Int → Int) (p : Int) : ∀ (n : Nat) (k acc : Int), acc ≤ hofl D p n k acc ∧ hofl D p n k acc ≤ acc + n
  | 0, _, acc => by
    show acc ≤ acc ∧ acc ≤ acc + ((0 : Nat) : Int)
    omega
  | n + 1, k, acc => by
    have := hofl_rng D p n (k + 1) (acc + (if 0 < D 3 (8 * p + k) then 1 else 0))
    show acc ≤ hofl D p n (k + 1) _ ∧ hofl D p n (k + 1) _ ≤ acc + ((n + 1 : Nat) : Int)
    split at this <;> rename_i c
    · rw [if_pos c]; omega
    · rw [if_neg c]; omega
theorem V_program (G : CD D s N) (hN : N ≤ 99999999) {p w : Int} (t : ck (ck (tL D) p 0 (D 0 4 - 1) 2) w 0 7 3 = 0) : InR (prgv D s p w) := by
  have l := tL_n (ck_t (ck_t t))
  obtain ⟨I, V, sw⟩ := G.u l
  have a := ck_v (ck_t t) (by decide)
  have b := ck_v t (by decide)
  have v3 := V.2.1
  have v4 := V.2.2.1
  have q := I.qn (p := p) (by omega)
  have q' := I.sn (p := p) (by omega)
  have m := I.hq.1
  unfold prgv
  split
  · exact ir (by omega) (by omega)
  split
  · exact ir (by omega) (by omega)
  split
  · exact I.hm p (by omega) (by omega)
  split
  · have := hofl_rng D p (D 0 3).toNat 0 0
    unfold hof
    exact ir (by omega) (by omega)
  · exact V_cnt G hN l (Or.inr (Or.inr ⟨by omega, by omega⟩))
theorem V_handler (G : CD D s N) {p k w : Int} (t : ck (ck (ck (tL D) p 0 (D 0 4 - 1) 2) k 0 (D 0 3 - 1) 2) w 0 49 3 = 0) : InR (hdlv D p k w) := by
  have l := tL_n (ck_t (ck_t (ck_t t)))
  obtain ⟨I, V, sw⟩ := G.u l
  have a := ck_v (ck_t (ck_t t)) (by decide)
  have a2 := ck_v (ck_t t) (by decide)
  have b := ck_v t (by decide)
  obtain ⟨v2, v3, v4, vh⟩ := id V
  have h := vh (8 * p + k) (by omega) (by omega)
  unfold hdlv
  split
  · exact ir (by omega) (by omega)
  split
  · exact ir (by omega) (by omega)
  split
  · exact ir (by omega) (by omega)
  split
  · rename_i q
    have e : Int.tdiv w 10 = w / 10 := Int.tdiv_eq_ediv_of_nonneg (by omega)
    have e2 : Int.tmod w 10 = w % 10 := Int.tmod_eq_emod_of_nonneg (by omega)
    rw [e, e2] at q ⊢
    have z := h.2.2 (w / 10 - 1) (by omega) (by omega)
    have hw : w % 10 = 0 ∨ w % 10 = 1 ∨ w % 10 = 2 ∨ w % 10 = 3 := by omega
    rw [show 4 * (8 * p + k) + w / 10 - 1 = 4 * (8 * p + k) + (w / 10 - 1) by omega]
    rcases hw with c | c | c | c
    · rw [c, Int.add_zero]; exact ir (by omega) (by omega)
    · rw [c]; exact ir (by omega) (by omega)
    · rw [c]; exact ir (by omega) (by omega)
    · rw [c]; exact ir (by omega) (by omega)
  · exact ir (by omega) (by omega)
theorem V_urgency (G : CD D s N) {p k : Int} (t : ck (ck (tL D) p 0 (D 0 4 - 1) 2) k 0 (D 0 3 - 1) 2 = 0) : InR (ur s p k) := by
  obtain ⟨I, V, sw⟩ := G.u (tL_n (ck_t (ck_t t)))
  have a := ck_v (ck_t t) (by decide)
  have b := ck_v t (by decide)
  have v3 := V.2.1
  have v4 := V.2.2.1
  have := (I.ur (p := p) (k := k) (by omega) (by omega)).1
  exact ir (by omega) (by omega)
theorem V_tiredness (G : CD D s N) {p k : Int} (t : ck (ck (tL D) p 0 (D 0 4 - 1) 2) k 0 (D 0 3 - 1) 2 = 0) : InR (td s p k) := by
  obtain ⟨I, V, sw⟩ := G.u (tL_n (ck_t (ck_t t)))
  have a := ck_v (ck_t t) (by decide)
  have b := ck_v t (by decide)
  have v3 := V.2.1
  have v4 := V.2.2.1
  have := I.td (p := p) (k := k) (by omega) (by omega)
  exact ir (by omega) (by omega)
theorem V_qv (G : CD D s N) (hN : N ≤ 99999999) (l : D 0 1 ≠ 0) {p i w : Int} (hp : 0 ≤ p ∧ p < 6) (hi : 0 ≤ i ∧ i < s (115 + p)) (hw : 0 ≤ w ∧ w ≤ 4) : InR (qv s p i w) := by
  obtain ⟨I, V, sw⟩ := G.u l
  have q := I.qe hp hi
  have e0 := I.e0
  have e1 := I.e1
  have v3 := V.2.1
  unfold QE at q
  have hw : w = 0 ∨ w = 1 ∨ w = 2 ∨ w = 3 ∨ w = 4 := by omega
  rcases hw with rfl | rfl | rfl | rfl | rfl <;> exact ir (by omega) (by omega)
theorem V_queue (G : CD D s N) (hN : N ≤ 99999999) {p i w : Int} (t : ck (ck (ck (tL D) p 0 (D 0 4 - 1) 2) i 0 (s (115 + p) - 1) 2) w 0 4 3 = 0) : InR (qv s p (plc s p i) w) := by
  have l := tL_n (ck_t (ck_t (ck_t t)))
  have v4 := (G.u l).2.1.2.2.1
  have a := ck_v (ck_t (ck_t t)) (by decide)
  have a2 := ck_v (ck_t t) (by decide)
  have b := ck_v t (by decide)
  exact V_qv G hN l (by omega) (plc_spec (s := s) (p := p) (x := i) (by omega)).1 b
theorem V_running (G : CD D s N) (hN : N ≤ 99999999) {p i w : Int} (t : ck (ck (ck (tL D) p 0 (D 0 4 - 1) 2) i 0 (s (511 + p) - 1) 2) w 0 4 3 = 0) : InR (sv s p (s (511 + p) - 1 - i) w) := by
  have l := tL_n (ck_t (ck_t (ck_t t)))
  obtain ⟨I, V, sw⟩ := G.u l
  have v4 := V.2.2.1
  have v3 := V.2.1
  have a := ck_v (ck_t (ck_t t)) (by decide)
  have a2 := ck_v (ck_t t) (by decide)
  have b := ck_v t (by decide)
  have q := I.se (p := p) (i := s (511 + p) - 1 - i) (by omega) (by omega)
  have e0 := I.e0
  have e1 := I.e1
  unfold SE at q
  have hw : w = 0 ∨ w = 1 ∨ w = 2 ∨ w = 3 ∨ w = 4 := by omega
  rcases hw with rfl | rfl | rfl | rfl | rfl <;> exact ir (by omega) (by omega)
theorem V_end (G : CD D s N) (hN : N ≤ 99999999) {i w : Int} (t : ck (ck (tL D) i 0 (tld s - 1) 2) w 0 4 3 = 0) : InR (rv s (Int.tmod (s 2 - 1 - i) 40) w) := by
  have l := tL_n (ck_t (ck_t t))
  obtain ⟨I, V, sw⟩ := G.u l
  have a := ck_v (ck_t t) (by decide)
  have b := ck_v t (by decide)
  have tl : tld s ≤ s 2 ∧ tld s ≤ 40 := by
    unfold tld
    split <;> omega
  have e : Int.tmod (s 2 - 1 - i) 40 = (s 2 - 1 - i) % 40 := Int.tmod_eq_emod_of_nonneg (by omega)
  rw [e]
  have q := I.hr ((s 2 - 1 - i) % 40) (by omega) (by omega) (by omega)
  have e0 := I.e0
  have e1 := I.e1
  have hw : w = 0 ∨ w = 1 ∨ w = 2 ∨ w = 3 ∨ w = 4 := by omega
  rcases hw with rfl | rfl | rfl | rfl | rfl <;> exact ir (by omega) (by omega)
theorem V_whereIs (G : CD D s N) {g : Int} (t : ck (tL D) g 0 (s 1 - 1) 2 = 0) : InR (wis D s g) := by
  obtain ⟨I, V, sw⟩ := G.u (tL_n (ck_t t))
  have v4 := V.2.2.1
  have p := pnl_rng (s := s) (g := g) (D 0 4).toNat 0 (by omega)
  have e2 := I.e2
  have tl : tld s ≤ s 2 ∧ tld s ≤ 40 ∧ 0 ≤ tld s := by
    unfold tld
    split <;> omega
  have q := tef_rng (g := g) I (tld s).toNat 0 (by omega) (by omega) (by omega)
  unfold wis
  split
  · exact ir (by omega) (by omega)
  split
  · exact ir (by omega) (by omega)
  · exact ir (by omega) (by omega)
theorem V_next (G : CD D s N) (hN : N ≤ 99999999) {p : Int} (t : ck (tL D) p 0 (D 0 4 - 1) 2 = 0) : InR (nxv s p) := by
  have l := tL_n (ck_t t)
  have v4 := (G.u l).2.1.2.2.1
  have a := ck_v t (by decide)
  have r := nxt_rng (s := s) p
  unfold nxv
  split
  · exact ir (by omega) (by omega)
  · exact V_qv G hN l (by omega) (by omega) (by omega)
theorem bsl_rng (s : Int → Int) : ∀ (n : Nat) (p b : Int), -1 ≤ b → b < p → 0 ≤ p → -1 ≤ bsl s n p b ∧ bsl s n p b < p + n
  | 0, p, b, h1, h2, _ => by
    show -1 ≤ b ∧ b < p + ((0 : Nat) : Int)
    omega
  | n + 1, p, b, h1, h2, h3 => by
    have := bsl_rng s n (p + 1) (if b = -1 ∨ s (115 + b) < s (115 + p) then p else b) (by split <;> omega) (by split <;> omega) (by omega)
    show -1 ≤ bsl s n (p + 1) _ ∧ bsl s n (p + 1) _ < p + ((n + 1 : Nat) : Int)
    omega
theorem V_busiest (G : CD D s N) (t : tL D = 0) : InR (bsl s (D 0 4).toNat 0 (-1)) := by
  have v4 := (G.u (tL_n t)).2.1.2.2.1
  have := bsl_rng s (D 0 4).toNat 0 (-1) (by omega) (by omega) (by omega)
  exact ir (by omega) (by omega)
theorem trl_rng (s : Int → Int) (p : Int) : ∀ (n : Nat) (k b : Int), -1 ≤ b → b < k → 0 ≤ k → -1 ≤ trl s p n k b ∧ trl s p n k b < k + n
  | 0, k, b, h1, h2, _ => by
    show -1 ≤ b ∧ b < k + ((0 : Nat) : Int)
    omega
  | n + 1, k, b, h1, h2, h3 => by
    have := trl_rng s p n (k + 1) (if b = -1 ∨ td s p b < td s p k then k else b) (by split <;> omega) (by split <;> omega) (by omega)
    show -1 ≤ trl s p n (k + 1) _ ∧ trl s p n (k + 1) _ < k + ((n + 1 : Nat) : Int)
    omega
theorem V_tiredest (G : CD D s N) {p : Int} (t : ck (tL D) p 0 (D 0 4 - 1) 2 = 0) : InR (trl s p (D 0 3).toNat 0 (-1)) := by
  have v3 := (G.u (tL_n (ck_t t))).2.1.2.1
  have := trl_rng s p (D 0 3).toNat 0 (-1) (by omega) (by omega) (by omega)
  exact ir (by omega) (by omega)
theorem ool_rng {K P c : Int} (I : HI K P c N s) : ∀ (n : Nat) (p l : Int), 0 ≤ p → p + n ≤ 6 → -1 ≤ l → l ≤ N → -1 ≤ ool s n p l ∧ ool s n p l ≤ N
  | 0, p, l, _, _, h1, h2 => ⟨h1, h2⟩
  | n + 1, p, l, h0, h6, h1, h2 => by
    have e1 := I.e1
    refine ool_rng I n (p + 1) (if 0 < s (115 + p) ∧ (l = -1 ∨ qv s p 0 0 < l) then qv s p 0 0 else l) (by omega) (by omega) ?_ ?_
    · split
      · rename_i c
        have := (I.qe (p := p) (i := 0) (by omega) (by omega)).1
        omega
      · exact h1
    · split
      · rename_i c
        have := (I.qe (p := p) (i := 0) (by omega) (by omega)).1
        omega
      · exact h2
theorem V_oldest (G : CD D s N) (hN : N ≤ 99999999) (t : tL D = 0) : InR (ool s (D 0 4).toNat 0 (-1)) := by
  obtain ⟨I, V, sw⟩ := G.u (tL_n t)
  have v4 := V.2.2.1
  have e1 := I.e1
  have := ool_rng I (D 0 4).toNat 0 (-1) (by omega) (by omega) (by omega) (by omega)
  exact ir (by omega) (by omega)
theorem V_loser (G : CD D s N) (hN : N ≤ 99999999) {p k : Int} (t : ck (ck (tL D) p 0 (D 0 4 - 1) 2) k 0 (D 0 3 - 1) 2 = 0) : InR (losv D s p k) := by
  have l := tL_n (ck_t (ck_t t))
  obtain ⟨I, V, sw⟩ := G.u l
  have a := ck_v (ck_t t) (by decide)
  have v4 := V.2.2.1
  have v1 := V.1
  have e1 := I.e1
  unfold losv
  split
  · exact ir (by omega) (by omega)
  split
  · exact ir (by omega) (by omega)
  · exact V_qv G hN l (by omega) (plc_spec (s := s) (p := p) (x := s (115 + p) - 1) (by omega)).1 (by omega)
theorem rasl_ir (D : Nat → Int → Int) (k : Int) : ∀ (n : Nat) (p a : Int), InR a → InR (rasl D k n p a)
  | 0, _, _, h => h
  | n + 1, p, a, _ => rasl_ir D k n (p + 1) _ (bor_InR _ _)
theorem til_rng (D : Nat → Int → Int) (p : Int) : ∀ (n : Nat) (k : Int) (s : Int → Int), 0 ≤ k → -1 ≤ til D p n k s ∧ til D p n k s ≤ k + n
  | 0, k, s, h => by
    show -1 ≤ (if idc D s p = 1 then k else -1) ∧ (if idc D s p = 1 then k else -1) ≤ k + ((0 : Nat) : Int)
    split <;> omega
  | n + 1, k, s, h => by
    have := til_rng D p n (k + 1) (e_tick D s) (by omega)
    show -1 ≤ (if idc D s p = 1 then k else til D p n (k + 1) (e_tick D s)) ∧ (if idc D s p = 1 then k else til D p n (k + 1) (e_tick D s)) ≤ k + ((n + 1 : Nat) : Int)
    split <;> omega
theorem V_til (D : Nat → Int → Int) (s : Int → Int) (p : Int) : InR (til D p 200 0 s) := by
  have := til_rng D p 200 0 s (by omega)
  exact ir (by omega) (by omega)
theorem V_tks (G : CD D s N) (hN : N ≤ 99999999) (l : D 0 1 ≠ 0) {m e : Int} (hm : 0 ≤ m ∧ m ≤ 200) (he : isC e) : InR (e_tks D m.toNat s e - s e) := by
  obtain ⟨I, V, sw⟩ := G.u l
  have a := (tks_HI V rfl rfl m.toNat N s I).cn he
  have b := I.cn he
  exact ir (by omega) (by omega)
theorem V_endsIn (G : CD D s N) (hN : N ≤ 99999999) {u m : Int} (t : ck (ck (tL D) u 0 5 2) m 0 200 2 = 0) : InR (e_tks D m.toNat s (4 + u) - s (4 + u)) := by
  have a := ck_v (ck_t t) (by decide)
  exact V_tks G hN (tL_n (ck_t (ck_t t))) (ck_v t (by decide)) (Or.inr (Or.inl ⟨by omega, by omega⟩))
theorem V_sentIn (G : CD D s N) (hN : N ≤ 99999999) {m : Int} (t : ck (tL D) m 0 200 2 = 0) : InR (e_tks D m.toNat s 1 - s 1) :=
  V_tks G hN (tL_n (ck_t t)) (ck_v t (by decide)) (Or.inl ⟨by omega, by omega⟩)
theorem V_urgencyIn (G : CD D s N) {p k m : Int} (t : ck (ck (ck (tL D) p 0 (D 0 4 - 1) 2) k 0 (D 0 3 - 1) 2) m 0 200 3 = 0) : InR (ur (e_tks D m.toNat s) p k) := by
  obtain ⟨I, V, sw⟩ := G.u (tL_n (ck_t (ck_t (ck_t t))))
  have a := ck_v (ck_t (ck_t t)) (by decide)
  have b := ck_v (ck_t t) (by decide)
  have v3 := V.2.1
  have v4 := V.2.2.1
  have := ((tks_HI V rfl rfl m.toNat N s I).ur (p := p) (k := k) (by omega) (by omega)).1
  exact ir (by omega) (by omega)
theorem bml_rng (D : Nat → Int → Int) (s : Int → Int) (p : Int) : ∀ (n : Nat) (k b c : Int), -1 ≤ b → b < k → 0 ≤ k → -1 ≤ bml D s p n k b c ∧ bml D s p n k b c < k + n
  | 0, k, b, c, h1, h2, _ => by
    show -1 ≤ b ∧ b < k + ((0 : Nat) : Int)
    omega
  | n + 1, k, b, c, h1, h2, h3 => by
    rw [bml]
    split
    · split
      · have := bml_rng D s p n (k + 1) k (e_tks D 50 (bmm s p k) (91 + 4 * p + 3) - s (91 + 4 * p + 3)) (by omega) (by omega) (by omega)
        omega
      · have := bml_rng D s p n (k + 1) b c h1 (by omega) (by omega)
        omega
    · have := bml_rng D s p n (k + 1) b c h1 (by omega) (by omega)
      omega
theorem V_bestMask (G : CD D s N) {p : Int} (t : ck (tL D) p 0 (D 0 4 - 1) 2 = 0) : InR (bml D s p (D 0 3).toNat 0 (-1) 0) := by
  have v3 := (G.u (tL_n (ck_t t))).2.1.2.1
  have := bml_rng D s p (D 0 3).toNat 0 (-1) 0 (by omega) (by omega) (by omega)
  exact ir (by omega) (by omega)
theorem V_tick (G : CD D s N) (hN : N ≤ 99999999) {m : Int} (t : tTk D s m = 0) : InR (e_tks D m.toNat s 2 - s 2) := by
  have a := tTk_n t
  exact V_tks G hN a.1 (by omega) (Or.inl ⟨by omega, by omega⟩)
theorem V_drop {g : Int} : InR (drpv D s g) := by
  unfold drpv
  split
  · exact ir (by omega) (by omega)
  · split <;> exact ir (by omega) (by omega)
theorem rfsum_rng (p : Int) : ∀ (n : Nat) (k : Int) (s : Int → Int) (a : Int), (∀ q, k ≤ q → q < k + n → 0 ≤ td s p q ∧ td s p q ≤ 99) → a ≤ rfsum p n k s a ∧ rfsum p n k s a ≤ a + 99 * n
  | 0, k, s, a, _ => by
    show a ≤ a ∧ a ≤ a + 99 * ((0 : Nat) : Int)
    omega
  | n + 1, k, s, a, h => by
    have h0 := h k (by omega) (by omega)
    have := rfsum_rng p n (k + 1) (ups s (37 + 8 * p + k) 0) (a + td s p k) (fun q x y => by
      have z := h q (by omega) (by omega)
      unfold td at z ⊢
      rw [ups_ne (by omega)]
      exact z)
    show a ≤ rfsum p n (k + 1) _ _ ∧ rfsum p n (k + 1) _ _ ≤ a + 99 * ((n + 1 : Nat) : Int)
    omega
theorem V_refresh (G : CD D s N) {p : Int} (t : ck (tL D) p 0 (D 0 4 - 1) 2 = 0) : InR (rfsum p (D 0 3).toNat 0 s 0) := by
  obtain ⟨I, V, sw⟩ := G.u (tL_n (ck_t t))
  have a := ck_v t (by decide)
  have v3 := V.2.1
  have v4 := V.2.2.1
  have := rfsum_rng p (D 0 3).toNat 0 s 0 (fun q x y => I.td (by omega) (by omega))
  exact ir (by omega) (by omega)
/-! the texts -/
theorem wq_len (D : Nat → Int → Int) (s : Int → Int) (p : Int) : ∀ (n : Nat) (i : Int) (l : List Int), (wqL D s p n i l).length ≤ l.length + 30 * n
  | 0, _, l => Nat.le_refl _
  | n + 1, i, l => by
    have a := wq_len D s p n (i + 1) (wq1 D s p (plc s p i) l)
    have b := wq1_len (D := D) (s := s) (p := p) (k := plc s p i) l
    show (wqL D s p n (i + 1) (wq1 D s p (plc s p i) l)).length ≤ _
    omega
theorem ws_len (D : Nat → Int → Int) (s : Int → Int) (p : Int) : ∀ (n : Nat) (l : List Int), (wsL D s p n l).length ≤ l.length + 19 * n
  | 0, l => Nat.le_refl _
  | n + 1, l => by
    have a := ws_len D s p n (ws1 D s p n l)
    have b := ws1_len (D := D) (s := s) (p := p) (k := n) l
    show (wsL D s p n (ws1 D s p n l)).length ≤ _
    omega
theorem we_len {K P c : Int} (I : HI K P c N s) (hN : N ≤ 99999999) : ∀ (n : Nat) (i : Int) (l : List Int), 0 ≤ i → i + n ≤ tld s → (weL s n i l).length ≤ l.length + 10 * n
  | 0, _, l, _, _ => Nat.le_refl _
  | n + 1, i, l, h0, h1 => by
    have a := we_len I hN n (i + 1) (we1 s i l) (by omega) (by omega)
    have tl : tld s ≤ s 2 ∧ tld s ≤ 40 := by
      unfold tld
      split <;> omega
    have e : Int.tmod (s 2 - 1 - i) 40 = (s 2 - 1 - i) % 40 := Int.tmod_eq_emod_of_nonneg (by omega)
    have q := I.hr ((s 2 - 1 - i) % 40) (by omega) (by omega) (by omega)
    have e1 := I.e1
    have b := we1_len8 (s := s) (i := i) l (by rw [e]; omega)
    show (weL s n (i + 1) (we1 s i l)).length ≤ _
    omega
/-- all of a text are ints -/
def LI (l : List Int) : Prop := ∀ x ∈ l, InR x
theorem LI.app {a b : List Int} (x : LI a) (y : LI b) : LI (a ++ b) := fun z h => by
  rcases List.mem_append.mp h with q | q
  · exact x z q
  · exact y z q
theorem LI.one {x : Int} (h : InR x) : LI [x] := fun z q => by
  rcases List.mem_cons.mp q with q | q
  · rw [q]; exact h
  · cases q
theorem LI.nil : LI [] := fun _ q => by cases q
theorem LI.dg (v : Int) : ∀ n : Nat, LI (dgl v n)
  | 0 => LI.nil
  | n + 1 => fun z q => by
    rcases List.mem_cons.mp q with q | q
    · rw [q]; exact ir (by omega) (by omega)
    · exact LI.dg v n z q
theorem LI.ch {f : Int → Int} : ∀ (n : Nat) (i : Int), (∀ j, i ≤ j → j < i + n → InR (f j)) → LI (chL f n i)
  | 0, _, _ => LI.nil
  | n + 1, i, h => by
    show LI (if f i = 0 then [] else f i :: chL f n (i + 1))
    split
    · exact LI.nil
    · intro z q
      rcases List.mem_cons.mp q with q | q
      · rw [q]; exact h i (by omega) (by omega)
      · exact LI.ch n (i + 1) (fun j a b => h j (by omega) (by omega)) z q
theorem LI.kd {D : Nat → Int → Int} (B : NB (D 1)) {k : Int} (hk : 0 ≤ k ∧ k < 8) : LI (kndL D k) := LI.ch 7 0 (fun j a b => by
  have := B (7 * k + j) (by omega) (by omega)
  exact ir (by omega) (by omega))
theorem LI.sp {l : List Int} (h : LI l) {c : Int} (hc : InR c) : LI (sepL l c) := by
  unfold sepL
  split
  · exact h
  · exact h.app (LI.one hc)
theorem LI.at {l : List Int} (h : LI l) (i : Nat) : InR (l.getD i 0) := by
  by_cases c : i < l.length
  · rw [List.getD_eq_getElem?_getD, List.getElem?_eq_getElem c]
    exact h _ (List.getElem_mem c)
  · rw [List.getD_eq_getElem?_getD, List.getElem?_eq_none (by omega)]
    exact ir (by decide) (by decide)
theorem wq_LI {K P c : Int} (I : HI K P c N s) (B : NB (D 1)) (hK : K ≤ 8) {p : Int} (hp : 0 ≤ p ∧ p < 6) : ∀ (n : Nat) (i : Int) (l : List Int), LI l → 0 ≤ i → i + n ≤ s (115 + p) → LI (wqL D s p n i l)
  | 0, _, _, h, _, _ => h
  | n + 1, i, l, h, h0, h1 => by
    have q := (I.qe hp (plc_spec (s := s) (p := p) (x := i) (by omega)).1).2.1
    refine wq_LI I B hK hp n (i + 1) _ ?_ (by omega) (by omega)
    unfold wq1
    exact (((((h.sp (ir (by omega) (by omega))).app (LI.dg _ _)).app (LI.one (ir (by omega) (by omega)))).app (LI.kd B (by omega))).app (LI.one (ir (by omega) (by omega)))).app (LI.dg _ _)
theorem ws_LI {K P c : Int} (I : HI K P c N s) (B : NB (D 1)) (hK : K ≤ 8) {p : Int} (hp : 0 ≤ p ∧ p < 6) : ∀ (n : Nat) (l : List Int), LI l → n ≤ s (511 + p) → LI (wsL D s p n l)
  | 0, _, h, _ => h
  | n + 1, l, h, h1 => by
    have q := (I.se hp (i := n) (by omega)).2.1
    refine ws_LI I B hK hp n _ ?_ (by omega)
    unfold ws1
    exact (((h.sp (ir (by omega) (by omega))).app (LI.kd B (by omega))).app (LI.one (ir (by omega) (by omega)))).app (LI.dg _ _)
theorem we_LI (s : Int → Int) : ∀ (n : Nat) (i : Int) (l : List Int), LI l → LI (weL s n i l)
  | 0, _, _, h => h
  | n + 1, i, l, h => by
    refine we_LI s n (i + 1) _ ?_
    unfold we1
    refine ((h.sp (ir (by omega) (by omega))).app (LI.dg _ _)).app (LI.one ?_)
    unfold lett
    split
    · exact ir (by omega) (by omega)
    split
    · exact ir (by omega) (by omega)
    split
    · exact ir (by omega) (by omega)
    split
    · exact ir (by omega) (by omega)
    split <;> exact ir (by omega) (by omega)
/-- the rows behind a text -/
theorem CD.text {D' : Nat → Int → Int} {l : List Int} {N' : Int} (G : CD D s N) (x : TX D D' l) (h : l.length ≤ 400) (L : LI l) (hN : N ≤ N') (hM : N' ≤ 1990000000) : CD D' s N' := by
  obtain ⟨x1, x2, x3, x4⟩ := x
  refine CD.mono ?_ hN hM
  refine ⟨G.W.eq2 (fun e a b => x4 e (by omega)) (fun j a b => x3 j (by omega) (by omega)), by rw [x4 17 (by decide)]; exact G.h17, G.B.of (x3 10 (by decide) (by decide)), ?_, G.k.of (x3 13 (by decide) (by decide)), ⟨G.sw, G.s2⟩, ?_, by omega, fun e a b => ?_, by rw [x4 14 (by decide)]; exact G.c, by rw [x3 9 (by decide) (by decide)]; exact G.f9⟩
  · rw [x3 1 (by decide) (by decide), x3 2 (by decide) (by decide), x3 11 (by decide) (by decide), x3 12 (by decide) (by decide)]
    exact ⟨G.n1, G.n2, G.n11, G.n12⟩
  · rw [x4 18 (by decide), x4 19 (by decide)]
    exact ⟨G.h18, G.h19⟩
  · obtain ⟨i, rfl⟩ : ∃ i : Nat, e = i := ⟨e.toNat, by omega⟩
    rw [x2 i (by omega)]
    exact L.at i
/-- the rows behind a change that is remembered -/
theorem CD.chg {s1 : Int → Int} {N' : Int} (G : CD D s N) (I : HI (D 0 3) (D 0 4) (D 0 2) N' s1) (l : D 0 1 ≠ 0) (sw : s1 (-1) = -1) (hM : N' ≤ 1990000000) : CD (kpA D s) s1 N' := by
  have kf : ∀ e : Int, e ≠ 14 → kpA D s 0 e = D 0 e := fun e q => kpA_0 D s q
  have kr : ∀ j, j ≠ 0 → j ≠ 8 → kpA D s j = D j := fun j q1 q2 => kpA_row D s q1 q2
  obtain ⟨w1, w2, w3, w4, w5, w6⟩ := G.W
  obtain ⟨_, V, _⟩ := w6 l
  have e1 := I.e1
  have c := G.c
  refine ⟨⟨by rw [kf 1 (by decide)]; exact w1, by rw [kf 3 (by decide)]; exact w2, by rw [kf 4 (by decide)]; exact w3, hM, e1, fun _ => ⟨?_, ?_, sw⟩⟩, by rw [kf 17 (by decide)]; exact G.h17, G.B.of (kr 10 (by decide) (by decide)), ?_, G.k.of (kr 13 (by decide) (by decide)), ⟨sw, I.ho.2.2.2.2⟩, ?_, by rw [kf 46 (by decide)]; exact G.h46, ?_, ?_, by rw [kr 9 (by decide) (by decide)]; exact G.f9⟩
  · rw [kf 2 (by decide), kf 3 (by decide), kf 4 (by decide)]
    exact I
  · exact V.eq3 (kf 2 (by decide)) (kf 3 (by decide)) (kf 4 (by decide)) (kr 3 (by decide) (by decide)) (kr 4 (by decide) (by decide)) (kr 5 (by decide) (by decide))
  · rw [kr 1 (by decide) (by decide), kr 2 (by decide) (by decide), kr 11 (by decide) (by decide), kr 12 (by decide) (by decide)]
    exact ⟨G.n1, G.n2, G.n11, G.n12⟩
  · rw [kf 18 (by decide), kf 19 (by decide)]
    exact ⟨G.h18, G.h19⟩
  · rw [kf 46 (by decide), kr 19 (by decide) (by decide)]
    exact G.tx
  · rw [kpA_14]
    split <;> omega
/-- the rows behind a change back -/
theorem CD.back {s1 : Int → Int} {N' c : Int} (G : CD D s N) (I : HI (D 0 3) (D 0 4) (D 0 2) N s1) (sw : s1 (-1) = -1) (hc : 0 ≤ c ∧ c ≤ 8) (hN : N ≤ N') (hM : N' ≤ 1990000000) : CD (dst D 0 14 c) s1 N' := by
  have kf : ∀ e : Int, e ≠ 14 → dst D 0 14 c 0 e = D 0 e := fun e q => dst_ne q
  have kr : ∀ j, j ≠ 0 → dst D 0 14 c j = D j := fun j q => dst_row q
  obtain ⟨w1, w2, w3, w4, w5, w6⟩ := G.W
  have e1 := I.e1
  refine CD.mono ?_ hN hM
  refine ⟨⟨by rw [kf 1 (by decide)]; exact w1, by rw [kf 3 (by decide)]; exact w2, by rw [kf 4 (by decide)]; exact w3, by omega, e1, fun l => ⟨?_, ?_, sw⟩⟩, by rw [kf 17 (by decide)]; exact G.h17, G.B.of (kr 10 (by decide)), ?_, G.k.of (kr 13 (by decide)), ⟨sw, I.ho.2.2.2.2⟩, ?_, by rw [kf 46 (by decide)]; exact G.h46, ?_, ?_, by rw [kr 9 (by decide)]; exact G.f9⟩
  · rw [kf 2 (by decide), kf 3 (by decide), kf 4 (by decide)]
    exact I
  · rw [kf 1 (by decide)] at l
    exact (w6 l).2.1.eq3 (kf 2 (by decide)) (kf 3 (by decide)) (kf 4 (by decide)) (kr 3 (by decide)) (kr 4 (by decide)) (kr 5 (by decide))
  · rw [kr 1 (by decide), kr 2 (by decide), kr 11 (by decide), kr 12 (by decide)]
    exact ⟨G.n1, G.n2, G.n11, G.n12⟩
  · rw [kf 18 (by decide), kf 19 (by decide)]
    exact ⟨G.h18, G.h19⟩
  · rw [kf 46 (by decide), kr 19 (by decide)]
    exact G.tx
  · rw [dst_eq]
    exact hc
theorem CD.save {j N' : Int} (G : CD D s N) (hN : N ≤ N') (hM : N' ≤ 1990000000) : CD (dst (dcp 8 (861 * (8 + j)) s 861 0 D) 9 j 1) s N' := by
  have r : ∀ j', j' ≠ 8 → j' ≠ 9 → dst (dcp 8 (861 * (8 + j)) s 861 0 D) 9 j 1 j' = D j' := fun j' q q' => by rw [dst_row q', dcp_row q]
  have q0 := r 0 (by decide) (by decide)
  refine CD.mono ?_ hN hM
  refine ⟨G.W.eq2 (fun e a b => by rw [q0]) (fun j a b => r j (by omega) (by omega)), by rw [q0]; exact G.h17, G.B.of (r 10 (by decide) (by decide)), ?_, G.k.of (r 13 (by decide) (by decide)), ⟨G.sw, G.s2⟩, by rw [q0]; exact ⟨G.h18, G.h19⟩, by rw [q0]; exact G.h46, by rw [q0, r 19 (by decide) (by decide)]; exact G.tx, by rw [q0]; exact G.c, fun i a b => ?_⟩
  · rw [r 1 (by decide) (by decide), r 2 (by decide) (by decide), r 11 (by decide) (by decide), r 12 (by decide) (by decide)]
    exact ⟨G.n1, G.n2, G.n11, G.n12⟩
  · by_cases z : i = j
    · rw [z, dst_eq]; exact Or.inr rfl
    · rw [dst_ne z, dcp_row (by decide)]
      exact G.f9 i a b
theorem CD.buf {D' : Nat → Int → Int} {N' : Int} (G : CD D s N) (f17 : 0 ≤ D' 0 17 ∧ D' 0 17 ≤ 700) (f : ∀ e, e ≠ 17 → D' 0 e = D 0 e) (r : ∀ j, j ≠ 0 → j ≠ 10 → D' j = D j) (B : BY D') (hN : N ≤ N') (hM : N' ≤ 1990000000) : CD D' s N' := by
  refine CD.mono ?_ hN hM
  refine ⟨G.W.eq2 (fun e a b => f e (by omega)) (fun j a b => r j (by omega) (by omega)), f17, B, ?_, G.k.of (r 13 (by decide) (by decide)), ⟨G.sw, G.s2⟩, ?_, by rw [f 46 (by decide)]; exact G.h46, by rw [f 46 (by decide), r 19 (by decide) (by decide)]; exact G.tx, by rw [f 14 (by decide)]; exact G.c, by rw [r 9 (by decide) (by decide)]; exact G.f9⟩
  · rw [r 1 (by decide) (by decide), r 2 (by decide) (by decide), r 11 (by decide) (by decide), r 12 (by decide) (by decide)]
    exact ⟨G.n1, G.n2, G.n11, G.n12⟩
  · rw [f 18 (by decide), f 19 (by decide)]
    exact ⟨G.h18, G.h19⟩
end VAL
