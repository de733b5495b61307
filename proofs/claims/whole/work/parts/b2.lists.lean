/-! the class's lists (2) (written by wip/whole/tools/eng.py) -/
section VCS
variable {call : PC} {mc ms fr : Nat} {Q : Int → PH → Prop} {X : Nat → PH → Prop} {K : PK}
set_option maxRecDepth 100000 in
theorem v_X1_total_0 (a0 : Nat) (z1 : Option PV) (z2 : Option PV) (h : PH) (c s : Nat) (H : K 4 [some (pA a0), some (pI 0), some (pI 0)] [] h c s) : wpc k_X1_total [] call mc ms fr Q X [4] K 400 (pto 0 k_X1_total) [some (pA a0), z1, z2] [] h c s :=
  H
set_option maxRecDepth 100000 in
theorem v_X1_total_4 (a0 : Nat) (i1 : Int) (i2 : Int) (h : PH) (c s : Nat) (H : hk h a0 = 2 ∧ (20 ≤ hk h (hr h a0 1) ∧ hk h (hr h a0 1) ≤ 26) ∧ InR i2 ∧ InR ((hl h (hr h a0 1) : Int)) ∧ (i2 < ((hl h (hr h a0 1) : Int)) →
 hk h a0 = 2 ∧ (hk h (hr h a0 1) = 20 ∨ hk h (hr h a0 1) = 26) ∧ (0 ≤ i2 ∧ i2 < (hl h (hr h a0 1) : Int)) ∧ K 4 [some (pA a0), some (pI (i1 + (hi h (hr h a0 1) (Int.toNat i2)))), some (pI (i2 + 1))] [] h c s) ∧
(((hl h (hr h a0 1) : Int)) ≤ i2 →
 Q i1 h)) : wpc k_X1_total [] call mc ms fr Q X [4] K 400 (pto 4 k_X1_total) [some (pA a0), some (pI i1), some (pI i2)] [] h c s :=
  H
set_option maxRecDepth 100000 in
theorem v_X1_programOf_0 (a0 : Nat) (i1 : Int) (z2 : Option PV) (h : PH) (c s : Nat) (H : K 2 [some (pA a0), some (pI i1), some (pI 0)] [] h c s) : wpc k_X1_programOf [] call mc ms fr Q X [2] K 400 (pto 0 k_X1_programOf) [some (pA a0), some (pI i1), z2] [] h c s :=
  H
set_option maxRecDepth 100000 in
theorem v_X1_programOf_2 (a0 : Nat) (i1 : Int) (i2 : Int) (h : PH) (c s : Nat) (H : hk h a0 = 2 ∧ (20 ≤ hk h (hr h a0 1) ∧ hk h (hr h a0 1) ≤ 26) ∧ InR i2 ∧ InR ((hl h (hr h a0 1) : Int)) ∧ (i2 < ((hl h (hr h a0 1) : Int)) →
 hk h a0 = 2 ∧ call m_X1_indexOf [pA a0, pI i2, pI i1] h (fun x1 h1 =>
 InR x1 ∧ InR ((-1)) ∧ (x1 = ((-1)) →
 K 2 [some (pA a0), some (pI i1), some (pI (i2 + 1))] [] h1 c s) ∧
(x1 ≠ ((-1)) →
 Q i2 h1)) X) ∧
(((hl h (hr h a0 1) : Int)) ≤ i2 →
 Q ((-1)) h)) : wpc k_X1_programOf [] call mc ms fr Q X [2] K 400 (pto 2 k_X1_programOf) [some (pA a0), some (pI i1), some (pI i2)] [] h c s :=
  H
end VCS
theorem L_X1_total_q_4 {d b : Nat} {h0 h : PH} {E : Nat → Int → Int} {Q : Int → PH → Prop} {X : Nat → PH → Prop} {C K P c N : Int} {s : Int → Int} (M : Hx b h0 h E) (R : HR E C K s) (I : HI K P c N s) : ∀ (n : Nat) (acc p : Int), (0 ≤ p) → (p + n = 6) → (∀ x : Int, x = suml s 115 n p acc → Q x h) → WP k_X1_total [] (RUN GQ (d + 0)) 0 0 (d + 1) Q X 4 [some (pA (b + 6)), some (pI acc), some (pI p)] [] h 0 0 := by
  intro n
  induction n with
  | zero =>
    intro acc p hp0 hn0 H
    refine WP.of (RUN.mono GQ _) (cuts := [4]) (n := 400) (v_X1_total_4 _ _ _ _ _ _ ?_)
    refine ⟨Bx.k M 6 (by decide) rfl, ?_⟩
    try rw [show hr h (b + 6) 1 = b + 7 from Bx.r M 6 1 7 (by decide)]
    refine Bx.al M 7 6 20 (by decide) rfl (by decide) rfl (fun el9 => ?_)
    refine ⟨ir (by omega) (by omega), ir (by omega) (by omega), fun c10 => ?_, fun c10 => ?_⟩
    · exfalso; omega
    · exact H _ rfl
  | succ n ih =>
    intro acc p hp0 hn0 H
    have r1 := R.qn (p := p) (by omega)
    refine WP.of (RUN.mono GQ _) (cuts := [4]) (n := 400) (v_X1_total_4 _ _ _ _ _ _ ?_)
    refine ⟨Bx.k M 6 (by decide) rfl, ?_⟩
    try rw [show hr h (b + 6) 1 = b + 7 from Bx.r M 6 1 7 (by decide)]
    refine Bx.al M 7 6 20 (by decide) rfl (by decide) rfl (fun el9 => ?_)
    refine ⟨ir (by omega) (by omega), ir (by omega) (by omega), fun c10 => ?_, fun c10 => ?_⟩
    · refine ⟨Bx.k M 6 (by decide) rfl, ?_⟩
      try rw [show hr h (b + 6) 1 = b + 7 from Bx.r M 6 1 7 (by decide)]
      refine Bx.ld M 7 6 (by decide) rfl rfl (by omega) (by omega) (fun er => ?_)
      try rw [er]
      clear er
      rw [r1]
      refine ih _ _ (by omega) (by omega) ?_
      exact H
    · exfalso; omega
theorem S_X1_total_q {d b : Nat} {h0 h : PH} {E : Nat → Int → Int} {Q : Int → PH → Prop} {X : Nat → PH → Prop} {C K P c N : Int} {s : Int → Int} (M : Hx b h0 h E) (R : HR E C K s) (I : HI K P c N s)  (H : ∀ x : Int, x = (suml s 115 6 0 0) → Q x h) : RUN GQ (d + 1) m_X1_total [pA (b + 6)] h Q X := by
  rw [e_X1_total]
  refine WP.of (RUN.mono GQ _) (cuts := [4]) (n := 400) (v_X1_total_0 _ _ _ _ _ _ ?_)
  refine L_X1_total_q_4 M R I (6) _ _ (by omega) (by omega) ?_
  exact H
theorem L_X1_total_s_4 {d b : Nat} {h0 h : PH} {E : Nat → Int → Int} {Q : Int → PH → Prop} {X : Nat → PH → Prop} {C K P c N : Int} {s : Int → Int} (M : Hx b h0 h E) (R : HR E C K s) (I : HI K P c N s) : ∀ (n : Nat) (acc p : Int), (0 ≤ p) → (p + n = 6) → (∀ x : Int, x = suml s 511 n p acc → Q x h) → WP k_X1_total [] (RUN GQ (d + 0)) 0 0 (d + 1) Q X 4 [some (pA (b + 9)), some (pI acc), some (pI p)] [] h 0 0 := by
  intro n
  induction n with
  | zero =>
    intro acc p hp0 hn0 H
    refine WP.of (RUN.mono GQ _) (cuts := [4]) (n := 400) (v_X1_total_4 _ _ _ _ _ _ ?_)
    refine ⟨Bx.k M 9 (by decide) rfl, ?_⟩
    try rw [show hr h (b + 9) 1 = b + 10 from Bx.r M 9 1 10 (by decide)]
    refine Bx.al M 10 6 20 (by decide) rfl (by decide) rfl (fun el9 => ?_)
    refine ⟨ir (by omega) (by omega), ir (by omega) (by omega), fun c10 => ?_, fun c10 => ?_⟩
    · exfalso; omega
    · exact H _ rfl
  | succ n ih =>
    intro acc p hp0 hn0 H
    have r1 := R.sn (p := p) (by omega)
    refine WP.of (RUN.mono GQ _) (cuts := [4]) (n := 400) (v_X1_total_4 _ _ _ _ _ _ ?_)
    refine ⟨Bx.k M 9 (by decide) rfl, ?_⟩
    try rw [show hr h (b + 9) 1 = b + 10 from Bx.r M 9 1 10 (by decide)]
    refine Bx.al M 10 6 20 (by decide) rfl (by decide) rfl (fun el9 => ?_)
    refine ⟨ir (by omega) (by omega), ir (by omega) (by omega), fun c10 => ?_, fun c10 => ?_⟩
    · refine ⟨Bx.k M 9 (by decide) rfl, ?_⟩
      try rw [show hr h (b + 9) 1 = b + 10 from Bx.r M 9 1 10 (by decide)]
      refine Bx.ld M 10 6 (by decide) rfl rfl (by omega) (by omega) (fun er => ?_)
      try rw [er]
      clear er
      rw [r1]
      refine ih _ _ (by omega) (by omega) ?_
      exact H
    · exfalso; omega
theorem S_X1_total_s {d b : Nat} {h0 h : PH} {E : Nat → Int → Int} {Q : Int → PH → Prop} {X : Nat → PH → Prop} {C K P c N : Int} {s : Int → Int} (M : Hx b h0 h E) (R : HR E C K s) (I : HI K P c N s)  (H : ∀ x : Int, x = (suml s 511 6 0 0) → Q x h) : RUN GQ (d + 1) m_X1_total [pA (b + 9)] h Q X := by
  rw [e_X1_total]
  refine WP.of (RUN.mono GQ _) (cuts := [4]) (n := 400) (v_X1_total_0 _ _ _ _ _ _ ?_)
  refine L_X1_total_s_4 M R I (6) _ _ (by omega) (by omega) ?_
  exact H
theorem L_X1_programOf_q_2 {d b : Nat} {h0 h : PH} {E : Nat → Int → Int} {Q : Int → PH → Prop} {X : Nat → PH → Prop} {C K P c N : Int} {s : Int → Int} {g : Int} (M : Hx b h0 h E) (R : HR E C K s) (I : HI K P c N s) (hN : N ≤ 2000000000) (hg : InR g) : ∀ (n : Nat) (p : Int), (0 ≤ p) → (p + n = 6) → (∀ x : Int, x = ppl s g 115 qv n p → Q x h) → WP k_X1_programOf [] (RUN GQ (d + 2)) 0 0 (d + 3) Q X 2 [some (pA (b + 6)), some (pI g), some (pI p)] [] h 0 0 := by
  intro n
  induction n with
  | zero =>
    intro p hp0 hn0 H
    refine WP.of (RUN.mono GQ _) (cuts := [2]) (n := 400) (v_X1_programOf_2 _ _ _ _ _ _ ?_)
    refine ⟨Bx.k M 6 (by decide) rfl, ?_⟩
    try rw [show hr h (b + 6) 1 = b + 7 from Bx.r M 6 1 7 (by decide)]
    refine Bx.al M 7 6 20 (by decide) rfl (by decide) rfl (fun el7 => ?_)
    refine ⟨ir (by omega) (by omega), ir (by omega) (by omega), fun c8 => ?_, fun c8 => ?_⟩
    · exfalso; omega
    · exact H _ rfl
  | succ n ih =>
    intro p hp0 hn0 H
    have r1 := R.qn (p := p) (by omega)
    have n1 := I.qn (p := p) (by omega)
    have m1 := I.hq.1
    have e1 := I.e1
    have cl : ∀ i, 0 ≤ i → i < s (115 + p) → E 8 ((p * 13 + i) * 7 + 0) = qv s p i 0 := fun i a b => R.qv (by omega) ⟨a, b⟩ (by omega)
    have fe := ffi_congr (g := g) (s (115 + p)).toNat 0 (fun i a b => cl i (by omega) (by omega))
    have rg := ffi_spec (f := fun i => qv s p i 0) (g := g) (s (115 + p)).toNat 0
    refine WP.of (RUN.mono GQ _) (cuts := [2]) (n := 400) (v_X1_programOf_2 _ _ _ _ _ _ ?_)
    refine ⟨Bx.k M 6 (by decide) rfl, ?_⟩
    try rw [show hr h (b + 6) 1 = b + 7 from Bx.r M 6 1 7 (by decide)]
    refine Bx.al M 7 6 20 (by decide) rfl (by decide) rfl (fun el7 => ?_)
    refine ⟨ir (by omega) (by omega), ir (by omega) (by omega), fun c8 => ?_, fun c8 => ?_⟩
    · refine ⟨Bx.k M 6 (by decide) rfl, ?_⟩
      refine S_X1_indexOf_q M (by exact R.r6) (by omega) (by rw [r1]; omega) (by omega) (by intro i a b; rw [r1] at b; rw [cl i a b]; have := (I.qe (p := p) (by omega) ⟨a, b⟩).1; exact ⟨by omega, by omega⟩) (fun x14 e14 => ?_)
      subst e14
      rw [r1, fe]
      refine ⟨ir (by omega) (by omega), ir (by omega) (by omega), fun c18 => ?_, fun c18 => ?_⟩
      · refine ih _ (by omega) (by omega) ?_
        rw [ppl, if_neg (fun z => z c18)] at H
        exact H
      · exact H _ (by rw [ppl, if_pos c18])
    · exfalso; omega
theorem S_X1_programOf_q {d b : Nat} {h0 h : PH} {E : Nat → Int → Int} {Q : Int → PH → Prop} {X : Nat → PH → Prop} {C K P c N : Int} {s : Int → Int} {g : Int} (M : Hx b h0 h E) (R : HR E C K s) (I : HI K P c N s) (hN : N ≤ 2000000000) (hg : InR g) (H : ∀ x : Int, x = (ppl s g 115 qv 6 0) → Q x h) : RUN GQ (d + 3) m_X1_programOf [pA (b + 6), pI g] h Q X := by
  rw [e_X1_programOf]
  refine WP.of (RUN.mono GQ _) (cuts := [2]) (n := 400) (v_X1_programOf_0 _ _ _ _ _ _ ?_)
  refine L_X1_programOf_q_2 M R I hN hg (6) _ (by omega) (by omega) ?_
  exact H
theorem L_X1_programOf_s_2 {d b : Nat} {h0 h : PH} {E : Nat → Int → Int} {Q : Int → PH → Prop} {X : Nat → PH → Prop} {C K P c N : Int} {s : Int → Int} {g : Int} (M : Hx b h0 h E) (R : HR E C K s) (I : HI K P c N s) (hN : N ≤ 2000000000) (hg : InR g) : ∀ (n : Nat) (p : Int), (0 ≤ p) → (p + n = 6) → (∀ x : Int, x = ppl s g 511 sv n p → Q x h) → WP k_X1_programOf [] (RUN GQ (d + 2)) 0 0 (d + 3) Q X 2 [some (pA (b + 9)), some (pI g), some (pI p)] [] h 0 0 := by
  intro n
  induction n with
  | zero =>
    intro p hp0 hn0 H
    refine WP.of (RUN.mono GQ _) (cuts := [2]) (n := 400) (v_X1_programOf_2 _ _ _ _ _ _ ?_)
    refine ⟨Bx.k M 9 (by decide) rfl, ?_⟩
    try rw [show hr h (b + 9) 1 = b + 10 from Bx.r M 9 1 10 (by decide)]
    refine Bx.al M 10 6 20 (by decide) rfl (by decide) rfl (fun el7 => ?_)
    refine ⟨ir (by omega) (by omega), ir (by omega) (by omega), fun c8 => ?_, fun c8 => ?_⟩
    · exfalso; omega
    · exact H _ rfl
  | succ n ih =>
    intro p hp0 hn0 H
    have r1 := R.sn (p := p) (by omega)
    have n1 := I.sn (p := p) (by omega)
    have m1 := I.e1
    have e1 := I.e1
    have cl : ∀ i, 0 ≤ i → i < s (511 + p) → E 11 ((p * 4 + i) * 7 + 0) = sv s p i 0 := fun i a b => (R.sv (by omega) ⟨a, b⟩).1
    have fe := ffi_congr (g := g) (s (511 + p)).toNat 0 (fun i a b => cl i (by omega) (by omega))
    have rg := ffi_spec (f := fun i => sv s p i 0) (g := g) (s (511 + p)).toNat 0
    refine WP.of (RUN.mono GQ _) (cuts := [2]) (n := 400) (v_X1_programOf_2 _ _ _ _ _ _ ?_)
    refine ⟨Bx.k M 9 (by decide) rfl, ?_⟩
    try rw [show hr h (b + 9) 1 = b + 10 from Bx.r M 9 1 10 (by decide)]
    refine Bx.al M 10 6 20 (by decide) rfl (by decide) rfl (fun el7 => ?_)
    refine ⟨ir (by omega) (by omega), ir (by omega) (by omega), fun c8 => ?_, fun c8 => ?_⟩
    · refine ⟨Bx.k M 9 (by decide) rfl, ?_⟩
      refine S_X1_indexOf_s M (by exact R.r9) (by omega) (by rw [r1]; omega) (by omega) (by intro i a b; rw [r1] at b; rw [cl i a b]; have := (I.se (p := p) (by omega) ⟨a, b⟩).1; exact ⟨by omega, by omega⟩) (fun x14 e14 => ?_)
      subst e14
      rw [r1, fe]
      refine ⟨ir (by omega) (by omega), ir (by omega) (by omega), fun c18 => ?_, fun c18 => ?_⟩
      · refine ih _ (by omega) (by omega) ?_
        rw [ppl, if_neg (fun z => z c18)] at H
        exact H
      · exact H _ (by rw [ppl, if_pos c18])
    · exfalso; omega
theorem S_X1_programOf_s {d b : Nat} {h0 h : PH} {E : Nat → Int → Int} {Q : Int → PH → Prop} {X : Nat → PH → Prop} {C K P c N : Int} {s : Int → Int} {g : Int} (M : Hx b h0 h E) (R : HR E C K s) (I : HI K P c N s) (hN : N ≤ 2000000000) (hg : InR g) (H : ∀ x : Int, x = (ppl s g 511 sv 6 0) → Q x h) : RUN GQ (d + 3) m_X1_programOf [pA (b + 9), pI g] h Q X := by
  rw [e_X1_programOf]
  refine WP.of (RUN.mono GQ _) (cuts := [2]) (n := 400) (v_X1_programOf_0 _ _ _ _ _ _ ?_)
  refine L_X1_programOf_s_2 M R I hN hg (6) _ (by omega) (by omega) ?_
  exact H
