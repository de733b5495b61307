/-! the class's hall: changes (written by wip/whole/tools/eng.py) -/
section VCS
variable {call : PC} {mc ms fr : Nat} {Q : Int → PH → Prop} {X : Nat → PH → Prop} {K : PK}
set_option maxRecDepth 100000 in
theorem v_X0_dropFrom_0 (a0 : Nat) (a1 : Nat) (i2 : Int) (z3 : Option PV) (h : PH) (c s : Nat) (H : hk h a1 = 2 ∧ call m_X1_programOf [pA a1, pI i2] h (fun x1 h1 =>
 InR x1 ∧ InR ((-1)) ∧ (x1 = ((-1)) →
 ((0 : Int) = 0 ∨ (0 : Int) = 1) ∧ Q 0 h1) ∧
(x1 ≠ ((-1)) →
 hk h1 a1 = 2 ∧ call m_X1_indexOf [pA a1, pI x1, pI i2] h1 (fun x2 h2 =>
 hk h2 a0 = 1 ∧ call m_X0_endSignal [pA a0, pA a1, pI x1, pI x2, pI 5] h2 (fun _ h3 =>
 ((1 : Int) = 0 ∨ (1 : Int) = 1) ∧ Q 1 h3) X) X)) X) : wpc k_X0_dropFrom [] call mc ms fr Q X [] K 400 (pto 0 k_X0_dropFrom) [some (pA a0), some (pA a1), some (pI i2), z3] [] h c s :=
  H
set_option maxRecDepth 100000 in
theorem v_X0_dropAll_0 (a0 : Nat) (i1 : Int) (z2 : Option PV) (z3 : Option PV) (h : PH) (c s : Nat) (H : hk h a0 = 1 ∧ hk h (hr h a0 5) = 2 ∧ call m_X1_sizeOf [pA (hr h a0 5), pI i1] h (fun x1 h1 =>
 K 11 [some (pA a0), some (pI i1), some (pI x1), some (pI 0)] [] h1 c s) X) : wpc k_X0_dropAll [] call mc ms fr Q X [11] K 400 (pto 0 k_X0_dropAll) [some (pA a0), some (pI i1), z2, z3] [] h c s :=
  H
set_option maxRecDepth 100000 in
theorem v_X0_dropAll_11 (a0 : Nat) (i1 : Int) (i2 : Int) (i3 : Int) (h : PH) (c s : Nat) (H : InR i3 ∧ InR i2 ∧ (i3 < i2 →
 hk h a0 = 1 ∧ hk h a0 = 1 ∧ call m_X0_endSignal [pA a0, pA (hr h a0 5), pI i1, pI 0, pI 5] h (fun _ h1 =>
 K 11 [some (pA a0), some (pI i1), some (pI i2), some (pI (i3 + 1))] [] h1 c s) X) ∧
(i2 ≤ i3 →
 Q i2 h)) : wpc k_X0_dropAll [] call mc ms fr Q X [11] K 400 (pto 11 k_X0_dropAll) [some (pA a0), some (pI i1), some (pI i2), some (pI i3)] [] h c s :=
  H
set_option maxRecDepth 100000 in
theorem v_X0_takeTirednessAway_0 (a0 : Nat) (i1 : Int) (z2 : Option PV) (z3 : Option PV) (z4 : Option PV) (h : PH) (c s : Nat) (H : K 4 [some (pA a0), some (pI i1), some (pI 0), some (pI 0), z4] [] h c s) : wpc k_X0_takeTirednessAway [] call mc ms fr Q X [4] K 400 (pto 0 k_X0_takeTirednessAway) [some (pA a0), some (pI i1), z2, z3, z4] [] h c s :=
  H
set_option maxRecDepth 100000 in
theorem v_X0_takeTirednessAway_4 (a0 : Nat) (i1 : Int) (i2 : Int) (i3 : Int) (z4 : Option PV) (h : PH) (c s : Nat) (H : InR i3 ∧ InR 8 ∧ (i3 < 8 →
 InR ((i1 * 8) + i3) ∧ (((i1 * 8) + i3) < 0 →
 K 4 [some (pA a0), some (pI i1), some (pI i2), some (pI (i3 + 1)), some (pI ((i1 * 8) + i3))] [] h c s) ∧
(0 ≤ ((i1 * 8) + i3) →
 hk h a0 = 1 ∧ (20 ≤ hk h (hr h a0 2) ∧ hk h (hr h a0 2) ≤ 26) ∧ InR ((i1 * 8) + i3) ∧ InR ((hl h (hr h a0 2) : Int)) ∧ (((i1 * 8) + i3) < ((hl h (hr h a0 2) : Int)) →
 hk h a0 = 1 ∧ (hk h (hr h a0 2) = 20 ∨ hk h (hr h a0 2) = 26) ∧ (0 ≤ ((i1 * 8) + i3) ∧ ((i1 * 8) + i3) < (hl h (hr h a0 2) : Int)) ∧ hk h a0 = 1 ∧ hk h (hr h a0 2) = 20 ∧ (0 ≤ ((i1 * 8) + i3) ∧ ((i1 * 8) + i3) < (hl h (hr h a0 2) : Int)) ∧ ∀ h1, h1 = hsi h (hr h a0 2) (Int.toNat (((i1 * 8) + i3))) 0 →
 K 4 [some (pA a0), some (pI i1), some (pI (i2 + (hi h (hr h a0 2) (Int.toNat (((i1 * 8) + i3)))))), some (pI (i3 + 1)), some (pI ((i1 * 8) + i3))] [] h1 c s) ∧
(((hl h (hr h a0 2) : Int)) ≤ ((i1 * 8) + i3) →
 K 4 [some (pA a0), some (pI i1), some (pI i2), some (pI (i3 + 1)), some (pI ((i1 * 8) + i3))] [] h c s))) ∧
(8 ≤ i3 →
 Q i2 h)) : wpc k_X0_takeTirednessAway [] call mc ms fr Q X [4] K 400 (pto 4 k_X0_takeTirednessAway) [some (pA a0), some (pI i1), some (pI i2), some (pI i3), z4] [] h c s :=
  H
end VCS
theorem S_X0_dropFrom_q {d b : Nat} {h0 h : PH} {E : Nat → Int → Int} {Q : Int → PH → Prop} {X : Nat → PH → Prop} {N : Int} {D : Nat → Int → Int} {s : Int → Int} {g : Int} (M : Hx b h0 h E) (R : HR E (D 0 2) (D 0 3) s) (I : HI (D 0 3) (D 0 4) (D 0 2) N s) (V : PIv D) (hN : N ≤ 1999500000) (hg : InR g) (H : ∀ (x : Int) h' E', x = ((if (ppl s g 115 qv 6 0) = -1 then 0 else 1)) → Hx b h0 h' E' → HR E' (D 0 2) (D 0 3) ((if (ppl s g 115 qv 6 0) = -1 then s else e_eiq s (ppl s g 115 qv 6 0) (fnq s g (ppl s g 115 qv 6 0)) 5)) → Q x h') : RUN GQ (d + 4) m_X0_dropFrom [pA b, pA (b + 6), pI g] h Q X := by
  obtain ⟨v2, v3, v4, vh⟩ := id V
  have pr := ppl_spec (s := s) (g := g) (a := 115) (f := qv) 6 0 (by omega)
  generalize hPN : ppl s g 115 qv 6 0 = p at pr
  rw [hPN] at H
  rw [e_X0_dropFrom]
  refine WP.of (RUN.mono GQ _) (cuts := []) (n := 400) (v_X0_dropFrom_0 _ _ _ _ _ _ _ ?_)
  refine ⟨Bx.k M 6 (by decide) rfl, ?_⟩
  refine S_X1_programOf_q M R I (by omega) (by omega) (fun x2 e2 => ?_)
  subst e2
  rw [hPN]
  refine ⟨ir (by omega) (by omega), ir (by omega) (by omega), fun c8 => ?_, fun c8 => ?_⟩
  · refine ⟨(by omega), ?_⟩
    refine H _ _ E ?_ M ?_
    · rw [if_pos (by omega)]
    · rw [if_pos (by omega)]; exact R
  · have hp : 0 ≤ p ∧ p < 6 := by omega
    have r1 := R.qn hp
    have n1 := I.qn hp
    have m1 := I.hq.1
    have e1 := I.e1
    have cl : ∀ i, 0 ≤ i → i < s (115 + p) → E 8 ((p * 13 + i) * 7 + 0) = qv s p i 0 := fun i a b => R.qv hp ⟨a, b⟩ (by omega)
    have fe := ffi_congr (g := g) (s (115 + p)).toNat 0 (fun i a b => cl i (by omega) (by omega))
    have rg := ffi_spec (f := fun i => qv s p i 0) (g := g) (s (115 + p)).toNat 0
    refine ⟨Bx.k M 6 (by decide) rfl, ?_⟩
    refine S_X1_indexOf_q M (by exact R.r6) (by omega) (by rw [r1]; omega) (by omega) (by intro i a b; rw [r1] at b; rw [cl i a b]; have := (I.qe hp ⟨a, b⟩).1; exact ⟨by omega, by omega⟩) (fun x19 e19 => ?_)
    subst e19
    rw [r1, fe]
    refine ⟨Bx.k M 0 (by decide) rfl, ?_⟩
    refine S_X0_endSignal_qR M R I (by omega) (by omega) (by omega) (by omega) (fun x23 h23 E23 e23 M23 R23 => ?_)
    subst e23
    refine ⟨(by omega), ?_⟩
    refine H _ _ _ ?_ M23 ?_
    · rw [if_neg (by omega)]
    · rw [if_neg (by omega)]; exact R23
theorem S_X0_dropFrom_s {d b : Nat} {h0 h : PH} {E : Nat → Int → Int} {Q : Int → PH → Prop} {X : Nat → PH → Prop} {N : Int} {D : Nat → Int → Int} {s : Int → Int} {g : Int} (M : Hx b h0 h E) (R : HR E (D 0 2) (D 0 3) s) (I : HI (D 0 3) (D 0 4) (D 0 2) N s) (V : PIv D) (hN : N ≤ 1999500000) (hg : InR g) (H : ∀ (x : Int) h' E', x = ((if (ppl s g 511 sv 6 0) = -1 then 0 else 1)) → Hx b h0 h' E' → HR E' (D 0 2) (D 0 3) ((if (ppl s g 511 sv 6 0) = -1 then s else e_drn s (ppl s g 511 sv 6 0) (fns s g (ppl s g 511 sv 6 0)))) → Q x h') : RUN GQ (d + 4) m_X0_dropFrom [pA b, pA (b + 9), pI g] h Q X := by
  obtain ⟨v2, v3, v4, vh⟩ := id V
  have pr := ppl_spec (s := s) (g := g) (a := 511) (f := sv) 6 0 (by omega)
  generalize hPN : ppl s g 511 sv 6 0 = p at pr
  rw [hPN] at H
  rw [e_X0_dropFrom]
  refine WP.of (RUN.mono GQ _) (cuts := []) (n := 400) (v_X0_dropFrom_0 _ _ _ _ _ _ _ ?_)
  refine ⟨Bx.k M 9 (by decide) rfl, ?_⟩
  refine S_X1_programOf_s M R I (by omega) (by omega) (fun x2 e2 => ?_)
  subst e2
  rw [hPN]
  refine ⟨ir (by omega) (by omega), ir (by omega) (by omega), fun c8 => ?_, fun c8 => ?_⟩
  · refine ⟨(by omega), ?_⟩
    refine H _ _ E ?_ M ?_
    · rw [if_pos (by omega)]
    · rw [if_pos (by omega)]; exact R
  · have hp : 0 ≤ p ∧ p < 6 := by omega
    have r1 := R.sn hp
    have n1 := I.sn hp
    have m1 := I.e1
    have e1 := I.e1
    have cl : ∀ i, 0 ≤ i → i < s (511 + p) → E 11 ((p * 4 + i) * 7 + 0) = sv s p i 0 := fun i a b => (R.sv hp ⟨a, b⟩).1
    have fe := ffi_congr (g := g) (s (511 + p)).toNat 0 (fun i a b => cl i (by omega) (by omega))
    have rg := ffi_spec (f := fun i => sv s p i 0) (g := g) (s (511 + p)).toNat 0
    refine ⟨Bx.k M 9 (by decide) rfl, ?_⟩
    refine S_X1_indexOf_s M (by exact R.r9) (by omega) (by rw [r1]; omega) (by omega) (by intro i a b; rw [r1] at b; rw [cl i a b]; have := (I.se hp ⟨a, b⟩).1; exact ⟨by omega, by omega⟩) (fun x19 e19 => ?_)
    subst e19
    rw [r1, fe]
    refine ⟨Bx.k M 0 (by decide) rfl, ?_⟩
    refine S_X0_endSignal_sD M R I (by omega) (by omega) (by omega) (fun x23 h23 E23 e23 M23 R23 => ?_)
    subst e23
    refine ⟨(by omega), ?_⟩
    refine H _ _ _ ?_ M23 ?_
    · rw [if_neg (by omega)]
    · rw [if_neg (by omega)]; exact R23
theorem L_X0_dropAll_11 {d b : Nat} {h0 : PH} {Q : Int → PH → Prop} {X : Nat → PH → Prop} {D : Nat → Int → Int} {p : Int} {sz : Int} (V : PIv D) (hp : 0 ≤ p ∧ p < D 0 4) (hz : 0 ≤ sz ∧ sz ≤ 13) : ∀ (n : Nat) (i : Int) (E : Nat → Int → Int) (s : Int → Int) (h : PH) (N : Int), (Hx b h0 h E) → (HR E (D 0 2) (D 0 3) s) → (HI (D 0 3) (D 0 4) (D 0 2) N s) → (0 ≤ i ∧ i + n = sz) → (s (115 + p) = n) → (N + n ≤ 1999600000) → (∀ (x : Int) h' E', x = sz → Hx b h0 h' E' → HR E' (D 0 2) (D 0 3) (e_drl p (-1) n 0 s) → Q x h') → WP k_X0_dropAll [] (RUN GQ (d + 2)) 0 0 (d + 3) Q X 11 [some (pA b), some (pI p), some (pI sz), some (pI i)] [] h 0 0 := by
  intro n
  induction n with
  | zero =>
    intro i E s h N M R I hk0 hn0 hN H
    obtain ⟨v2, v3, v4, vh⟩ := id V
    have hp6 : 0 ≤ p ∧ p < 6 := by omega
    have q0 := I.qn hp6
    refine WP.of (RUN.mono GQ _) (cuts := [11]) (n := 400) (v_X0_dropAll_11 _ _ _ _ _ _ _ ?_)
    refine ⟨ir (by omega) (by omega), ir (by omega) (by omega), fun c13 => ?_, fun c13 => ?_⟩
    · exfalso; omega
    · exact H _ _ _ rfl M R
  | succ n ih =>
    intro i E s h N M R I hk0 hn0 hN H
    obtain ⟨v2, v3, v4, vh⟩ := id V
    have hp6 : 0 ≤ p ∧ p < 6 := by omega
    have q0 := I.qn hp6
    have sz1 := eiq_sz (t := 5) (k := 0) I hp6 ⟨by omega, by omega⟩ (by omega)
    refine WP.of (RUN.mono GQ _) (cuts := [11]) (n := 400) (v_X0_dropAll_11 _ _ _ _ _ _ _ ?_)
    refine ⟨ir (by omega) (by omega), ir (by omega) (by omega), fun c13 => ?_, fun c13 => ?_⟩
    · refine ⟨Bx.k M 0 (by decide) rfl, ?_⟩
      try rw [show hr h b 5 = b + 6 from Bx.r M 0 5 6 (by decide)]
      refine ⟨Bx.k M 0 (by decide) rfl, ?_⟩
      refine S_X0_endSignal_qR M R I (by omega) (by omega) (by omega) (by omega) (fun x24 h24 E24 e24 M24 R24 => ?_)
      subst e24
      have I24 := eiq_HI (t := 5) (k := 0) I v3 v4.1 hp6 ⟨by omega, by omega⟩ (by omega)
      refine ih _ _ _ _ _ M24 R24 I24 (by omega) (by omega) (by omega) ?_
      have e : e_drl p (-1) (n + 1) 0 s = e_drl p (-1) n 0 (e_eiq s p 0 5) := if_pos (Or.inl rfl)
      rw [e] at H
      exact H
    · exfalso; omega
theorem S_X0_dropAll {d b : Nat} {h0 h : PH} {E : Nat → Int → Int} {Q : Int → PH → Prop} {X : Nat → PH → Prop} {N : Int} {D : Nat → Int → Int} {s : Int → Int} {p : Int} (M : Hx b h0 h E) (R : HR E (D 0 2) (D 0 3) s) (I : HI (D 0 3) (D 0 4) (D 0 2) N s) (V : PIv D) (hN : N ≤ 1999500000) (hp : 0 ≤ p ∧ p < D 0 4) (H : ∀ (x : Int) h' E', x = (s (115 + p)) → Hx b h0 h' E' → HR E' (D 0 2) (D 0 3) (e_drops s p (-1)) → Q x h') : RUN GQ (d + 3) m_X0_dropAll [pA b, pI p] h Q X := by
  obtain ⟨v2, v3, v4, vh⟩ := id V
  have hp6 : 0 ≤ p ∧ p < 6 := by omega
  have q0 := I.qn hp6
  rw [e_X0_dropAll]
  refine WP.of (RUN.mono GQ _) (cuts := [11]) (n := 400) (v_X0_dropAll_0 _ _ _ _ _ _ _ ?_)
  refine ⟨Bx.k M 0 (by decide) rfl, ?_⟩
  try rw [show hr h b 5 = b + 6 from Bx.r M 0 5 6 (by decide)]
  refine ⟨Bx.k M 6 (by decide) rfl, ?_⟩
  refine S_X1_sizeOf_qR M R I (by omega) (fun x5 e5 => ?_)
  subst e5
  refine L_X0_dropAll_11 V hp (by omega) ((s (115 + p)).toNat) _ _ _ _ _ M R I (by omega) (by omega) (by omega) ?_
  exact H
theorem L_X0_takeTirednessAway_4 {d b : Nat} {h0 : PH} {Q : Int → PH → Prop} {X : Nat → PH → Prop} {D : Nat → Int → Int} {p : Int} (V : PIv D) (hp : 0 ≤ p ∧ p < D 0 4) : ∀ (n : Nat) (acc k : Int) (z4 : Option PV) (E : Nat → Int → Int) (s : Int → Int) (h : PH) (N : Int), (Hx b h0 h E) → (HR E (D 0 2) (D 0 3) s) → (HI (D 0 3) (D 0 4) (D 0 2) N s) → (0 ≤ k ∧ k + n = 8) → (N ≤ 1999600000) → (∀ (x : Int) h' E', x = rfsum p n k s acc → Hx b h0 h' E' → HR E' (D 0 2) (D 0 3) (rfs p n k s) → Q x h') → WP k_X0_takeTirednessAway [] (RUN GQ (d + 0)) 0 0 (d + 1) Q X 4 [some (pA b), some (pI p), some (pI acc), some (pI k), z4] [] h 0 0 := by
  intro n
  induction n with
  | zero =>
    intro acc k z4 E s h N M R I hk0 hN H
    obtain ⟨v2, v3, v4, vh⟩ := id V
    have hp6 : 0 ≤ p ∧ p < 6 := by omega
    refine WP.of (RUN.mono GQ _) (cuts := [4]) (n := 400) (v_X0_takeTirednessAway_4 _ _ _ _ _ _ _ _ ?_)
    refine ⟨ir (by omega) (by omega), ir (by omega) (by omega), fun c7 => ?_, fun c7 => ?_⟩
    · exfalso; omega
    · exact H _ _ _ rfl M R
  | succ n ih =>
    intro acc k z4 E s h N M R I hk0 hN H
    obtain ⟨v2, v3, v4, vh⟩ := id V
    have hp6 : 0 ≤ p ∧ p < 6 := by omega
    have r3 := R.td hp6 (k := k) ⟨by omega, by omega⟩
    have R9 := hr_tir (e := p * 8 + k) (z := 0) R (by omega)
    rw [show 37 + (p * 8 + k) = 37 + 8 * p + k by omega] at R9
    have I9 := tir_HI (e := 37 + 8 * p + k) (z := 0) I v3.1 v4.1 (by omega) (by omega) (fun _ => rfl)
    refine WP.of (RUN.mono GQ _) (cuts := [4]) (n := 400) (v_X0_takeTirednessAway_4 _ _ _ _ _ _ _ _ ?_)
    refine ⟨ir (by omega) (by omega), ir (by omega) (by omega), fun c7 => ?_, fun c7 => ?_⟩
    · refine ⟨ir (by omega) (by omega), fun c20 => ?_, fun c20 => ?_⟩
      · exfalso; omega
      · refine ⟨Bx.k M 0 (by decide) rfl, ?_⟩
        try rw [show hr h b 2 = b + 3 from Bx.r M 0 2 3 (by decide)]
        refine Bx.al M 3 48 20 (by decide) rfl (by decide) rfl (fun el29 => ?_)
        refine ⟨ir (by omega) (by omega), ir (by omega) (by omega), fun c30 => ?_, fun c30 => ?_⟩
        · refine ⟨Bx.k M 0 (by decide) rfl, ?_⟩
          try rw [show hr h b 2 = b + 3 from Bx.r M 0 2 3 (by decide)]
          refine Bx.ld M 3 48 (by decide) rfl rfl (by omega) (by omega) (fun er => ?_)
          try rw [er]
          clear er
          rw [r3]
          refine ⟨Bx.k M 0 (by decide) rfl, ?_⟩
          try rw [show hr h b 2 = b + 3 from Bx.r M 0 2 3 (by decide)]
          refine Bx.as M 3 48 (by decide) rfl rfl (by omega) (by omega) (fun h50 M50 => ?_)
          refine ih _ _ _ _ _ _ _ M50 R9 I9 (by omega) (by omega) ?_
          exact H
        · exfalso; omega
    · exfalso; omega
theorem S_X0_takeTirednessAway {d b : Nat} {h0 h : PH} {E : Nat → Int → Int} {Q : Int → PH → Prop} {X : Nat → PH → Prop} {N : Int} {D : Nat → Int → Int} {s : Int → Int} {p : Int} (M : Hx b h0 h E) (R : HR E (D 0 2) (D 0 3) s) (I : HI (D 0 3) (D 0 4) (D 0 2) N s) (V : PIv D) (hN : N ≤ 1999500000) (hp : 0 ≤ p ∧ p < D 0 4) (H : ∀ (x : Int) h' E', x = (rfsum p 8 0 s 0) → Hx b h0 h' E' → HR E' (D 0 2) (D 0 3) (rfs p 8 0 s) → Q x h') : RUN GQ (d + 1) m_X0_takeTirednessAway [pA b, pI p] h Q X := by
  obtain ⟨v2, v3, v4, vh⟩ := id V
  have hp6 : 0 ≤ p ∧ p < 6 := by omega
  rw [e_X0_takeTirednessAway]
  refine WP.of (RUN.mono GQ _) (cuts := [4]) (n := 400) (v_X0_takeTirednessAway_0 _ _ _ _ _ _ _ _ ?_)
  refine L_X0_takeTirednessAway_4 V hp (8) _ _ _ _ _ _ _ M R I (by omega) (by omega) ?_
  exact H
