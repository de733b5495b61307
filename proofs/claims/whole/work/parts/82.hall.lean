/-! the class's hall: steps (written by wip/whole/tools/eng.py) -/
section VCS
variable {call : PC} {mc ms fr : Nat} {Q : Int → PH → Prop} {X : Nat → PH → Prop} {K : PK}
set_option maxRecDepth 100000 in
theorem v_X0_sendSignal_0 (a0 : Nat) (i1 : Int) (i2 : Int) (i3 : Int) (i4 : Int) (z5 : Option PV) (z6 : Option PV) (h : PH) (c s : Nat) (H : hk h a0 = 1 ∧ hk h (hr h a0 5) = 2 ∧ call m_X1_addRow [pA (hr h a0 5), pI i1] h (fun x1 h1 =>
 InR x1 ∧ InR ((-1)) ∧ (x1 = ((-1)) →
 Q ((-1)) h1) ∧
(x1 ≠ ((-1)) →
 hk h1 a0 = 1 ∧ hk h1 a0 = 1 ∧ hk h1 a0 = 1 ∧ ∀ h2, h2 = hsi h1 a0 11 ((hi h1 a0 11) + 1) →
 hk h2 a0 = 1 ∧ hk h2 (hr h2 a0 5) = 2 ∧ call m_X1_put [pA (hr h2 a0 5), pI i1, pI x1, pI 0, pI (hi h1 a0 11)] h2 (fun _ h3 =>
 hk h3 a0 = 1 ∧ hk h3 (hr h3 a0 5) = 2 ∧ call m_X1_put [pA (hr h3 a0 5), pI i1, pI x1, pI 1, pI i2] h3 (fun _ h4 =>
 hk h4 a0 = 1 ∧ hk h4 (hr h4 a0 5) = 2 ∧ call m_X1_put [pA (hr h4 a0 5), pI i1, pI x1, pI 2, pI i3] h4 (fun _ h5 =>
 hk h5 a0 = 1 ∧ hk h5 (hr h5 a0 5) = 2 ∧ call m_X1_put [pA (hr h5 a0 5), pI i1, pI x1, pI 3, pI i4] h5 (fun _ h6 =>
 hk h6 a0 = 1 ∧ hk h6 a0 = 1 ∧ hk h6 (hr h6 a0 5) = 2 ∧ call m_X1_put [pA (hr h6 a0 5), pI i1, pI x1, pI 4, pI (hi h6 a0 10)] h6 (fun _ h7 =>
 hk h7 a0 = 1 ∧ call m_X0_addToTally [pA a0, pI i1, pI 0] h7 (fun _ h8 =>
 InR i3 ∧ InR ((-1)) ∧ (i3 = ((-1)) →
 hk h8 a0 = 1 ∧ hk h8 (hr h8 a0 5) = 2 ∧ call m_X1_sizeOf [pA (hr h8 a0 5), pI i1] h8 (fun x9 h9 =>
 hk h9 a0 = 1 ∧ (hk h9 (hr h9 a0 0) = 20 ∨ hk h9 (hr h9 a0 0) = 26) ∧ (0 ≤ (3 : Int) ∧ (3 : Int) < (hl h9 (hr h9 a0 0) : Int)) ∧ InR x9 ∧ InR (hi h9 (hr h9 a0 0) (Int.toNat (3 : Int))) ∧ ((hi h9 (hr h9 a0 0) (Int.toNat (3 : Int))) < x9 →
 hk h9 a0 = 1 ∧ hk h9 a0 = 1 ∧ call m_X0_lastInOrder [pA a0, pI i1] h9 (fun x10 h10 =>
 hk h10 a0 = 1 ∧ call m_X0_endSignal [pA a0, pA (hr h9 a0 5), pI i1, pI x10, pI 3] h10 (fun _ h11 =>
 Q (hi h1 a0 11) h11) X) X) ∧
(x9 ≤ (hi h9 (hr h9 a0 0) (Int.toNat (3 : Int))) →
 Q (hi h1 a0 11) h9)) X) ∧
(i3 ≠ ((-1)) →
 hk h8 a0 = 1 ∧ call m_X0_addToTally [pA a0, pI i3, pI 1] h8 (fun _ h12 =>
 hk h12 a0 = 1 ∧ hk h12 (hr h12 a0 5) = 2 ∧ call m_X1_sizeOf [pA (hr h12 a0 5), pI i1] h12 (fun x13 h13 =>
 hk h13 a0 = 1 ∧ (hk h13 (hr h13 a0 0) = 20 ∨ hk h13 (hr h13 a0 0) = 26) ∧ (0 ≤ (3 : Int) ∧ (3 : Int) < (hl h13 (hr h13 a0 0) : Int)) ∧ InR x13 ∧ InR (hi h13 (hr h13 a0 0) (Int.toNat (3 : Int))) ∧ ((hi h13 (hr h13 a0 0) (Int.toNat (3 : Int))) < x13 →
 hk h13 a0 = 1 ∧ hk h13 a0 = 1 ∧ call m_X0_lastInOrder [pA a0, pI i1] h13 (fun x14 h14 =>
 hk h14 a0 = 1 ∧ call m_X0_endSignal [pA a0, pA (hr h13 a0 5), pI i1, pI x14, pI 3] h14 (fun _ h15 =>
 Q (hi h1 a0 11) h15) X) X) ∧
(x13 ≤ (hi h13 (hr h13 a0 0) (Int.toNat (3 : Int))) →
 Q (hi h1 a0 11) h13)) X) X)) X) X) X) X) X) X)) X) : wpc k_X0_sendSignal [] call mc ms fr Q X [] K 400 (pto 0 k_X0_sendSignal) [some (pA a0), some (pI i1), some (pI i2), some (pI i3), some (pI i4), z5, z6] [] h c s :=
  H
set_option maxRecDepth 100000 in
theorem v_X0_dropKind_0 (a0 : Nat) (i1 : Int) (i2 : Int) (z3 : Option PV) (z4 : Option PV) (h : PH) (c s : Nat) (H : hk h a0 = 1 ∧ hk h (hr h a0 5) = 2 ∧ call m_X1_sizeOf [pA (hr h a0 5), pI i1] h (fun x1 h1 =>
 K 12 [some (pA a0), some (pI i1), some (pI i2), some (pI 0), some (pI x1)] [] h1 c s) X) : wpc k_X0_dropKind [] call mc ms fr Q X [12] K 400 (pto 0 k_X0_dropKind) [some (pA a0), some (pI i1), some (pI i2), z3, z4] [] h c s :=
  H
set_option maxRecDepth 100000 in
theorem v_X0_dropKind_12 (a0 : Nat) (i1 : Int) (i2 : Int) (i3 : Int) (i4 : Int) (h : PH) (c s : Nat) (H : InR i4 ∧ (0 < i4 →
 hk h a0 = 1 ∧ hk h (hr h a0 5) = 2 ∧ call m_X1_part [pA (hr h a0 5), pI i1, pI i3, pI 1] h (fun x1 h1 =>
 InR x1 ∧ InR i2 ∧ (x1 = i2 →
 hk h1 a0 = 1 ∧ hk h1 a0 = 1 ∧ call m_X0_endSignal [pA a0, pA (hr h1 a0 5), pI i1, pI i3, pI 5] h1 (fun _ h2 =>
 K 12 [some (pA a0), some (pI i1), some (pI i2), some (pI i3), some (pI (i4 + (-1)))] [] h2 c s) X) ∧
(x1 ≠ i2 →
 K 12 [some (pA a0), some (pI i1), some (pI i2), some (pI (i3 + 1)), some (pI (i4 + (-1)))] [] h1 c s)) X) ∧
(i4 ≤ 0 →
 Q 0 h)) : wpc k_X0_dropKind [] call mc ms fr Q X [12] K 400 (pto 12 k_X0_dropKind) [some (pA a0), some (pI i1), some (pI i2), some (pI i3), some (pI i4)] [] h c s :=
  H
set_option maxRecDepth 100000 in
theorem v_X0_loseAged_0 (a0 : Nat) (i1 : Int) (z2 : Option PV) (z3 : Option PV) (z4 : Option PV) (h : PH) (c s : Nat) (H : hk h a0 = 1 ∧ hk h (hr h a0 5) = 2 ∧ call m_X1_sizeOf [pA (hr h a0 5), pI i1] h (fun x1 h1 =>
 K 11 [some (pA a0), some (pI i1), some (pI 0), some (pI x1), z4] [] h1 c s) X) : wpc k_X0_loseAged [] call mc ms fr Q X [11] K 400 (pto 0 k_X0_loseAged) [some (pA a0), some (pI i1), z2, z3, z4] [] h c s :=
  H
set_option maxRecDepth 100000 in
theorem v_X0_loseAged_11 (a0 : Nat) (i1 : Int) (i2 : Int) (i3 : Int) (z4 : Option PV) (h : PH) (c s : Nat) (H : InR i3 ∧ (0 < i3 →
 hk h a0 = 1 ∧ hk h a0 = 1 ∧ hk h (hr h a0 5) = 2 ∧ call m_X1_part [pA (hr h a0 5), pI i1, pI i2, pI 4] h (fun x1 h1 =>
 hk h1 a0 = 1 ∧ hk h1 (hr h1 a0 5) = 2 ∧ call m_X1_part [pA (hr h1 a0 5), pI i1, pI i2, pI 1] h1 (fun x2 h2 =>
 hk h2 a0 = 1 ∧ call m_X0_kindNumber [pA a0, pI x2, pI 2] h2 (fun x3 h3 =>
 InR ((hi h a0 10) - x1) ∧ InR x3 ∧ (((hi h a0 10) - x1) < x3 →
 K 11 [some (pA a0), some (pI i1), some (pI (i2 + 1)), some (pI (i3 + (-1))), some (pI ((hi h a0 10) - x1))] [] h3 c s) ∧
(x3 ≤ ((hi h a0 10) - x1) →
 hk h3 a0 = 1 ∧ hk h3 a0 = 1 ∧ call m_X0_endSignal [pA a0, pA (hr h3 a0 5), pI i1, pI i2, pI 2] h3 (fun _ h4 =>
 K 11 [some (pA a0), some (pI i1), some (pI i2), some (pI (i3 + (-1))), some (pI ((hi h a0 10) - x1))] [] h4 c s) X)) X) X) X) ∧
(i3 ≤ 0 →
 Q 0 h)) : wpc k_X0_loseAged [] call mc ms fr Q X [11] K 400 (pto 11 k_X0_loseAged) [some (pA a0), some (pI i1), some (pI i2), some (pI i3), z4] [] h c s :=
  H
set_option maxRecDepth 100000 in
theorem v_X0_tire_0 (a0 : Nat) (i1 : Int) (i2 : Int) (z3 : Option PV) (z4 : Option PV) (h : PH) (c s : Nat) (H : InR ((i1 * 8) + i2) ∧ (((i1 * 8) + i2) < 0 →
 Q 0 h) ∧
(0 ≤ ((i1 * 8) + i2) →
 hk h a0 = 1 ∧ (20 ≤ hk h (hr h a0 2) ∧ hk h (hr h a0 2) ≤ 26) ∧ InR ((i1 * 8) + i2) ∧ InR ((hl h (hr h a0 2) : Int)) ∧ (((i1 * 8) + i2) < ((hl h (hr h a0 2) : Int)) →
 hk h a0 = 1 ∧ (hk h (hr h a0 2) = 20 ∨ hk h (hr h a0 2) = 26) ∧ (0 ≤ ((i1 * 8) + i2) ∧ ((i1 * 8) + i2) < (hl h (hr h a0 2) : Int)) ∧ hk h a0 = 1 ∧ call m_X0_kindNumber [pA a0, pI i2, pI 1] h (fun x1 h1 =>
 hk h1 a0 = 1 ∧ InR ((hi h (hr h a0 2) (Int.toNat (((i1 * 8) + i2)))) + x1) ∧ InR 99 ∧ (((hi h (hr h a0 2) (Int.toNat (((i1 * 8) + i2)))) + x1) < 99 →
 hk h1 (hr h1 a0 2) = 20 ∧ (0 ≤ ((i1 * 8) + i2) ∧ ((i1 * 8) + i2) < (hl h1 (hr h1 a0 2) : Int)) ∧ ∀ h2, h2 = hsi h1 (hr h1 a0 2) (Int.toNat (((i1 * 8) + i2))) ((hi h (hr h a0 2) (Int.toNat (((i1 * 8) + i2)))) + x1) →
 Q 0 h2) ∧
(99 ≤ ((hi h (hr h a0 2) (Int.toNat (((i1 * 8) + i2)))) + x1) →
 hk h1 (hr h1 a0 2) = 20 ∧ (0 ≤ ((i1 * 8) + i2) ∧ ((i1 * 8) + i2) < (hl h1 (hr h1 a0 2) : Int)) ∧ ∀ h3, h3 = hsi h1 (hr h1 a0 2) (Int.toNat (((i1 * 8) + i2))) 99 →
 Q 0 h3)) X) ∧
(((hl h (hr h a0 2) : Int)) ≤ ((i1 * 8) + i2) →
 Q 0 h))) : wpc k_X0_tire [] call mc ms fr Q X [] K 400 (pto 0 k_X0_tire) [some (pA a0), some (pI i1), some (pI i2), z3, z4] [] h c s :=
  H
set_option maxRecDepth 100000 in
theorem v_X0_recover_0 (a0 : Nat) (z1 : Option PV) (h : PH) (c s : Nat) (H : K 2 [some (pA a0), some (pI 0)] [] h c s) : wpc k_X0_recover [] call mc ms fr Q X [2] K 400 (pto 0 k_X0_recover) [some (pA a0), z1] [] h c s :=
  H
set_option maxRecDepth 100000 in
theorem v_X0_recover_2 (a0 : Nat) (i1 : Int) (h : PH) (c s : Nat) (H : hk h a0 = 1 ∧ (20 ≤ hk h (hr h a0 2) ∧ hk h (hr h a0 2) ≤ 26) ∧ InR i1 ∧ InR ((hl h (hr h a0 2) : Int)) ∧ (i1 < ((hl h (hr h a0 2) : Int)) →
 hk h a0 = 1 ∧ (hk h (hr h a0 2) = 20 ∨ hk h (hr h a0 2) = 26) ∧ (0 ≤ i1 ∧ i1 < (hl h (hr h a0 2) : Int)) ∧ InR (hi h (hr h a0 2) (Int.toNat i1)) ∧ (0 < (hi h (hr h a0 2) (Int.toNat i1)) →
 hk h a0 = 1 ∧ (hk h (hr h a0 2) = 20 ∨ hk h (hr h a0 2) = 26) ∧ (0 ≤ i1 ∧ i1 < (hl h (hr h a0 2) : Int)) ∧ hk h (hr h a0 2) = 20 ∧ (0 ≤ i1 ∧ i1 < (hl h (hr h a0 2) : Int)) ∧ ∀ h1, h1 = hsi h (hr h a0 2) (Int.toNat i1) ((hi h (hr h a0 2) (Int.toNat i1)) - 1) →
 K 2 [some (pA a0), some (pI (i1 + 1))] [] h1 c s) ∧
((hi h (hr h a0 2) (Int.toNat i1)) ≤ 0 →
 K 2 [some (pA a0), some (pI (i1 + 1))] [] h c s)) ∧
(((hl h (hr h a0 2) : Int)) ≤ i1 →
 Q 0 h)) : wpc k_X0_recover [] call mc ms fr Q X [2] K 400 (pto 2 k_X0_recover) [some (pA a0), some (pI i1)] [] h c s :=
  H
end VCS
theorem S_X0_sendSignal {d b : Nat} {h0 h : PH} {E : Nat → Int → Int} {Q : Int → PH → Prop} {X : Nat → PH → Prop} {N : Int} {D : Nat → Int → Int} {s : Int → Int} {p k w v : Int} (M : Hx b h0 h E) (R : HR E (D 0 2) (D 0 3) s) (I : HI (D 0 3) (D 0 4) (D 0 2) N s) (V : PIv D) (hN : N ≤ 1999500000) (hp : 0 ≤ p ∧ p < D 0 4) (hkx : 0 ≤ k ∧ k < D 0 3) (hv : 0 ≤ v ∧ v < 1000) (hw : -1 ≤ w ∧ w < 6) (H : ∀ (x : Int) h' E', x = (s 1) → Hx b h0 h' E' → HR E' (D 0 2) (D 0 3) (e_snd D s p k v w) → Q x h') : RUN GQ (d + 3) m_X0_sendSignal [pA b, pI p, pI k, pI w, pI v] h Q X := by
  obtain ⟨v2, v3, v4, vh⟩ := id V
  have hp6 : 0 ≤ p ∧ p < 6 := by omega
  have q0 := I.qn hp6
  have e7 := R.qn hp6
  have ha : 121 ≤ 121 + 5 * (13 * p + s (115 + p)) ∧ 121 + 5 * (13 * p + s (115 + p)) ≤ 506 := by omega
  have I1 := snd0_HI (c' := D 0 2 + 1) (v := v) (b := w) I v3.1 v4 hp hkx hv hw (by omega) (by omega) (fun q h1 h2 _ => by have := I.qn ⟨h1, h2⟩; omega) (by omega)
  have z1 := snd0_sz (s := s) (k := k) (v := v) hp6 hw ha
  have RR := snd0_HR (k := k) (v := v) (w := w) R I hp6 hw (by omega)
  rw [e_X0_sendSignal]
  refine WP.of (RUN.mono GQ _) (cuts := []) (n := 400) (v_X0_sendSignal_0 _ _ _ _ _ _ _ _ _ _ ?_)
  refine ⟨Bx.k M 0 (by decide) rfl, ?_⟩
  try rw [show hr h b 5 = b + 6 from Bx.r M 0 5 6 (by decide)]
  refine ⟨Bx.k M 6 (by decide) rfl, ?_⟩
  refine S_X1_addRow_q M (by first | exact hR | exact R.r6 | exact R.r9) (by omega) (by omega) (fun x5 h5 e5 M5 => ?_)
  subst e5
  refine ⟨ir (by omega) (by omega), ir (by omega) (by omega), fun c13 => ?_, fun c13 => ?_⟩
  · first
    | (exfalso; omega)
    | (first
       | exact H _ _ _ R.fl.2.2.1 M5 (hr_congr R (by simp only [e_snd]; rw [if_pos c130]))
       | exact H _ _ _ R.fl.2.2.1 M5 (hr_congr R (by simp only [e_snd]; rw [if_neg (by omega)])))
  · refine ⟨Bx.k M5 0 (by decide) rfl, ?_⟩
    try rw [show hi h5 b 11 = _ from Bx.f11 M5 0 (by decide)]
    refine ⟨Bx.k M5 0 (by decide) rfl, ?_⟩
    try rw [show hi h5 b 11 = _ from Bx.f11 M5 0 (by decide)]
    refine Bx.pf11 M5 0 1 (by decide) rfl (fun h31 M31 => ?_)
    refine ⟨Bx.k M31 0 (by decide) rfl, ?_⟩
    try rw [show hr h31 b 5 = b + 6 from Bx.r M31 0 5 6 (by decide)]
    refine ⟨Bx.k M31 6 (by decide) rfl, ?_⟩
    refine S_X1_put_q M31 (by first | exact hR | exact R.r6 | exact R.r9) (by omega) (by omega) (by omega) (fun x44 h44 e44 M44 => ?_)
    subst e44
    refine ⟨Bx.k M44 0 (by decide) rfl, ?_⟩
    try rw [show hr h44 b 5 = b + 6 from Bx.r M44 0 5 6 (by decide)]
    refine ⟨Bx.k M44 6 (by decide) rfl, ?_⟩
    refine S_X1_put_q M44 (by first | exact hR | exact R.r6 | exact R.r9) (by omega) (by omega) (by omega) (fun x56 h56 e56 M56 => ?_)
    subst e56
    refine ⟨Bx.k M56 0 (by decide) rfl, ?_⟩
    try rw [show hr h56 b 5 = b + 6 from Bx.r M56 0 5 6 (by decide)]
    refine ⟨Bx.k M56 6 (by decide) rfl, ?_⟩
    refine S_X1_put_q M56 (by first | exact hR | exact R.r6 | exact R.r9) (by omega) (by omega) (by omega) (fun x68 h68 e68 M68 => ?_)
    subst e68
    refine ⟨Bx.k M68 0 (by decide) rfl, ?_⟩
    try rw [show hr h68 b 5 = b + 6 from Bx.r M68 0 5 6 (by decide)]
    refine ⟨Bx.k M68 6 (by decide) rfl, ?_⟩
    refine S_X1_put_q M68 (by first | exact hR | exact R.r6 | exact R.r9) (by omega) (by omega) (by omega) (fun x81 h81 e81 M81 => ?_)
    subst e81
    refine ⟨Bx.k M81 0 (by decide) rfl, ?_⟩
    try rw [show hr h81 b 5 = b + 6 from Bx.r M81 0 5 6 (by decide)]
    refine ⟨Bx.k M81 0 (by decide) rfl, ?_⟩
    try rw [show hi h81 b 10 = _ from Bx.f10 M81 0 (by decide)]
    refine ⟨Bx.k M81 6 (by decide) rfl, ?_⟩
    refine S_X1_put_q M81 (by first | exact hR | exact R.r6 | exact R.r9) (by omega) (by omega) (by omega) (fun x96 h96 e96 M96 => ?_)
    subst e96
    refine ⟨Bx.k M96 0 (by decide) rfl, ?_⟩
    refine S_X0_addToTally M96 (by omega) (by omega) (fun x102 h102 e102 M102 => ?_)
    subst e102
    refine ⟨ir (by omega) (by omega), ir (by omega) (by omega), fun c107 => ?_, fun c107 => ?_⟩
    · have MM := Bx.cast (E' := c_snd E p k v w) M102 (by simp only [c_snd]; first | rw [if_pos c107] | rw [if_neg c107])
      refine ⟨Bx.k MM 0 (by decide) rfl, ?_⟩
      try rw [show hr h102 b 5 = b + 6 from Bx.r MM 0 5 6 (by decide)]
      refine ⟨Bx.k MM 6 (by decide) rfl, ?_⟩
      refine S_X1_sizeOf_qR MM RR I1 (by omega) (fun x121 e121 => ?_)
      subst e121
      refine ⟨Bx.k MM 0 (by decide) rfl, ?_⟩
      try rw [show hr h102 b 0 = b + 1 from Bx.r MM 0 0 1 (by decide)]
      refine Bx.ld MM 1 4 (by decide) rfl rfl (by omega) (by omega) (fun er => ?_)
      try rw [er]
      clear er
      rw [RR.cap]
      refine ⟨ir (by omega) (by omega), ir (by omega) (by omega), fun c130 => ?_, fun c130 => ?_⟩
      · refine ⟨Bx.k MM 0 (by decide) rfl, ?_⟩
        try rw [show hr h102 b 5 = b + 6 from Bx.r MM 0 5 6 (by decide)]
        refine ⟨Bx.k MM 0 (by decide) rfl, ?_⟩
        refine S_X0_lastInOrder MM RR I1 v3 (by omega) (by omega) (fun x141 e141 => ?_)
        subst e141
        have hr := (plc_spec (s := (e_snd0 s p k v w (121 + 5 * (13 * p + s (115 + p))))) (p := p) (x := (e_snd0 s p k v w (121 + 5 * (13 * p + s (115 + p)))) (115 + p) - 1) ⟨by omega, by omega⟩).1
        refine ⟨Bx.k MM 0 (by decide) rfl, ?_⟩
        refine S_X0_endSignal_qR MM RR I1 (by omega) (by omega) (by omega) (by omega) (fun x145 h145 E145 e145 M145 R145 => ?_)
        subst e145
        first
        | (exfalso; omega)
        | (first
           | exact H _ _ _ R.fl.2.2.1 M145 (hr_congr R145 (by simp only [e_snd]; rw [if_pos c130]))
           | exact H _ _ _ R.fl.2.2.1 M145 (hr_congr R145 (by simp only [e_snd]; rw [if_neg (by omega)])))
      · first
        | (exfalso; omega)
        | (first
           | exact H _ _ _ R.fl.2.2.1 MM (hr_congr RR (by simp only [e_snd]; rw [if_pos c130]))
           | exact H _ _ _ R.fl.2.2.1 MM (hr_congr RR (by simp only [e_snd]; rw [if_neg (by omega)])))
    · refine ⟨Bx.k M102 0 (by decide) rfl, ?_⟩
      refine S_X0_addToTally M102 (by omega) (by omega) (fun x113 h113 e113 M113 => ?_)
      subst e113
      have MM := Bx.cast (E' := c_snd E p k v w) M113 (by simp only [c_snd]; first | rw [if_pos c107] | rw [if_neg c107])
      refine ⟨Bx.k MM 0 (by decide) rfl, ?_⟩
      try rw [show hr h113 b 5 = b + 6 from Bx.r MM 0 5 6 (by decide)]
      refine ⟨Bx.k MM 6 (by decide) rfl, ?_⟩
      refine S_X1_sizeOf_qR MM RR I1 (by omega) (fun x121 e121 => ?_)
      subst e121
      refine ⟨Bx.k MM 0 (by decide) rfl, ?_⟩
      try rw [show hr h113 b 0 = b + 1 from Bx.r MM 0 0 1 (by decide)]
      refine Bx.ld MM 1 4 (by decide) rfl rfl (by omega) (by omega) (fun er => ?_)
      try rw [er]
      clear er
      rw [RR.cap]
      refine ⟨ir (by omega) (by omega), ir (by omega) (by omega), fun c130 => ?_, fun c130 => ?_⟩
      · refine ⟨Bx.k MM 0 (by decide) rfl, ?_⟩
        try rw [show hr h113 b 5 = b + 6 from Bx.r MM 0 5 6 (by decide)]
        refine ⟨Bx.k MM 0 (by decide) rfl, ?_⟩
        refine S_X0_lastInOrder MM RR I1 v3 (by omega) (by omega) (fun x141 e141 => ?_)
        subst e141
        have hr := (plc_spec (s := (e_snd0 s p k v w (121 + 5 * (13 * p + s (115 + p))))) (p := p) (x := (e_snd0 s p k v w (121 + 5 * (13 * p + s (115 + p)))) (115 + p) - 1) ⟨by omega, by omega⟩).1
        refine ⟨Bx.k MM 0 (by decide) rfl, ?_⟩
        refine S_X0_endSignal_qR MM RR I1 (by omega) (by omega) (by omega) (by omega) (fun x145 h145 E145 e145 M145 R145 => ?_)
        subst e145
        first
        | (exfalso; omega)
        | (first
           | exact H _ _ _ R.fl.2.2.1 M145 (hr_congr R145 (by simp only [e_snd]; rw [if_pos c130]))
           | exact H _ _ _ R.fl.2.2.1 M145 (hr_congr R145 (by simp only [e_snd]; rw [if_neg (by omega)])))
      · first
        | (exfalso; omega)
        | (first
           | exact H _ _ _ R.fl.2.2.1 MM (hr_congr RR (by simp only [e_snd]; rw [if_pos c130]))
           | exact H _ _ _ R.fl.2.2.1 MM (hr_congr RR (by simp only [e_snd]; rw [if_neg (by omega)])))
theorem L_X0_dropKind_12 {d b : Nat} {h0 : PH} {Q : Int → PH → Prop} {X : Nat → PH → Prop} {D : Nat → Int → Int} {p kd : Int} (V : PIv D) (hp : 0 ≤ p ∧ p < D 0 4) (hkd : 0 ≤ kd ∧ kd < 8) : ∀ (n : Nat) (k r : Int) (E : Nat → Int → Int) (s : Int → Int) (h : PH) (N : Int), (Hx b h0 h E) → (HR E (D 0 2) (D 0 3) s) → (HI (D 0 3) (D 0 4) (D 0 2) N s) → (0 ≤ k) → (k + n = s (115 + p)) → (r = n) → (N + n ≤ 1999600000) → (∀ (x : Int) h' E', x = 0 → Hx b h0 h' E' → HR E' (D 0 2) (D 0 3) (e_drl p kd n k s) → Q x h') → WP k_X0_dropKind [] (RUN GQ (d + 2)) 0 0 (d + 3) Q X 12 [some (pA b), some (pI p), some (pI kd), some (pI k), some (pI r)] [] h 0 0 := by
  intro n
  induction n with
  | zero =>
    intro k r E s h N M R I hk0 hn0 hr0 hN H
    obtain ⟨v2, v3, v4, vh⟩ := id V
    have hp6 : 0 ≤ p ∧ p < 6 := by omega
    have q0 := I.qn hp6
    refine WP.of (RUN.mono GQ _) (cuts := [12]) (n := 400) (v_X0_dropKind_12 _ _ _ _ _ _ _ _ ?_)
    refine ⟨ir (by omega) (by omega), fun c14 => ?_, fun c14 => ?_⟩
    · exfalso; omega
    · exact H _ _ _ rfl M R
  | succ n ih =>
    intro k r E s h N M R I hk0 hn0 hr0 hN H
    obtain ⟨v2, v3, v4, vh⟩ := id V
    have hp6 : 0 ≤ p ∧ p < 6 := by omega
    have q0 := I.qn hp6
    have qk := I.qe hp6 ⟨hk0, by omega⟩
    unfold QE at qk
    have sz := eiq_sz (t := 5) I hp6 ⟨hk0, by omega⟩ (by omega)
    refine WP.of (RUN.mono GQ _) (cuts := [12]) (n := 400) (v_X0_dropKind_12 _ _ _ _ _ _ _ _ ?_)
    refine ⟨ir (by omega) (by omega), fun c14 => ?_, fun c14 => ?_⟩
    · refine ⟨Bx.k M 0 (by decide) rfl, ?_⟩
      try rw [show hr h b 5 = b + 6 from Bx.r M 0 5 6 (by decide)]
      refine ⟨Bx.k M 6 (by decide) rfl, ?_⟩
      refine S_X1_part_qR M R I (by omega) (by omega) (by omega) (fun x24 e24 => ?_)
      subst e24
      refine ⟨ir (by omega) (by omega), ir (by omega) (by omega), fun c28 => ?_, fun c28 => ?_⟩
      · refine ⟨Bx.k M 0 (by decide) rfl, ?_⟩
        try rw [show hr h b 5 = b + 6 from Bx.r M 0 5 6 (by decide)]
        refine ⟨Bx.k M 0 (by decide) rfl, ?_⟩
        refine S_X0_endSignal_qR M R I (by omega) (by omega) (by omega) (by omega) (fun x39 h39 E39 e39 M39 R39 => ?_)
        subst e39
        have I39 := eiq_HI (t := 5) I v3 v4.1 hp6 ⟨hk0, by omega⟩ (by omega)
        refine ih _ _ _ _ _ _ M39 R39 I39 (by omega) (by omega) (by omega) (by omega) ?_
        first | (have e : e_drl p kd (n + 1) k s = e_drl p kd n k (e_eiq s p k 5) := if_pos (by omega); rw [e] at H; exact H) | (have e : e_drl p kd (n + 1) k s = e_drl p kd n (k + 1) s := if_neg (by omega); rw [e] at H; exact H)
      · refine ih _ _ _ _ _ _ M R I (by omega) (by omega) (by omega) (by omega) ?_
        first | (have e : e_drl p kd (n + 1) k s = e_drl p kd n k (e_eiq s p k 5) := if_pos (by omega); rw [e] at H; exact H) | (have e : e_drl p kd (n + 1) k s = e_drl p kd n (k + 1) s := if_neg (by omega); rw [e] at H; exact H)
    · exfalso; omega
theorem S_X0_dropKind {d b : Nat} {h0 h : PH} {E : Nat → Int → Int} {Q : Int → PH → Prop} {X : Nat → PH → Prop} {N : Int} {D : Nat → Int → Int} {s : Int → Int} {p kd : Int} (M : Hx b h0 h E) (R : HR E (D 0 2) (D 0 3) s) (I : HI (D 0 3) (D 0 4) (D 0 2) N s) (V : PIv D) (hN : N ≤ 1999500000) (hp : 0 ≤ p ∧ p < D 0 4) (hkd : 0 ≤ kd ∧ kd < 8) (H : ∀ (x : Int) h' E', x = (0) → Hx b h0 h' E' → HR E' (D 0 2) (D 0 3) (e_drops s p kd) → Q x h') : RUN GQ (d + 3) m_X0_dropKind [pA b, pI p, pI kd] h Q X := by
  obtain ⟨v2, v3, v4, vh⟩ := id V
  have hp6 : 0 ≤ p ∧ p < 6 := by omega
  have q0 := I.qn hp6
  rw [e_X0_dropKind]
  refine WP.of (RUN.mono GQ _) (cuts := [12]) (n := 400) (v_X0_dropKind_0 _ _ _ _ _ _ _ _ ?_)
  refine ⟨Bx.k M 0 (by decide) rfl, ?_⟩
  try rw [show hr h b 5 = b + 6 from Bx.r M 0 5 6 (by decide)]
  refine ⟨Bx.k M 6 (by decide) rfl, ?_⟩
  refine S_X1_sizeOf_qR M R I (by omega) (fun x7 e7 => ?_)
  subst e7
  refine L_X0_dropKind_12 V hp hkd ((s (115 + p)).toNat) _ _ _ _ _ _ M R I (by omega) (by omega) (by omega) (by omega) ?_
  exact H
theorem L_X0_loseAged_11 {d b : Nat} {h0 : PH} {Q : Int → PH → Prop} {X : Nat → PH → Prop} {D : Nat → Int → Int} {p : Int} (V : PIv D) (hp : 0 ≤ p ∧ p < D 0 4) : ∀ (n : Nat) (k r : Int) (z4 : Option PV) (E : Nat → Int → Int) (s : Int → Int) (h : PH) (N : Int), (Hx b h0 h E) → (HR E (D 0 2) (D 0 3) s) → (HI (D 0 3) (D 0 4) (D 0 2) N s) → (0 ≤ k) → (k + n = s (115 + p)) → (r = n) → (N + n ≤ 1999600000) → (∀ (x : Int) h' E', x = 0 → Hx b h0 h' E' → HR E' (D 0 2) (D 0 3) (e_agl p n k s) → Q x h') → WP k_X0_loseAged [] (RUN GQ (d + 2)) 0 0 (d + 3) Q X 11 [some (pA b), some (pI p), some (pI k), some (pI r), z4] [] h 0 0 := by
  intro n
  induction n with
  | zero =>
    intro k r z4 E s h N M R I hk0 hn0 hr0 hN H
    obtain ⟨v2, v3, v4, vh⟩ := id V
    have hp6 : 0 ≤ p ∧ p < 6 := by omega
    have q0 := I.qn hp6
    have f10 := R.fl.2.1
    refine WP.of (RUN.mono GQ _) (cuts := [11]) (n := 400) (v_X0_loseAged_11 _ _ _ _ _ _ _ _ ?_)
    refine ⟨ir (by omega) (by omega), fun c12 => ?_, fun c12 => ?_⟩
    · exfalso; omega
    · exact H _ _ _ rfl M R
  | succ n ih =>
    intro k r z4 E s h N M R I hk0 hn0 hr0 hN H
    obtain ⟨v2, v3, v4, vh⟩ := id V
    have hp6 : 0 ≤ p ∧ p < 6 := by omega
    have q0 := I.qn hp6
    have f10 := R.fl.2.1
    have qk := I.qe hp6 ⟨hk0, by omega⟩
    unfold QE at qk
    have sz := eiq_sz (t := 2) I hp6 ⟨hk0, by omega⟩ (by omega)
    have e0 := I.e0
    have kk := I.kn (k := qv s p k 1) ⟨qk.2.1.1, by omega⟩
    refine WP.of (RUN.mono GQ _) (cuts := [11]) (n := 400) (v_X0_loseAged_11 _ _ _ _ _ _ _ _ ?_)
    refine ⟨ir (by omega) (by omega), fun c12 => ?_, fun c12 => ?_⟩
    · refine ⟨Bx.k M 0 (by decide) rfl, ?_⟩
      try rw [show hi h b 10 = _ from Bx.f10 M 0 (by decide)]
      refine ⟨Bx.k M 0 (by decide) rfl, ?_⟩
      try rw [show hr h b 5 = b + 6 from Bx.r M 0 5 6 (by decide)]
      refine ⟨Bx.k M 6 (by decide) rfl, ?_⟩
      refine S_X1_part_qR M R I (by omega) (by omega) (by omega) (fun x26 e26 => ?_)
      subst e26
      refine ⟨Bx.k M 0 (by decide) rfl, ?_⟩
      try rw [show hr h b 5 = b + 6 from Bx.r M 0 5 6 (by decide)]
      refine ⟨Bx.k M 6 (by decide) rfl, ?_⟩
      refine S_X1_part_qR M R I (by omega) (by omega) (by omega) (fun x42 e42 => ?_)
      subst e42
      refine ⟨Bx.k M 0 (by decide) rfl, ?_⟩
      refine S_X0_kindNumber M R (by omega) (by omega) (by omega) (fun x46 e46 => ?_)
      subst e46
      refine ⟨ir (by omega) (by omega), ir (by omega) (by omega), fun c49 => ?_, fun c49 => ?_⟩
      · refine ih _ _ _ _ _ _ _ M R I (by omega) (by omega) (by omega) (by omega) ?_
        first | (have e : e_agl p (n + 1) k s = e_agl p n k (e_eiq s p k 2) := if_pos (by omega); rw [e] at H; exact H) | (have e : e_agl p (n + 1) k s = e_agl p n (k + 1) s := if_neg (by omega); rw [e] at H; exact H)
      · refine ⟨Bx.k M 0 (by decide) rfl, ?_⟩
        try rw [show hr h b 5 = b + 6 from Bx.r M 0 5 6 (by decide)]
        refine ⟨Bx.k M 0 (by decide) rfl, ?_⟩
        refine S_X0_endSignal_qR M R I (by omega) (by omega) (by omega) (by omega) (fun x60 h60 E60 e60 M60 R60 => ?_)
        subst e60
        have I60 := eiq_HI (t := 2) I v3 v4.1 hp6 ⟨hk0, by omega⟩ (by omega)
        refine ih _ _ _ _ _ _ _ M60 R60 I60 (by omega) (by omega) (by omega) (by omega) ?_
        first | (have e : e_agl p (n + 1) k s = e_agl p n k (e_eiq s p k 2) := if_pos (by omega); rw [e] at H; exact H) | (have e : e_agl p (n + 1) k s = e_agl p n (k + 1) s := if_neg (by omega); rw [e] at H; exact H)
    · exfalso; omega
theorem S_X0_loseAged {d b : Nat} {h0 h : PH} {E : Nat → Int → Int} {Q : Int → PH → Prop} {X : Nat → PH → Prop} {N : Int} {D : Nat → Int → Int} {s : Int → Int} {p : Int} (M : Hx b h0 h E) (R : HR E (D 0 2) (D 0 3) s) (I : HI (D 0 3) (D 0 4) (D 0 2) N s) (V : PIv D) (hN : N ≤ 1999500000) (hp : 0 ≤ p ∧ p < D 0 4) (H : ∀ (x : Int) h' E', x = (0) → Hx b h0 h' E' → HR E' (D 0 2) (D 0 3) (e_ages s p) → Q x h') : RUN GQ (d + 3) m_X0_loseAged [pA b, pI p] h Q X := by
  obtain ⟨v2, v3, v4, vh⟩ := id V
  have hp6 : 0 ≤ p ∧ p < 6 := by omega
  have q0 := I.qn hp6
  rw [e_X0_loseAged]
  refine WP.of (RUN.mono GQ _) (cuts := [11]) (n := 400) (v_X0_loseAged_0 _ _ _ _ _ _ _ _ ?_)
  refine ⟨Bx.k M 0 (by decide) rfl, ?_⟩
  try rw [show hr h b 5 = b + 6 from Bx.r M 0 5 6 (by decide)]
  refine ⟨Bx.k M 6 (by decide) rfl, ?_⟩
  refine S_X1_sizeOf_qR M R I (by omega) (fun x7 e7 => ?_)
  subst e7
  refine L_X0_loseAged_11 V hp ((s (115 + p)).toNat) _ _ _ _ _ _ _ M R I (by omega) (by omega) (by omega) (by omega) ?_
  exact H
theorem S_X0_tire {d b : Nat} {h0 h : PH} {E : Nat → Int → Int} {Q : Int → PH → Prop} {X : Nat → PH → Prop} {C K : Int} {s : Int → Int} {p k : Int} (M : Hx b h0 h E) (R : HR E C K s) (hp : 0 ≤ p ∧ p < 6) (hkx : 0 ≤ k ∧ k < 8) (hkK : k < K) (ht : 0 ≤ td s p k ∧ td s p k ≤ 99) (hkn : 0 ≤ kn s k 1 ∧ kn s k 1 ≤ 20) (H : ∀ (x : Int) h', x = (0) → Hx b h0 h' (dst E 3 (p * 8 + k) (if 99 ≤ td s p k + kn s k 1 then 99 else td s p k + kn s k 1)) → Q x h') : RUN GQ (d + 2) m_X0_tire [pA b, pI p, pI k] h Q X := by
  have r1 := R.td hp hkx
  rw [e_X0_tire]
  refine WP.of (RUN.mono GQ _) (cuts := []) (n := 400) (v_X0_tire_0 _ _ _ _ _ _ _ _ ?_)
  refine ⟨ir (by omega) (by omega), fun c8 => ?_, fun c8 => ?_⟩
  · first
    | (exfalso; omega)
    | (refine H _ _ rfl (M.cast ?_)
       first | (rw [if_pos (by omega)]; done) | (rw [if_neg (by omega), r1]))
  · refine ⟨Bx.k M 0 (by decide) rfl, ?_⟩
    try rw [show hr h b 2 = b + 3 from Bx.r M 0 2 3 (by decide)]
    refine Bx.al M 3 48 20 (by decide) rfl (by decide) rfl (fun el16 => ?_)
    refine ⟨ir (by omega) (by omega), ir (by omega) (by omega), fun c17 => ?_, fun c17 => ?_⟩
    · refine ⟨Bx.k M 0 (by decide) rfl, ?_⟩
      try rw [show hr h b 2 = b + 3 from Bx.r M 0 2 3 (by decide)]
      refine Bx.ld M 3 48 (by decide) rfl rfl (by omega) (by omega) (fun er => ?_)
      try rw [er]
      clear er
      refine ⟨Bx.k M 0 (by decide) rfl, ?_⟩
      refine S_X0_kindNumber M R (by omega) (by omega) (by omega) (fun x29 e29 => ?_)
      subst e29
      refine ⟨Bx.k M 0 (by decide) rfl, ?_⟩
      try rw [show hr h b 2 = b + 3 from Bx.r M 0 2 3 (by decide)]
      refine ⟨ir (by omega) (by omega), ir (by omega) (by omega), fun c44 => ?_, fun c44 => ?_⟩
      · refine Bx.as M 3 48 (by decide) rfl rfl (by omega) (by omega) (fun h54 M54 => ?_)
        first
        | (exfalso; omega)
        | (refine H _ _ rfl (M54.cast ?_)
           first | (rw [if_pos (by omega)]; done) | (rw [if_neg (by omega), r1]))
      · refine Bx.as M 3 48 (by decide) rfl rfl (by omega) (by omega) (fun h54 M54 => ?_)
        first
        | (exfalso; omega)
        | (refine H _ _ rfl (M54.cast ?_)
           first | (rw [if_pos (by omega)]; done) | (rw [if_neg (by omega), r1]))
    · first
      | (exfalso; omega)
      | (refine H _ _ rfl (M.cast ?_)
         first | (rw [if_pos (by omega)]; done) | (rw [if_neg (by omega), r1]))
theorem L_X0_recover_2 {d b : Nat} {h0 : PH} {Q : Int → PH → Prop} {X : Nat → PH → Prop} {D : Nat → Int → Int} (V : PIv D) : ∀ (n : Nat) (k : Int) (E : Nat → Int → Int) (s : Int → Int) (h : PH) (N : Int), (Hx b h0 h E) → (HR E (D 0 2) (D 0 3) s) → (HI (D 0 3) (D 0 4) (D 0 2) N s) → (0 ≤ k) → (k + n = 48) → (∀ (x : Int) h' E', x = 0 → Hx b h0 h' E' → HR E' (D 0 2) (D 0 3) (e_rsl n k s) → Q x h') → WP k_X0_recover [] (RUN GQ (d + 0)) 0 0 (d + 1) Q X 2 [some (pA b), some (pI k)] [] h 0 0 := by
  intro n
  induction n with
  | zero =>
    intro k E s h N M R I hk0 hn0 H
    obtain ⟨v2, v3, v4, vh⟩ := id V
    refine WP.of (RUN.mono GQ _) (cuts := [2]) (n := 400) (v_X0_recover_2 _ _ _ _ _ ?_)
    refine ⟨Bx.k M 0 (by decide) rfl, ?_⟩
    try rw [show hr h b 2 = b + 3 from Bx.r M 0 2 3 (by decide)]
    refine Bx.al M 3 48 20 (by decide) rfl (by decide) rfl (fun el7 => ?_)
    refine ⟨ir (by omega) (by omega), ir (by omega) (by omega), fun c8 => ?_, fun c8 => ?_⟩
    · exfalso; omega
    · exact H _ _ _ rfl M R
  | succ n ih =>
    intro k E s h N M R I hk0 hn0 H
    obtain ⟨v2, v3, v4, vh⟩ := id V
    have ht := I.td (p := k / 8) (k := k % 8) ⟨by omega, by omega⟩ ⟨by omega, by omega⟩
    unfold td at ht
    rw [show 37 + 8 * (k / 8) + k % 8 = 37 + k by omega] at ht
    have r3 : E 3 k = s (37 + k) := R.2.1.2.2.1 k hk0 (by omega)
    have I9 : HI (D 0 3) (D 0 4) (D 0 2) N (ups s (37 + k) (if 0 ≤ s (37 + k) - 1 then s (37 + k) - 1 else 0)) := tir_HI I v3.1 v4.1 ⟨by omega, by omega⟩ (by split <;> omega) (fun h => by rw [h]; rfl)
    refine WP.of (RUN.mono GQ _) (cuts := [2]) (n := 400) (v_X0_recover_2 _ _ _ _ _ ?_)
    refine ⟨Bx.k M 0 (by decide) rfl, ?_⟩
    try rw [show hr h b 2 = b + 3 from Bx.r M 0 2 3 (by decide)]
    refine Bx.al M 3 48 20 (by decide) rfl (by decide) rfl (fun el7 => ?_)
    refine ⟨ir (by omega) (by omega), ir (by omega) (by omega), fun c8 => ?_, fun c8 => ?_⟩
    · refine ⟨Bx.k M 0 (by decide) rfl, ?_⟩
      try rw [show hr h b 2 = b + 3 from Bx.r M 0 2 3 (by decide)]
      refine Bx.ld M 3 48 (by decide) rfl rfl (by omega) (by omega) (fun er => ?_)
      try rw [er]
      clear er
      refine ⟨ir (by omega) (by omega), fun c17 => ?_, fun c17 => ?_⟩
      · refine ⟨Bx.k M 0 (by decide) rfl, ?_⟩
        try rw [show hr h b 2 = b + 3 from Bx.r M 0 2 3 (by decide)]
        refine Bx.ld M 3 48 (by decide) rfl rfl (by omega) (by omega) (fun er => ?_)
        try rw [er]
        clear er
        refine Bx.as M 3 48 (by decide) rfl rfl (by omega) (by omega) (fun h29 M29 => ?_)
        refine ih _ _ _ _ _ M29 ((rec_step R ⟨hk0, by omega⟩ ht.1).1 c17) I9 (by omega) (by omega) ?_
        exact H
      · refine ih _ _ _ _ _ M ((rec_step R ⟨hk0, by omega⟩ ht.1).2 c17) I9 (by omega) (by omega) ?_
        exact H
    · exfalso; omega
theorem S_X0_recover {d b : Nat} {h0 h : PH} {E : Nat → Int → Int} {Q : Int → PH → Prop} {X : Nat → PH → Prop} {N : Int} {D : Nat → Int → Int} {s : Int → Int} (M : Hx b h0 h E) (R : HR E (D 0 2) (D 0 3) s) (I : HI (D 0 3) (D 0 4) (D 0 2) N s) (V : PIv D) (hN : N ≤ 1999500000)  (H : ∀ (x : Int) h' E', x = 0 → Hx b h0 h' E' → HR E' (D 0 2) (D 0 3) (e_rsl 48 0 s) → Q x h') : RUN GQ (d + 1) m_X0_recover [pA b] h Q X := by
  rw [e_X0_recover]
  refine WP.of (RUN.mono GQ _) (cuts := [2]) (n := 400) (v_X0_recover_0 _ _ _ _ _ ?_)
  refine L_X0_recover_2 V (48) _ _ _ _ _ M R I (by omega) (by omega) ?_
  exact H
