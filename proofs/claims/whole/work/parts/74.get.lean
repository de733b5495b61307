/-! the class's hall: what is asked of it (written by wip/whole/tools/eng.py) -/
section VCS
variable {call : PC} {mc ms fr : Nat} {Q : Int → PH → Prop} {X : Nat → PH → Prop} {K : PK}
set_option maxRecDepth 100000 in
theorem v_X0_settingOf_0 (a0 : Nat) (i1 : Int) (h : PH) (c s : Nat) (H : InR i1 ∧ (i1 < 0 →
 Q 0 h) ∧
(0 ≤ i1 →
 hk h a0 = 1 ∧ (20 ≤ hk h (hr h a0 0) ∧ hk h (hr h a0 0) ≤ 26) ∧ InR i1 ∧ InR ((hl h (hr h a0 0) : Int)) ∧ (i1 < ((hl h (hr h a0 0) : Int)) →
 hk h a0 = 1 ∧ (hk h (hr h a0 0) = 20 ∨ hk h (hr h a0 0) = 26) ∧ (0 ≤ i1 ∧ i1 < (hl h (hr h a0 0) : Int)) ∧ Q (hi h (hr h a0 0) (Int.toNat i1)) h) ∧
(((hl h (hr h a0 0) : Int)) ≤ i1 →
 Q 0 h))) : wpc k_X0_settingOf [] call mc ms fr Q X [] K 400 (pto 0 k_X0_settingOf) [some (pA a0), some (pI i1)] [] h c s :=
  H
set_option maxRecDepth 100000 in
theorem v_X0_putSetting_0 (a0 : Nat) (i1 : Int) (i2 : Int) (h : PH) (c s : Nat) (H : InR i1 ∧ (i1 < 0 →
 Q 0 h) ∧
(0 ≤ i1 →
 hk h a0 = 1 ∧ (20 ≤ hk h (hr h a0 0) ∧ hk h (hr h a0 0) ≤ 26) ∧ InR i1 ∧ InR ((hl h (hr h a0 0) : Int)) ∧ (i1 < ((hl h (hr h a0 0) : Int)) →
 hk h a0 = 1 ∧ hk h (hr h a0 0) = 20 ∧ (0 ≤ i1 ∧ i1 < (hl h (hr h a0 0) : Int)) ∧ ∀ h1, h1 = hsi h (hr h a0 0) (Int.toNat i1) i2 →
 Q 0 h1) ∧
(((hl h (hr h a0 0) : Int)) ≤ i1 →
 Q 0 h))) : wpc k_X0_putSetting [] call mc ms fr Q X [] K 400 (pto 0 k_X0_putSetting) [some (pA a0), some (pI i1), some (pI i2)] [] h c s :=
  H
set_option maxRecDepth 100000 in
theorem v_X0_kindNumber_0 (a0 : Nat) (i1 : Int) (i2 : Int) (z3 : Option PV) (h : PH) (c s : Nat) (H : InR ((i1 * 3) + i2) ∧ (((i1 * 3) + i2) < 0 →
 Q 0 h) ∧
(0 ≤ ((i1 * 3) + i2) →
 hk h a0 = 1 ∧ (20 ≤ hk h (hr h a0 1) ∧ hk h (hr h a0 1) ≤ 26) ∧ InR ((i1 * 3) + i2) ∧ InR ((hl h (hr h a0 1) : Int)) ∧ (((i1 * 3) + i2) < ((hl h (hr h a0 1) : Int)) →
 hk h a0 = 1 ∧ (hk h (hr h a0 1) = 20 ∨ hk h (hr h a0 1) = 26) ∧ (0 ≤ ((i1 * 3) + i2) ∧ ((i1 * 3) + i2) < (hl h (hr h a0 1) : Int)) ∧ Q (hi h (hr h a0 1) (Int.toNat (((i1 * 3) + i2)))) h) ∧
(((hl h (hr h a0 1) : Int)) ≤ ((i1 * 3) + i2) →
 Q 0 h))) : wpc k_X0_kindNumber [] call mc ms fr Q X [] K 400 (pto 0 k_X0_kindNumber) [some (pA a0), some (pI i1), some (pI i2), z3] [] h c s :=
  H
set_option maxRecDepth 100000 in
theorem v_X0_putKindNumber_0 (a0 : Nat) (i1 : Int) (i2 : Int) (i3 : Int) (z4 : Option PV) (h : PH) (c s : Nat) (H : InR ((i1 * 3) + i2) ∧ (((i1 * 3) + i2) < 0 →
 Q 0 h) ∧
(0 ≤ ((i1 * 3) + i2) →
 hk h a0 = 1 ∧ (20 ≤ hk h (hr h a0 1) ∧ hk h (hr h a0 1) ≤ 26) ∧ InR ((i1 * 3) + i2) ∧ InR ((hl h (hr h a0 1) : Int)) ∧ (((i1 * 3) + i2) < ((hl h (hr h a0 1) : Int)) →
 hk h a0 = 1 ∧ hk h (hr h a0 1) = 20 ∧ (0 ≤ ((i1 * 3) + i2) ∧ ((i1 * 3) + i2) < (hl h (hr h a0 1) : Int)) ∧ ∀ h1, h1 = hsi h (hr h a0 1) (Int.toNat (((i1 * 3) + i2))) i3 →
 Q 0 h1) ∧
(((hl h (hr h a0 1) : Int)) ≤ ((i1 * 3) + i2) →
 Q 0 h))) : wpc k_X0_putKindNumber [] call mc ms fr Q X [] K 400 (pto 0 k_X0_putKindNumber) [some (pA a0), some (pI i1), some (pI i2), some (pI i3), z4] [] h c s :=
  H
set_option maxRecDepth 100000 in
theorem v_X0_tiredOf_0 (a0 : Nat) (i1 : Int) (i2 : Int) (z3 : Option PV) (h : PH) (c s : Nat) (H : InR ((i1 * 8) + i2) ∧ (((i1 * 8) + i2) < 0 →
 Q 0 h) ∧
(0 ≤ ((i1 * 8) + i2) →
 hk h a0 = 1 ∧ (20 ≤ hk h (hr h a0 2) ∧ hk h (hr h a0 2) ≤ 26) ∧ InR ((i1 * 8) + i2) ∧ InR ((hl h (hr h a0 2) : Int)) ∧ (((i1 * 8) + i2) < ((hl h (hr h a0 2) : Int)) →
 hk h a0 = 1 ∧ (hk h (hr h a0 2) = 20 ∨ hk h (hr h a0 2) = 26) ∧ (0 ≤ ((i1 * 8) + i2) ∧ ((i1 * 8) + i2) < (hl h (hr h a0 2) : Int)) ∧ Q (hi h (hr h a0 2) (Int.toNat (((i1 * 8) + i2)))) h) ∧
(((hl h (hr h a0 2) : Int)) ≤ ((i1 * 8) + i2) →
 Q 0 h))) : wpc k_X0_tiredOf [] call mc ms fr Q X [] K 400 (pto 0 k_X0_tiredOf) [some (pA a0), some (pI i1), some (pI i2), z3] [] h c s :=
  H
set_option maxRecDepth 100000 in
theorem v_X0_urgencyOf_0 (a0 : Nat) (i1 : Int) (i2 : Int) (z3 : Option PV) (h : PH) (c s : Nat) (H : InR i1 ∧ (i1 < 0 →
 Q 0 h) ∧
(0 ≤ i1 →
 InR i1 ∧ InR 6 ∧ (i1 < 6 →
 InR i2 ∧ (i2 < 0 →
 Q 0 h) ∧
(0 ≤ i2 →
 InR i2 ∧ InR 8 ∧ (i2 < 8 →
 hk h a0 = 1 ∧ (hk h (hr h a0 1) = 20 ∨ hk h (hr h a0 1) = 26) ∧ (0 ≤ ((i2 * 3) + 0) ∧ ((i2 * 3) + 0) < (hl h (hr h a0 1) : Int)) ∧ hk h a0 = 1 ∧ (hk h (hr h a0 2) = 20 ∨ hk h (hr h a0 2) = 26) ∧ (0 ≤ ((i1 * 8) + i2) ∧ ((i1 * 8) + i2) < (hl h (hr h a0 2) : Int)) ∧ InR ((hi h (hr h a0 1) (Int.toNat (((i2 * 3) + 0)))) - (hi h (hr h a0 2) (Int.toNat (((i1 * 8) + i2))))) ∧ (0 < ((hi h (hr h a0 1) (Int.toNat (((i2 * 3) + 0)))) - (hi h (hr h a0 2) (Int.toNat (((i1 * 8) + i2))))) →
 Q ((hi h (hr h a0 1) (Int.toNat (((i2 * 3) + 0)))) - (hi h (hr h a0 2) (Int.toNat (((i1 * 8) + i2))))) h) ∧
(((hi h (hr h a0 1) (Int.toNat (((i2 * 3) + 0)))) - (hi h (hr h a0 2) (Int.toNat (((i1 * 8) + i2))))) ≤ 0 →
 Q 0 h)) ∧
(8 ≤ i2 →
 Q 0 h))) ∧
(6 ≤ i1 →
 Q 0 h))) : wpc k_X0_urgencyOf [] call mc ms fr Q X [] K 400 (pto 0 k_X0_urgencyOf) [some (pA a0), some (pI i1), some (pI i2), z3] [] h c s :=
  H
set_option maxRecDepth 100000 in
theorem v_X0_maskOf_0 (a0 : Nat) (i1 : Int) (h : PH) (c s : Nat) (H : InR i1 ∧ (i1 < 0 →
 Q 0 h) ∧
(0 ≤ i1 →
 hk h a0 = 1 ∧ (20 ≤ hk h (hr h a0 3) ∧ hk h (hr h a0 3) ≤ 26) ∧ InR i1 ∧ InR ((hl h (hr h a0 3) : Int)) ∧ (i1 < ((hl h (hr h a0 3) : Int)) →
 hk h a0 = 1 ∧ (hk h (hr h a0 3) = 20 ∨ hk h (hr h a0 3) = 26) ∧ (0 ≤ i1 ∧ i1 < (hl h (hr h a0 3) : Int)) ∧ Q (hi h (hr h a0 3) (Int.toNat i1)) h) ∧
(((hl h (hr h a0 3) : Int)) ≤ i1 →
 Q 0 h))) : wpc k_X0_maskOf [] call mc ms fr Q X [] K 400 (pto 0 k_X0_maskOf) [some (pA a0), some (pI i1)] [] h c s :=
  H
set_option maxRecDepth 100000 in
theorem v_X0_isMasked_0 (a0 : Nat) (i1 : Int) (i2 : Int) (h : PH) (c s : Nat) (H : hk h a0 = 1 ∧ call m_X0_maskOf [pA a0, pI i1] h (fun x1 h1 =>
 InR (band (bshr x1 i2) 1) ∧ ((band (bshr x1 i2) 1) = 0 →
 ((0 : Int) = 0 ∨ (0 : Int) = 1) ∧ Q 0 h1) ∧
((band (bshr x1 i2) 1) ≠ 0 →
 ((1 : Int) = 0 ∨ (1 : Int) = 1) ∧ Q 1 h1)) X) : wpc k_X0_isMasked [] call mc ms fr Q X [] K 400 (pto 0 k_X0_isMasked) [some (pA a0), some (pI i1), some (pI i2)] [] h c s :=
  H
set_option maxRecDepth 100000 in
theorem v_X0_putMask_0 (a0 : Nat) (i1 : Int) (i2 : Int) (i3 : Int) (z4 : Option PV) (h : PH) (c s : Nat) (H : InR i1 ∧ (i1 < 0 →
 Q 0 h) ∧
(0 ≤ i1 →
 hk h a0 = 1 ∧ (20 ≤ hk h (hr h a0 3) ∧ hk h (hr h a0 3) ≤ 26) ∧ InR i1 ∧ InR ((hl h (hr h a0 3) : Int)) ∧ (i1 < ((hl h (hr h a0 3) : Int)) →
 hk h a0 = 1 ∧ InR i3 ∧ (i3 = 0 →
 hk h a0 = 1 ∧ (hk h (hr h a0 3) = 20 ∨ hk h (hr h a0 3) = 26) ∧ (0 ≤ i1 ∧ i1 < (hl h (hr h a0 3) : Int)) ∧ hk h (hr h a0 3) = 20 ∧ (0 ≤ i1 ∧ i1 < (hl h (hr h a0 3) : Int)) ∧ ∀ h1, h1 = hsi h (hr h a0 3) (Int.toNat i1) (band (hi h (hr h a0 3) (Int.toNat i1)) (bxor (bshl 1 i2) ((-1)))) →
 Q 0 h1) ∧
(i3 ≠ 0 →
 hk h a0 = 1 ∧ (hk h (hr h a0 3) = 20 ∨ hk h (hr h a0 3) = 26) ∧ (0 ≤ i1 ∧ i1 < (hl h (hr h a0 3) : Int)) ∧ hk h (hr h a0 3) = 20 ∧ (0 ≤ i1 ∧ i1 < (hl h (hr h a0 3) : Int)) ∧ ∀ h2, h2 = hsi h (hr h a0 3) (Int.toNat i1) (bor (hi h (hr h a0 3) (Int.toNat i1)) (bshl 1 i2)) →
 Q 0 h2)) ∧
(((hl h (hr h a0 3) : Int)) ≤ i1 →
 Q 0 h))) : wpc k_X0_putMask [] call mc ms fr Q X [] K 400 (pto 0 k_X0_putMask) [some (pA a0), some (pI i1), some (pI i2), some (pI i3), z4] [] h c s :=
  H
set_option maxRecDepth 100000 in
theorem v_X0_tally_0 (a0 : Nat) (i1 : Int) (i2 : Int) (z3 : Option PV) (h : PH) (c s : Nat) (H : InR ((i1 * 4) + i2) ∧ (((i1 * 4) + i2) < 0 →
 Q 0 h) ∧
(0 ≤ ((i1 * 4) + i2) →
 hk h a0 = 1 ∧ (20 ≤ hk h (hr h a0 4) ∧ hk h (hr h a0 4) ≤ 26) ∧ InR ((i1 * 4) + i2) ∧ InR ((hl h (hr h a0 4) : Int)) ∧ (((i1 * 4) + i2) < ((hl h (hr h a0 4) : Int)) →
 hk h a0 = 1 ∧ (hk h (hr h a0 4) = 20 ∨ hk h (hr h a0 4) = 26) ∧ (0 ≤ ((i1 * 4) + i2) ∧ ((i1 * 4) + i2) < (hl h (hr h a0 4) : Int)) ∧ Q (hi h (hr h a0 4) (Int.toNat (((i1 * 4) + i2)))) h) ∧
(((hl h (hr h a0 4) : Int)) ≤ ((i1 * 4) + i2) →
 Q 0 h))) : wpc k_X0_tally [] call mc ms fr Q X [] K 400 (pto 0 k_X0_tally) [some (pA a0), some (pI i1), some (pI i2), z3] [] h c s :=
  H
set_option maxRecDepth 100000 in
theorem v_X0_addToTally_0 (a0 : Nat) (i1 : Int) (i2 : Int) (z3 : Option PV) (h : PH) (c s : Nat) (H : InR ((i1 * 4) + i2) ∧ (((i1 * 4) + i2) < 0 →
 Q 0 h) ∧
(0 ≤ ((i1 * 4) + i2) →
 hk h a0 = 1 ∧ (20 ≤ hk h (hr h a0 4) ∧ hk h (hr h a0 4) ≤ 26) ∧ InR ((i1 * 4) + i2) ∧ InR ((hl h (hr h a0 4) : Int)) ∧ (((i1 * 4) + i2) < ((hl h (hr h a0 4) : Int)) →
 hk h a0 = 1 ∧ (hk h (hr h a0 4) = 20 ∨ hk h (hr h a0 4) = 26) ∧ (0 ≤ ((i1 * 4) + i2) ∧ ((i1 * 4) + i2) < (hl h (hr h a0 4) : Int)) ∧ hk h (hr h a0 4) = 20 ∧ (0 ≤ ((i1 * 4) + i2) ∧ ((i1 * 4) + i2) < (hl h (hr h a0 4) : Int)) ∧ ∀ h1, h1 = hsi h (hr h a0 4) (Int.toNat (((i1 * 4) + i2))) ((hi h (hr h a0 4) (Int.toNat (((i1 * 4) + i2)))) + 1) →
 Q 0 h1) ∧
(((hl h (hr h a0 4) : Int)) ≤ ((i1 * 4) + i2) →
 Q 0 h))) : wpc k_X0_addToTally [] call mc ms fr Q X [] K 400 (pto 0 k_X0_addToTally) [some (pA a0), some (pI i1), some (pI i2), z3] [] h c s :=
  H
set_option maxRecDepth 100000 in
theorem v_X0_endedBy_0 (a0 : Nat) (i1 : Int) (h : PH) (c s : Nat) (H : InR i1 ∧ (i1 < 0 →
 Q 0 h) ∧
(0 ≤ i1 →
 hk h a0 = 1 ∧ (20 ≤ hk h (hr h a0 7) ∧ hk h (hr h a0 7) ≤ 26) ∧ InR i1 ∧ InR ((hl h (hr h a0 7) : Int)) ∧ (i1 < ((hl h (hr h a0 7) : Int)) →
 hk h a0 = 1 ∧ (hk h (hr h a0 7) = 20 ∨ hk h (hr h a0 7) = 26) ∧ (0 ≤ i1 ∧ i1 < (hl h (hr h a0 7) : Int)) ∧ Q (hi h (hr h a0 7) (Int.toNat i1)) h) ∧
(((hl h (hr h a0 7) : Int)) ≤ i1 →
 Q 0 h))) : wpc k_X0_endedBy [] call mc ms fr Q X [] K 400 (pto 0 k_X0_endedBy) [some (pA a0), some (pI i1)] [] h c s :=
  H
set_option maxRecDepth 100000 in
theorem v_X0_told_0 (a0 : Nat) (h : PH) (c s : Nat) (H : hk h a0 = 1 ∧ InR (hi h a0 9) ∧ InR 40 ∧ ((hi h a0 9) < 40 →
 hk h a0 = 1 ∧ Q (hi h a0 9) h) ∧
(40 ≤ (hi h a0 9) →
 Q 40 h)) : wpc k_X0_told [] call mc ms fr Q X [] K 400 (pto 0 k_X0_told) [some (pA a0)] [] h c s :=
  H
set_option maxRecDepth 100000 in
theorem v_X0_endPart_0 (a0 : Nat) (i1 : Int) (i2 : Int) (z3 : Option PV) (h : PH) (c s : Nat) (H : hk h a0 = 1 ∧ InR (((hi h a0 9) - 1) - i1) ∧ InR 40 ∧ (40 : Int) ≠ 0 ∧ InR (((Int.tmod (((hi h a0 9) - 1) - i1) 40) * 5) + i2) ∧ ((((Int.tmod (((hi h a0 9) - 1) - i1) 40) * 5) + i2) < 0 →
 Q ((-1)) h) ∧
(0 ≤ (((Int.tmod (((hi h a0 9) - 1) - i1) 40) * 5) + i2) →
 hk h a0 = 1 ∧ (20 ≤ hk h (hr h a0 8) ∧ hk h (hr h a0 8) ≤ 26) ∧ InR (((Int.tmod (((hi h a0 9) - 1) - i1) 40) * 5) + i2) ∧ InR ((hl h (hr h a0 8) : Int)) ∧ ((((Int.tmod (((hi h a0 9) - 1) - i1) 40) * 5) + i2) < ((hl h (hr h a0 8) : Int)) →
 hk h a0 = 1 ∧ (hk h (hr h a0 8) = 20 ∨ hk h (hr h a0 8) = 26) ∧ (0 ≤ (((Int.tmod (((hi h a0 9) - 1) - i1) 40) * 5) + i2) ∧ (((Int.tmod (((hi h a0 9) - 1) - i1) 40) * 5) + i2) < (hl h (hr h a0 8) : Int)) ∧ Q (hi h (hr h a0 8) (Int.toNat ((((Int.tmod (((hi h a0 9) - 1) - i1) 40) * 5) + i2)))) h) ∧
(((hl h (hr h a0 8) : Int)) ≤ (((Int.tmod (((hi h a0 9) - 1) - i1) 40) * 5) + i2) →
 Q ((-1)) h))) : wpc k_X0_endPart [] call mc ms fr Q X [] K 400 (pto 0 k_X0_endPart) [some (pA a0), some (pI i1), some (pI i2), z3] [] h c s :=
  H
set_option maxRecDepth 100000 in
theorem v_X0_toldEndOf_0 (a0 : Nat) (i1 : Int) (z2 : Option PV) (h : PH) (c s : Nat) (H : K 2 [some (pA a0), some (pI i1), some (pI 0)] [] h c s) : wpc k_X0_toldEndOf [] call mc ms fr Q X [2] K 400 (pto 0 k_X0_toldEndOf) [some (pA a0), some (pI i1), z2] [] h c s :=
  H
set_option maxRecDepth 100000 in
theorem v_X0_toldEndOf_2 (a0 : Nat) (i1 : Int) (i2 : Int) (h : PH) (c s : Nat) (H : hk h a0 = 1 ∧ call m_X0_told [pA a0] h (fun x1 h1 =>
 InR i2 ∧ InR x1 ∧ (i2 < x1 →
 hk h1 a0 = 1 ∧ call m_X0_endPart [pA a0, pI i2, pI 0] h1 (fun x2 h2 =>
 InR x2 ∧ InR i1 ∧ (x2 = i1 →
 hk h2 a0 = 1 ∧ call m_X0_endPart [pA a0, pI i2, pI 1] h2 (fun x3 h3 =>
 Q x3 h3) X) ∧
(x2 ≠ i1 →
 K 2 [some (pA a0), some (pI i1), some (pI (i2 + 1))] [] h2 c s)) X) ∧
(x1 ≤ i2 →
 Q ((-1)) h1)) X) : wpc k_X0_toldEndOf [] call mc ms fr Q X [2] K 400 (pto 2 k_X0_toldEndOf) [some (pA a0), some (pI i1), some (pI i2)] [] h c s :=
  H
set_option maxRecDepth 100000 in
theorem v_X0_areIdle_0 (a0 : Nat) (i1 : Int) (i2 : Int) (z3 : Option PV) (h : PH) (c s : Nat) (H : K 2 [some (pA a0), some (pI i1), some (pI i2), some (pI i1)] [] h c s) : wpc k_X0_areIdle [] call mc ms fr Q X [2] K 400 (pto 0 k_X0_areIdle) [some (pA a0), some (pI i1), some (pI i2), z3] [] h c s :=
  H
set_option maxRecDepth 100000 in
theorem v_X0_areIdle_2 (a0 : Nat) (i1 : Int) (i2 : Int) (i3 : Int) (h : PH) (c s : Nat) (H : InR i3 ∧ InR i2 ∧ (i3 < i2 →
 hk h a0 = 1 ∧ hk h (hr h a0 5) = 2 ∧ call m_X1_sizeOf [pA (hr h a0 5), pI i3] h (fun x1 h1 =>
 InR x1 ∧ (0 < x1 →
 ((0 : Int) = 0 ∨ (0 : Int) = 1) ∧ Q 0 h1) ∧
(x1 ≤ 0 →
 hk h1 a0 = 1 ∧ hk h1 (hr h1 a0 6) = 2 ∧ call m_X1_sizeOf [pA (hr h1 a0 6), pI i3] h1 (fun x2 h2 =>
 InR x2 ∧ (0 < x2 →
 ((0 : Int) = 0 ∨ (0 : Int) = 1) ∧ Q 0 h2) ∧
(x2 ≤ 0 →
 K 2 [some (pA a0), some (pI i1), some (pI i2), some (pI (i3 + 1))] [] h2 c s)) X)) X) ∧
(i2 ≤ i3 →
 ((1 : Int) = 0 ∨ (1 : Int) = 1) ∧ Q 1 h)) : wpc k_X0_areIdle [] call mc ms fr Q X [2] K 400 (pto 2 k_X0_areIdle) [some (pA a0), some (pI i1), some (pI i2), some (pI i3)] [] h c s :=
  H
end VCS
theorem S_X0_settingOf {d b : Nat} {h0 h : PH} {E : Nat → Int → Int} {Q : Int → PH → Prop} {X : Nat → PH → Prop} {w : Int} (M : Hx b h0 h E) (hw : 0 ≤ w ∧ w < 4) (H : ∀ x : Int, x = (E 1 w) → Q x h) : RUN GQ (d + 1) m_X0_settingOf [pA b, pI w] h Q X := by
  rw [e_X0_settingOf]
  refine WP.of (RUN.mono GQ _) (cuts := []) (n := 400) (v_X0_settingOf_0 _ _ _ _ _ ?_)
  refine ⟨ir (by omega) (by omega), fun c1 => ?_, fun c1 => ?_⟩
  · first
    | (exfalso; omega)
    | (refine H _ ?_
       first | rfl | omega)
  · refine ⟨Bx.k M 0 (by decide) rfl, ?_⟩
    try rw [show hr h b 0 = b + 1 from Bx.r M 0 0 1 (by decide)]
    refine Bx.al M 1 4 20 (by decide) rfl (by decide) rfl (fun el9 => ?_)
    refine ⟨ir (by omega) (by omega), ir (by omega) (by omega), fun c10 => ?_, fun c10 => ?_⟩
    · refine ⟨Bx.k M 0 (by decide) rfl, ?_⟩
      try rw [show hr h b 0 = b + 1 from Bx.r M 0 0 1 (by decide)]
      refine Bx.ld M 1 4 (by decide) rfl rfl (by omega) (by omega) (fun er => ?_)
      try rw [er]
      clear er
      first
      | (exfalso; omega)
      | (refine H _ ?_
         first | rfl | omega)
    · first
      | (exfalso; omega)
      | (refine H _ ?_
         first | rfl | omega)
theorem S_X0_putSetting {d b : Nat} {h0 h : PH} {E : Nat → Int → Int} {Q : Int → PH → Prop} {X : Nat → PH → Prop} {w v : Int} (M : Hx b h0 h E) (hw : 0 ≤ w ∧ w < 4) (H : ∀ (x : Int) h', x = (0) → Hx b h0 h' (dst E 1 w v) → Q x h') : RUN GQ (d + 1) m_X0_putSetting [pA b, pI w, pI v] h Q X := by
  rw [e_X0_putSetting]
  refine WP.of (RUN.mono GQ _) (cuts := []) (n := 400) (v_X0_putSetting_0 _ _ _ _ _ _ ?_)
  refine ⟨ir (by omega) (by omega), fun c1 => ?_, fun c1 => ?_⟩
  · first
    | (exfalso; omega)
    | (refine H _ _ ?_ ?_
       · first | rfl | omega
       · exact M)
  · refine ⟨Bx.k M 0 (by decide) rfl, ?_⟩
    try rw [show hr h b 0 = b + 1 from Bx.r M 0 0 1 (by decide)]
    refine Bx.al M 1 4 20 (by decide) rfl (by decide) rfl (fun el9 => ?_)
    refine ⟨ir (by omega) (by omega), ir (by omega) (by omega), fun c10 => ?_, fun c10 => ?_⟩
    · refine ⟨Bx.k M 0 (by decide) rfl, ?_⟩
      try rw [show hr h b 0 = b + 1 from Bx.r M 0 0 1 (by decide)]
      refine Bx.as M 1 4 (by decide) rfl rfl (by omega) (by omega) (fun h19 M19 => ?_)
      first
      | (exfalso; omega)
      | (refine H _ _ ?_ ?_
         · first | rfl | omega
         · exact M19)
    · first
      | (exfalso; omega)
      | (refine H _ _ ?_ ?_
         · first | rfl | omega
         · exact M)
theorem S_X0_kindNumber {d b : Nat} {h0 h : PH} {E : Nat → Int → Int} {Q : Int → PH → Prop} {X : Nat → PH → Prop} {C K : Int} {s : Int → Int} {k w : Int} (M : Hx b h0 h E) (R : HR E C K s) (hkx : 0 ≤ k ∧ k < 8) (hkK : k < K) (hw : 0 ≤ w ∧ w < 3) (H : ∀ x : Int, x = (kn s k w) → Q x h) : RUN GQ (d + 1) m_X0_kindNumber [pA b, pI k, pI w] h Q X := by
  rw [e_X0_kindNumber]
  refine WP.of (RUN.mono GQ _) (cuts := []) (n := 400) (v_X0_kindNumber_0 _ _ _ _ _ _ _ ?_)
  refine ⟨ir (by omega) (by omega), fun c7 => ?_, fun c7 => ?_⟩
  · first
    | (exfalso; omega)
    | (refine H _ ?_
       exact R.kn hkx hkK hw)
  · refine ⟨Bx.k M 0 (by decide) rfl, ?_⟩
    try rw [show hr h b 1 = b + 2 from Bx.r M 0 1 2 (by decide)]
    refine Bx.al M 2 24 20 (by decide) rfl (by decide) rfl (fun el15 => ?_)
    refine ⟨ir (by omega) (by omega), ir (by omega) (by omega), fun c16 => ?_, fun c16 => ?_⟩
    · refine ⟨Bx.k M 0 (by decide) rfl, ?_⟩
      try rw [show hr h b 1 = b + 2 from Bx.r M 0 1 2 (by decide)]
      refine Bx.ld M 2 24 (by decide) rfl rfl (by omega) (by omega) (fun er => ?_)
      try rw [er]
      clear er
      first
      | (exfalso; omega)
      | (refine H _ ?_
         exact R.kn hkx hkK hw)
    · first
      | (exfalso; omega)
      | (refine H _ ?_
         exact R.kn hkx hkK hw)
theorem S_X0_putKindNumber {d b : Nat} {h0 h : PH} {E : Nat → Int → Int} {Q : Int → PH → Prop} {X : Nat → PH → Prop} {k w v : Int} (M : Hx b h0 h E) (hkx : 0 ≤ k ∧ k < 8) (hw : 0 ≤ w ∧ w < 3) (H : ∀ (x : Int) h', x = (0) → Hx b h0 h' (dst E 2 (k * 3 + w) v) → Q x h') : RUN GQ (d + 1) m_X0_putKindNumber [pA b, pI k, pI w, pI v] h Q X := by
  rw [e_X0_putKindNumber]
  refine WP.of (RUN.mono GQ _) (cuts := []) (n := 400) (v_X0_putKindNumber_0 _ _ _ _ _ _ _ _ ?_)
  refine ⟨ir (by omega) (by omega), fun c9 => ?_, fun c9 => ?_⟩
  · first
    | (exfalso; omega)
    | (refine H _ _ ?_ ?_
       · first | rfl | omega
       · exact M)
  · refine ⟨Bx.k M 0 (by decide) rfl, ?_⟩
    try rw [show hr h b 1 = b + 2 from Bx.r M 0 1 2 (by decide)]
    refine Bx.al M 2 24 20 (by decide) rfl (by decide) rfl (fun el18 => ?_)
    refine ⟨ir (by omega) (by omega), ir (by omega) (by omega), fun c19 => ?_, fun c19 => ?_⟩
    · refine ⟨Bx.k M 0 (by decide) rfl, ?_⟩
      try rw [show hr h b 1 = b + 2 from Bx.r M 0 1 2 (by decide)]
      refine Bx.as M 2 24 (by decide) rfl rfl (by omega) (by omega) (fun h29 M29 => ?_)
      first
      | (exfalso; omega)
      | (refine H _ _ ?_ ?_
         · first | rfl | omega
         · exact M29)
    · first
      | (exfalso; omega)
      | (refine H _ _ ?_ ?_
         · first | rfl | omega
         · exact M)
theorem S_X0_tiredOf {d b : Nat} {h0 h : PH} {E : Nat → Int → Int} {Q : Int → PH → Prop} {X : Nat → PH → Prop} {C K P c N : Int} {s : Int → Int} {p k : Int} (M : Hx b h0 h E) (R : HR E C K s) (I : HI K P c N s) (hp : 0 ≤ p ∧ p < 6) (hkx : 0 ≤ k ∧ k < 8) (H : ∀ x : Int, x = (td s p k) → Q x h) : RUN GQ (d + 1) m_X0_tiredOf [pA b, pI p, pI k] h Q X := by
  rw [e_X0_tiredOf]
  refine WP.of (RUN.mono GQ _) (cuts := []) (n := 400) (v_X0_tiredOf_0 _ _ _ _ _ _ _ ?_)
  refine ⟨ir (by omega) (by omega), fun c8 => ?_, fun c8 => ?_⟩
  · first
    | (exfalso; omega)
    | (refine H _ ?_
       exact R.td hp hkx)
  · refine ⟨Bx.k M 0 (by decide) rfl, ?_⟩
    try rw [show hr h b 2 = b + 3 from Bx.r M 0 2 3 (by decide)]
    refine Bx.al M 3 48 20 (by decide) rfl (by decide) rfl (fun el16 => ?_)
    refine ⟨ir (by omega) (by omega), ir (by omega) (by omega), fun c17 => ?_, fun c17 => ?_⟩
    · refine ⟨Bx.k M 0 (by decide) rfl, ?_⟩
      try rw [show hr h b 2 = b + 3 from Bx.r M 0 2 3 (by decide)]
      refine Bx.ld M 3 48 (by decide) rfl rfl (by omega) (by omega) (fun er => ?_)
      try rw [er]
      clear er
      first
      | (exfalso; omega)
      | (refine H _ ?_
         exact R.td hp hkx)
    · first
      | (exfalso; omega)
      | (refine H _ ?_
         exact R.td hp hkx)
theorem S_X0_urgencyOf {d b : Nat} {h0 h : PH} {E : Nat → Int → Int} {Q : Int → PH → Prop} {X : Nat → PH → Prop} {C K P c N : Int} {s : Int → Int} {p k : Int} (M : Hx b h0 h E) (R : HR E C K s) (I : HI K P c N s) (hp : 0 ≤ p ∧ p < 6) (hkx : 0 ≤ k ∧ k < 8) (hkK : k < K) (H : ∀ x : Int, x = (ur s p k) → Q x h) : RUN GQ (d + 1) m_X0_urgencyOf [pA b, pI p, pI k] h Q X := by
  have u1 := I.ur hp hkx
  have r1 := R.td hp hkx
  have r2 := R.kn hkx hkK (w := 0) ⟨by omega, by omega⟩
  rw [e_X0_urgencyOf]
  refine WP.of (RUN.mono GQ _) (cuts := []) (n := 400) (v_X0_urgencyOf_0 _ _ _ _ _ _ _ ?_)
  refine ⟨ir (by first | omega | exact u1.2.1 | exact u1.2.2) (by first | omega | exact u1.2.1 | exact u1.2.2), fun c1 => ?_, fun c1 => ?_⟩
  · first
    | (exfalso; omega)
    | (refine H _ ?_
       unfold ur; split <;> omega)
  · refine ⟨ir (by first | omega | exact u1.2.1 | exact u1.2.2) (by first | omega | exact u1.2.1 | exact u1.2.2), ir (by first | omega | exact u1.2.1 | exact u1.2.2) (by first | omega | exact u1.2.1 | exact u1.2.2), fun c7 => ?_, fun c7 => ?_⟩
    · refine ⟨ir (by first | omega | exact u1.2.1 | exact u1.2.2) (by first | omega | exact u1.2.1 | exact u1.2.2), fun c11 => ?_, fun c11 => ?_⟩
      · first
        | (exfalso; omega)
        | (refine H _ ?_
           unfold ur; split <;> omega)
      · refine ⟨ir (by first | omega | exact u1.2.1 | exact u1.2.2) (by first | omega | exact u1.2.1 | exact u1.2.2), ir (by first | omega | exact u1.2.1 | exact u1.2.2) (by first | omega | exact u1.2.1 | exact u1.2.2), fun c17 => ?_, fun c17 => ?_⟩
        · refine ⟨Bx.k M 0 (by decide) rfl, ?_⟩
          try rw [show hr h b 1 = b + 2 from Bx.r M 0 1 2 (by decide)]
          refine Bx.ld M 2 24 (by decide) rfl rfl (by first | omega | exact u1.2.1 | exact u1.2.2) (by first | omega | exact u1.2.1 | exact u1.2.2) (fun er => ?_)
          try rw [er]
          clear er
          refine ⟨Bx.k M 0 (by decide) rfl, ?_⟩
          try rw [show hr h b 2 = b + 3 from Bx.r M 0 2 3 (by decide)]
          refine Bx.ld M 3 48 (by decide) rfl rfl (by first | omega | exact u1.2.1 | exact u1.2.2) (by first | omega | exact u1.2.1 | exact u1.2.2) (fun er => ?_)
          try rw [er]
          clear er
          rw [r1, r2]
          refine ⟨ir (by first | omega | exact u1.2.1 | exact u1.2.2) (by first | omega | exact u1.2.1 | exact u1.2.2), fun c46 => ?_, fun c46 => ?_⟩
          · first
            | (exfalso; omega)
            | (refine H _ ?_
               unfold ur; split <;> omega)
          · first
            | (exfalso; omega)
            | (refine H _ ?_
               unfold ur; split <;> omega)
        · first
          | (exfalso; omega)
          | (refine H _ ?_
             unfold ur; split <;> omega)
    · first
      | (exfalso; omega)
      | (refine H _ ?_
         unfold ur; split <;> omega)
theorem S_X0_maskOf {d b : Nat} {h0 h : PH} {E : Nat → Int → Int} {Q : Int → PH → Prop} {X : Nat → PH → Prop} {C K P c N : Int} {s : Int → Int} {p : Int} (M : Hx b h0 h E) (R : HR E C K s) (I : HI K P c N s) (hp : 0 ≤ p ∧ p < 6) (H : ∀ x : Int, x = (s (85 + p)) → Q x h) : RUN GQ (d + 1) m_X0_maskOf [pA b, pI p] h Q X := by
  rw [e_X0_maskOf]
  refine WP.of (RUN.mono GQ _) (cuts := []) (n := 400) (v_X0_maskOf_0 _ _ _ _ _ ?_)
  refine ⟨ir (by omega) (by omega), fun c1 => ?_, fun c1 => ?_⟩
  · first
    | (exfalso; omega)
    | (refine H _ ?_
       exact R.mk hp)
  · refine ⟨Bx.k M 0 (by decide) rfl, ?_⟩
    try rw [show hr h b 3 = b + 4 from Bx.r M 0 3 4 (by decide)]
    refine Bx.al M 4 6 20 (by decide) rfl (by decide) rfl (fun el9 => ?_)
    refine ⟨ir (by omega) (by omega), ir (by omega) (by omega), fun c10 => ?_, fun c10 => ?_⟩
    · refine ⟨Bx.k M 0 (by decide) rfl, ?_⟩
      try rw [show hr h b 3 = b + 4 from Bx.r M 0 3 4 (by decide)]
      refine Bx.ld M 4 6 (by decide) rfl rfl (by omega) (by omega) (fun er => ?_)
      try rw [er]
      clear er
      first
      | (exfalso; omega)
      | (refine H _ ?_
         exact R.mk hp)
    · first
      | (exfalso; omega)
      | (refine H _ ?_
         exact R.mk hp)
theorem S_X0_isMasked {d b : Nat} {h0 h : PH} {E : Nat → Int → Int} {Q : Int → PH → Prop} {X : Nat → PH → Prop} {C K P c N : Int} {s : Int → Int} {p k : Int} (M : Hx b h0 h E) (R : HR E C K s) (I : HI K P c N s) (hp : 0 ≤ p ∧ p < 6) (H : ∀ x : Int, x = (msk s p k) → Q x h) : RUN GQ (d + 2) m_X0_isMasked [pA b, pI p, pI k] h Q X := by
  have hb1 := band_InR (bshr (s (85 + p)) k) 1
  have hb2 := band1 (bshr (s (85 + p)) k)
  rw [e_X0_isMasked]
  refine WP.of (RUN.mono GQ _) (cuts := []) (n := 400) (v_X0_isMasked_0 _ _ _ _ _ _ ?_)
  refine ⟨Bx.k M 0 (by decide) rfl, ?_⟩
  refine S_X0_maskOf M R I (by first | omega | exact hb1.1 | exact hb1.2) (fun x2 e2 => ?_)
  subst e2
  refine ⟨ir (by first | omega | exact hb1.1 | exact hb1.2) (by first | omega | exact hb1.1 | exact hb1.2), fun c9 => ?_, fun c9 => ?_⟩
  · refine ⟨(by omega), ?_⟩
    refine H _ ?_
    unfold msk; split <;> omega
  · refine ⟨(by omega), ?_⟩
    refine H _ ?_
    unfold msk; split <;> omega
theorem S_X0_putMask {d b : Nat} {h0 h : PH} {E : Nat → Int → Int} {Q : Int → PH → Prop} {X : Nat → PH → Prop} {p k z : Int} (M : Hx b h0 h E) (hp : 0 ≤ p ∧ p < 6) (hz : z = 0 ∨ z = 1) (H : ∀ (x : Int) h', x = (0) → Hx b h0 h' (dst E 4 p (if z = 0 then band (E 4 p) (bxor (bshl 1 k) (-1)) else bor (E 4 p) (bshl 1 k))) → Q x h') : RUN GQ (d + 1) m_X0_putMask [pA b, pI p, pI k, pI z] h Q X := by
  rw [e_X0_putMask]
  refine WP.of (RUN.mono GQ _) (cuts := []) (n := 400) (v_X0_putMask_0 _ _ _ _ _ _ _ _ ?_)
  refine ⟨ir (by omega) (by omega), fun c1 => ?_, fun c1 => ?_⟩
  · first
    | (exfalso; omega)
    | (refine H _ _ rfl (M.cast ?_)
       first | rw [if_pos c24] | rw [if_neg c24])
  · refine ⟨Bx.k M 0 (by decide) rfl, ?_⟩
    try rw [show hr h b 3 = b + 4 from Bx.r M 0 3 4 (by decide)]
    refine Bx.al M 4 6 20 (by decide) rfl (by decide) rfl (fun el9 => ?_)
    refine ⟨ir (by omega) (by omega), ir (by omega) (by omega), fun c10 => ?_, fun c10 => ?_⟩
    · refine ⟨Bx.k M 0 (by decide) rfl, ?_⟩
      try rw [show hr h b 3 = b + 4 from Bx.r M 0 3 4 (by decide)]
      refine ⟨ir (by omega) (by omega), fun c24 => ?_, fun c24 => ?_⟩
      · refine ⟨Bx.k M 0 (by decide) rfl, ?_⟩
        try rw [show hr h b 3 = b + 4 from Bx.r M 0 3 4 (by decide)]
        refine Bx.ld M 4 6 (by decide) rfl rfl (by omega) (by omega) (fun er => ?_)
        try rw [er]
        clear er
        refine Bx.as M 4 6 (by decide) rfl rfl (by omega) (by omega) (fun h50 M50 => ?_)
        first
        | (exfalso; omega)
        | (refine H _ _ rfl (M50.cast ?_)
           first | rw [if_pos c24] | rw [if_neg c24])
      · refine ⟨Bx.k M 0 (by decide) rfl, ?_⟩
        try rw [show hr h b 3 = b + 4 from Bx.r M 0 3 4 (by decide)]
        refine Bx.ld M 4 6 (by decide) rfl rfl (by omega) (by omega) (fun er => ?_)
        try rw [er]
        clear er
        refine Bx.as M 4 6 (by decide) rfl rfl (by omega) (by omega) (fun h50 M50 => ?_)
        first
        | (exfalso; omega)
        | (refine H _ _ rfl (M50.cast ?_)
           first | rw [if_pos c24] | rw [if_neg c24])
    · first
      | (exfalso; omega)
      | (refine H _ _ rfl (M.cast ?_)
         first | rw [if_pos c24] | rw [if_neg c24])
theorem S_X0_tally {d b : Nat} {h0 h : PH} {E : Nat → Int → Int} {Q : Int → PH → Prop} {X : Nat → PH → Prop} {C K P c N : Int} {s : Int → Int} {p w : Int} (M : Hx b h0 h E) (R : HR E C K s) (I : HI K P c N s) (hp : 0 ≤ p ∧ p < 6) (hw : 0 ≤ w ∧ w < 4) (H : ∀ x : Int, x = (s (91 + 4 * p + w)) → Q x h) : RUN GQ (d + 1) m_X0_tally [pA b, pI p, pI w] h Q X := by
  rw [e_X0_tally]
  refine WP.of (RUN.mono GQ _) (cuts := []) (n := 400) (v_X0_tally_0 _ _ _ _ _ _ _ ?_)
  refine ⟨ir (by omega) (by omega), fun c7 => ?_, fun c7 => ?_⟩
  · first
    | (exfalso; omega)
    | (refine H _ ?_
       exact R.ta hp hw)
  · refine ⟨Bx.k M 0 (by decide) rfl, ?_⟩
    try rw [show hr h b 4 = b + 5 from Bx.r M 0 4 5 (by decide)]
    refine Bx.al M 5 24 20 (by decide) rfl (by decide) rfl (fun el15 => ?_)
    refine ⟨ir (by omega) (by omega), ir (by omega) (by omega), fun c16 => ?_, fun c16 => ?_⟩
    · refine ⟨Bx.k M 0 (by decide) rfl, ?_⟩
      try rw [show hr h b 4 = b + 5 from Bx.r M 0 4 5 (by decide)]
      refine Bx.ld M 5 24 (by decide) rfl rfl (by omega) (by omega) (fun er => ?_)
      try rw [er]
      clear er
      first
      | (exfalso; omega)
      | (refine H _ ?_
         exact R.ta hp hw)
    · first
      | (exfalso; omega)
      | (refine H _ ?_
         exact R.ta hp hw)
theorem S_X0_addToTally {d b : Nat} {h0 h : PH} {E : Nat → Int → Int} {Q : Int → PH → Prop} {X : Nat → PH → Prop} {p w : Int} (M : Hx b h0 h E) (hp : 0 ≤ p ∧ p < 6) (hw : 0 ≤ w ∧ w < 4) (H : ∀ (x : Int) h', x = (0) → Hx b h0 h' (dst E 5 (p * 4 + w) (E 5 (p * 4 + w) + 1)) → Q x h') : RUN GQ (d + 1) m_X0_addToTally [pA b, pI p, pI w] h Q X := by
  rw [e_X0_addToTally]
  refine WP.of (RUN.mono GQ _) (cuts := []) (n := 400) (v_X0_addToTally_0 _ _ _ _ _ _ _ ?_)
  refine ⟨ir (by omega) (by omega), fun c7 => ?_, fun c7 => ?_⟩
  · first
    | (exfalso; omega)
    | (refine H _ _ ?_ ?_
       · first | rfl | omega
       · exact M)
  · refine ⟨Bx.k M 0 (by decide) rfl, ?_⟩
    try rw [show hr h b 4 = b + 5 from Bx.r M 0 4 5 (by decide)]
    refine Bx.al M 5 24 20 (by decide) rfl (by decide) rfl (fun el15 => ?_)
    refine ⟨ir (by omega) (by omega), ir (by omega) (by omega), fun c16 => ?_, fun c16 => ?_⟩
    · refine ⟨Bx.k M 0 (by decide) rfl, ?_⟩
      try rw [show hr h b 4 = b + 5 from Bx.r M 0 4 5 (by decide)]
      refine Bx.ld M 5 24 (by decide) rfl rfl (by omega) (by omega) (fun er => ?_)
      try rw [er]
      clear er
      refine Bx.as M 5 24 (by decide) rfl rfl (by omega) (by omega) (fun h28 M28 => ?_)
      first
      | (exfalso; omega)
      | (refine H _ _ ?_ ?_
         · first | rfl | omega
         · exact M28)
    · first
      | (exfalso; omega)
      | (refine H _ _ ?_ ?_
         · first | rfl | omega
         · exact M)
theorem S_X0_endedBy {d b : Nat} {h0 h : PH} {E : Nat → Int → Int} {Q : Int → PH → Prop} {X : Nat → PH → Prop} {C K P c N : Int} {s : Int → Int} {t : Int} (M : Hx b h0 h E) (R : HR E C K s) (I : HI K P c N s) (ht : 0 ≤ t ∧ t < 6) (H : ∀ x : Int, x = (s (4 + t)) → Q x h) : RUN GQ (d + 1) m_X0_endedBy [pA b, pI t] h Q X := by
  rw [e_X0_endedBy]
  refine WP.of (RUN.mono GQ _) (cuts := []) (n := 400) (v_X0_endedBy_0 _ _ _ _ _ ?_)
  refine ⟨ir (by omega) (by omega), fun c1 => ?_, fun c1 => ?_⟩
  · first
    | (exfalso; omega)
    | (refine H _ ?_
       exact R.ec ht)
  · refine ⟨Bx.k M 0 (by decide) rfl, ?_⟩
    try rw [show hr h b 7 = b + 12 from Bx.r M 0 7 12 (by decide)]
    refine Bx.al M 12 6 20 (by decide) rfl (by decide) rfl (fun el9 => ?_)
    refine ⟨ir (by omega) (by omega), ir (by omega) (by omega), fun c10 => ?_, fun c10 => ?_⟩
    · refine ⟨Bx.k M 0 (by decide) rfl, ?_⟩
      try rw [show hr h b 7 = b + 12 from Bx.r M 0 7 12 (by decide)]
      refine Bx.ld M 12 6 (by decide) rfl rfl (by omega) (by omega) (fun er => ?_)
      try rw [er]
      clear er
      first
      | (exfalso; omega)
      | (refine H _ ?_
         exact R.ec ht)
    · first
      | (exfalso; omega)
      | (refine H _ ?_
         exact R.ec ht)
theorem S_X0_told {d b : Nat} {h0 h : PH} {E : Nat → Int → Int} {Q : Int → PH → Prop} {X : Nat → PH → Prop} {C K P c N : Int} {s : Int → Int} (M : Hx b h0 h E) (R : HR E C K s) (I : HI K P c N s) (hN : N ≤ 2000000000) (H : ∀ x : Int, x = (tld s) → Q x h) : RUN GQ (d + 1) m_X0_told [pA b] h Q X := by
  have e2 := I.e2
  have f9 := R.fl.1
  rw [e_X0_told]
  refine WP.of (RUN.mono GQ _) (cuts := []) (n := 400) (v_X0_told_0 _ _ _ _ ?_)
  refine ⟨Bx.k M 0 (by decide) rfl, ?_⟩
  try rw [show hi h b 9 = _ from Bx.f9 M 0 (by decide)]
  refine ⟨ir (by omega) (by omega), ir (by omega) (by omega), fun c6 => ?_, fun c6 => ?_⟩
  · refine ⟨Bx.k M 0 (by decide) rfl, ?_⟩
    try rw [show hi h b 9 = _ from Bx.f9 M 0 (by decide)]
    refine H _ ?_
    unfold tld; split <;> omega
  · refine H _ ?_
    unfold tld; split <;> omega
theorem S_X0_endPart {d b : Nat} {h0 h : PH} {E : Nat → Int → Int} {Q : Int → PH → Prop} {X : Nat → PH → Prop} {C K P c N : Int} {s : Int → Int} {i w : Int} (M : Hx b h0 h E) (R : HR E C K s) (I : HI K P c N s) (hN : N ≤ 2000000000) (hix : 0 ≤ i ∧ i < s 2 ∧ i < 40) (hw : 0 ≤ w ∧ w < 5) (H : ∀ x : Int, x = (rv s (Int.tmod (s 2 - 1 - i) 40) w) → Q x h) : RUN GQ (d + 1) m_X0_endPart [pA b, pI i, pI w] h Q X := by
  have e2 := I.e2
  have f9 := R.fl.1
  have t4 := tm40 (x := s 2 - 1 - i) (by omega)
  rw [e_X0_endPart]
  refine WP.of (RUN.mono GQ _) (cuts := []) (n := 400) (v_X0_endPart_0 _ _ _ _ _ _ _ ?_)
  refine ⟨Bx.k M 0 (by decide) rfl, ?_⟩
  try rw [show hi h b 9 = _ from Bx.f9 M 0 (by decide)]
  rw [f9]
  refine ⟨ir (by omega) (by omega), ir (by omega) (by omega), (by omega), ?_⟩
  refine ⟨ir (by omega) (by omega), fun c17 => ?_, fun c17 => ?_⟩
  · first
    | (exfalso; omega)
    | (refine H _ ?_
       exact R.rv t4 (by rw [Int.tmod_eq_emod_of_nonneg (by omega)]; omega) hw)
  · refine ⟨Bx.k M 0 (by decide) rfl, ?_⟩
    try rw [show hr h b 8 = b + 13 from Bx.r M 0 8 13 (by decide)]
    refine Bx.al M 13 200 20 (by decide) rfl (by decide) rfl (fun el25 => ?_)
    refine ⟨ir (by omega) (by omega), ir (by omega) (by omega), fun c26 => ?_, fun c26 => ?_⟩
    · refine ⟨Bx.k M 0 (by decide) rfl, ?_⟩
      try rw [show hr h b 8 = b + 13 from Bx.r M 0 8 13 (by decide)]
      refine Bx.ld M 13 200 (by decide) rfl rfl (by omega) (by omega) (fun er => ?_)
      try rw [er]
      clear er
      first
      | (exfalso; omega)
      | (refine H _ ?_
         exact R.rv t4 (by rw [Int.tmod_eq_emod_of_nonneg (by omega)]; omega) hw)
    · first
      | (exfalso; omega)
      | (refine H _ ?_
         exact R.rv t4 (by rw [Int.tmod_eq_emod_of_nonneg (by omega)]; omega) hw)
theorem L_X0_toldEndOf_2 {d b : Nat} {h0 h : PH} {E : Nat → Int → Int} {Q : Int → PH → Prop} {X : Nat → PH → Prop} {C K P c N : Int} {s : Int → Int} {g : Int} (M : Hx b h0 h E) (R : HR E C K s) (I : HI K P c N s) (hN : N ≤ 2000000000) (hg : InR g) : ∀ (n : Nat) (i : Int), (0 ≤ i) → (i + n = tld s) → (∀ x : Int, x = tef s g n i → Q x h) → WP k_X0_toldEndOf [] (RUN GQ (d + 1)) 0 0 (d + 2) Q X 2 [some (pA b), some (pI g), some (pI i)] [] h 0 0 := by
  intro n
  induction n with
  | zero =>
    intro i hi0 hn0 H
    have e2 := I.e2
    have tl : 0 ≤ tld s ∧ tld s ≤ s 2 ∧ tld s ≤ 40 := by unfold tld; split <;> omega
    refine WP.of (RUN.mono GQ _) (cuts := [2]) (n := 400) (v_X0_toldEndOf_2 _ _ _ _ _ _ ?_)
    refine ⟨Bx.k M 0 (by decide) rfl, ?_⟩
    refine S_X0_told M R I (by omega) (fun x4 e4 => ?_)
    subst e4
    refine ⟨ir (by omega) (by omega), ir (by omega) (by omega), fun c7 => ?_, fun c7 => ?_⟩
    · exfalso; omega
    · exact H _ rfl
  | succ n ih =>
    intro i hi0 hn0 H
    have e2 := I.e2
    have tl : 0 ≤ tld s ∧ tld s ≤ s 2 ∧ tld s ≤ 40 := by unfold tld; split <;> omega
    have t4 := tm40 (x := s 2 - 1 - i) (by omega)
    have rr := I.hr (Int.tmod (s 2 - 1 - i) 40) t4.1 t4.2 (by rw [Int.tmod_eq_emod_of_nonneg (by omega)]; omega)
    have e1 := I.e1
    refine WP.of (RUN.mono GQ _) (cuts := [2]) (n := 400) (v_X0_toldEndOf_2 _ _ _ _ _ _ ?_)
    refine ⟨Bx.k M 0 (by decide) rfl, ?_⟩
    refine S_X0_told M R I (by omega) (fun x4 e4 => ?_)
    subst e4
    refine ⟨ir (by omega) (by omega), ir (by omega) (by omega), fun c7 => ?_, fun c7 => ?_⟩
    · refine ⟨Bx.k M 0 (by decide) rfl, ?_⟩
      refine S_X0_endPart M R I (by omega) (by omega) (by omega) (fun x13 e13 => ?_)
      subst e13
      refine ⟨ir (by omega) (by omega), ir (by omega) (by omega), fun c17 => ?_, fun c17 => ?_⟩
      · refine ⟨Bx.k M 0 (by decide) rfl, ?_⟩
        refine S_X0_endPart M R I (by omega) (by omega) (by omega) (fun x23 e23 => ?_)
        subst e23
        exact H _ (by rw [tef, if_pos c17])
      · refine ih _ (by omega) (by omega) ?_
        rw [tef, if_neg c17] at H
        exact H
    · exfalso; omega
theorem S_X0_toldEndOf {d b : Nat} {h0 h : PH} {E : Nat → Int → Int} {Q : Int → PH → Prop} {X : Nat → PH → Prop} {C K P c N : Int} {s : Int → Int} {g : Int} (M : Hx b h0 h E) (R : HR E C K s) (I : HI K P c N s) (hN : N ≤ 2000000000) (hg : InR g) (H : ∀ x : Int, x = (tef s g (tld s).toNat 0) → Q x h) : RUN GQ (d + 2) m_X0_toldEndOf [pA b, pI g] h Q X := by
  have e2 := I.e2
  have tl : 0 ≤ tld s ∧ tld s ≤ s 2 ∧ tld s ≤ 40 := by unfold tld; split <;> omega
  rw [e_X0_toldEndOf]
  refine WP.of (RUN.mono GQ _) (cuts := [2]) (n := 400) (v_X0_toldEndOf_0 _ _ _ _ _ _ ?_)
  refine L_X0_toldEndOf_2 M R I hN hg ((tld s).toNat) _ (by omega) (by omega) ?_
  exact H
theorem L_X0_areIdle_2 {d b : Nat} {h0 h : PH} {E : Nat → Int → Int} {Q : Int → PH → Prop} {X : Nat → PH → Prop} {C K P c N : Int} {s : Int → Int} {a z : Int} (M : Hx b h0 h E) (R : HR E C K s) (I : HI K P c N s) (ha : 0 ≤ a ∧ a ≤ z ∧ z ≤ 6) : ∀ (n : Nat) (p : Int), (0 ≤ p) → (p + n = z) → (∀ x : Int, x = idl s n p → Q x h) → WP k_X0_areIdle [] (RUN GQ (d + 1)) 0 0 (d + 2) Q X 2 [some (pA b), some (pI a), some (pI z), some (pI p)] [] h 0 0 := by
  intro n
  induction n with
  | zero =>
    intro p hp0 hn0 H
    refine WP.of (RUN.mono GQ _) (cuts := [2]) (n := 400) (v_X0_areIdle_2 _ _ _ _ _ _ _ ?_)
    refine ⟨ir (by omega) (by omega), ir (by omega) (by omega), fun c4 => ?_, fun c4 => ?_⟩
    · exfalso; omega
    · refine ⟨(by omega), ?_⟩
      exact H _ rfl
  | succ n ih =>
    intro p hp0 hn0 H
    have hp : 0 ≤ p ∧ p < 6 := by omega
    have q1 := I.qn hp
    have q2 := I.sn hp
    have q3 := I.hq.1
    refine WP.of (RUN.mono GQ _) (cuts := [2]) (n := 400) (v_X0_areIdle_2 _ _ _ _ _ _ _ ?_)
    refine ⟨ir (by omega) (by omega), ir (by omega) (by omega), fun c4 => ?_, fun c4 => ?_⟩
    · refine ⟨Bx.k M 0 (by decide) rfl, ?_⟩
      try rw [show hr h b 5 = b + 6 from Bx.r M 0 5 6 (by decide)]
      refine ⟨Bx.k M 6 (by decide) rfl, ?_⟩
      refine S_X1_sizeOf_qR M R I (by omega) (fun x12 e12 => ?_)
      subst e12
      refine ⟨ir (by omega) (by omega), fun c15 => ?_, fun c15 => ?_⟩
      · refine ⟨(by omega), ?_⟩
        exact H _ (by rw [idl, if_pos (by omega)])
      · refine ⟨Bx.k M 0 (by decide) rfl, ?_⟩
        try rw [show hr h b 6 = b + 9 from Bx.r M 0 6 9 (by decide)]
        refine ⟨Bx.k M 9 (by decide) rfl, ?_⟩
        refine S_X1_sizeOf_sR M R I (by omega) (fun x23 e23 => ?_)
        subst e23
        refine ⟨ir (by omega) (by omega), fun c26 => ?_, fun c26 => ?_⟩
        · refine ⟨(by omega), ?_⟩
          exact H _ (by rw [idl, if_pos (by omega)])
        · refine ih _ (by omega) (by omega) ?_
          rw [idl, if_neg (by omega)] at H
          exact H
    · exfalso; omega
theorem S_X0_areIdle {d b : Nat} {h0 h : PH} {E : Nat → Int → Int} {Q : Int → PH → Prop} {X : Nat → PH → Prop} {C K P c N : Int} {s : Int → Int} {a z : Int} (M : Hx b h0 h E) (R : HR E C K s) (I : HI K P c N s) (ha : 0 ≤ a ∧ a ≤ z ∧ z ≤ 6) (H : ∀ x : Int, x = (idl s (z - a).toNat a) → Q x h) : RUN GQ (d + 2) m_X0_areIdle [pA b, pI a, pI z] h Q X := by
  rw [e_X0_areIdle]
  refine WP.of (RUN.mono GQ _) (cuts := [2]) (n := 400) (v_X0_areIdle_0 _ _ _ _ _ _ _ ?_)
  refine L_X0_areIdle_2 M R I ha ((z - a).toNat) _ (by omega) (by omega) ?_
  exact H
