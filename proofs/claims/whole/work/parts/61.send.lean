/-! the model's sending (written by wip/whole/tools/eng.py) -/
section VCS
variable {call : PC} {mc ms fr : Nat} {Q : Int → PH → Prop} {X : Nat → PH → Prop} {K : PK}
set_option maxRecDepth 100000 in
theorem v_X7_sends_0 (a0 : Nat) (i1 : Int) (i2 : Int) (i3 : Int) (i4 : Int) (z5 : Option PV) (h : PH) (c s : Nat) (H : hk h a0 = 8 ∧ (hk h (hr h a0 11) = 20 ∨ hk h (hr h a0 11) = 26) ∧ (0 ≤ (115 + i1) ∧ (115 + i1) < (hl h (hr h a0 11) : Int)) ∧ hk h a0 = 8 ∧ hk h a0 = 8 ∧ (hk h (hr h a0 11) = 20 ∨ hk h (hr h a0 11) = 26) ∧ (0 ≤ (1 : Int) ∧ (1 : Int) < (hl h (hr h a0 11) : Int)) ∧ hk h (hr h a0 11) = 20 ∧ (0 ≤ ((121 + (5 * ((13 * i1) + (hi h (hr h a0 11) (Int.toNat ((115 + i1))))))) + 0) ∧ ((121 + (5 * ((13 * i1) + (hi h (hr h a0 11) (Int.toNat ((115 + i1))))))) + 0) < (hl h (hr h a0 11) : Int)) ∧ ∀ h1, h1 = hsi h (hr h a0 11) (Int.toNat (((121 + (5 * ((13 * i1) + (hi h (hr h a0 11) (Int.toNat ((115 + i1))))))) + 0))) (hi h (hr h a0 11) (Int.toNat (1 : Int))) →
 hk h1 a0 = 8 ∧ hk h1 (hr h1 a0 11) = 20 ∧ (0 ≤ ((121 + (5 * ((13 * i1) + (hi h (hr h a0 11) (Int.toNat ((115 + i1))))))) + 1) ∧ ((121 + (5 * ((13 * i1) + (hi h (hr h a0 11) (Int.toNat ((115 + i1))))))) + 1) < (hl h1 (hr h1 a0 11) : Int)) ∧ ∀ h2, h2 = hsi h1 (hr h1 a0 11) (Int.toNat (((121 + (5 * ((13 * i1) + (hi h (hr h a0 11) (Int.toNat ((115 + i1))))))) + 1))) i2 →
 hk h2 a0 = 8 ∧ hk h2 (hr h2 a0 11) = 20 ∧ (0 ≤ ((121 + (5 * ((13 * i1) + (hi h (hr h a0 11) (Int.toNat ((115 + i1))))))) + 2) ∧ ((121 + (5 * ((13 * i1) + (hi h (hr h a0 11) (Int.toNat ((115 + i1))))))) + 2) < (hl h2 (hr h2 a0 11) : Int)) ∧ ∀ h3, h3 = hsi h2 (hr h2 a0 11) (Int.toNat (((121 + (5 * ((13 * i1) + (hi h (hr h a0 11) (Int.toNat ((115 + i1))))))) + 2))) i4 →
 hk h3 a0 = 8 ∧ hk h3 (hr h3 a0 11) = 20 ∧ (0 ≤ ((121 + (5 * ((13 * i1) + (hi h (hr h a0 11) (Int.toNat ((115 + i1))))))) + 3) ∧ ((121 + (5 * ((13 * i1) + (hi h (hr h a0 11) (Int.toNat ((115 + i1))))))) + 3) < (hl h3 (hr h3 a0 11) : Int)) ∧ ∀ h4, h4 = hsi h3 (hr h3 a0 11) (Int.toNat (((121 + (5 * ((13 * i1) + (hi h (hr h a0 11) (Int.toNat ((115 + i1))))))) + 3))) i3 →
 hk h4 a0 = 8 ∧ hk h4 a0 = 8 ∧ (hk h4 (hr h4 a0 11) = 20 ∨ hk h4 (hr h4 a0 11) = 26) ∧ (0 ≤ (0 : Int) ∧ (0 : Int) < (hl h4 (hr h4 a0 11) : Int)) ∧ hk h4 (hr h4 a0 11) = 20 ∧ (0 ≤ ((121 + (5 * ((13 * i1) + (hi h (hr h a0 11) (Int.toNat ((115 + i1))))))) + 4) ∧ ((121 + (5 * ((13 * i1) + (hi h (hr h a0 11) (Int.toNat ((115 + i1))))))) + 4) < (hl h4 (hr h4 a0 11) : Int)) ∧ ∀ h5, h5 = hsi h4 (hr h4 a0 11) (Int.toNat (((121 + (5 * ((13 * i1) + (hi h (hr h a0 11) (Int.toNat ((115 + i1))))))) + 4))) (hi h4 (hr h4 a0 11) (Int.toNat (0 : Int))) →
 hk h5 a0 = 8 ∧ (hk h5 (hr h5 a0 11) = 20 ∨ hk h5 (hr h5 a0 11) = 26) ∧ (0 ≤ (115 + i1) ∧ (115 + i1) < (hl h5 (hr h5 a0 11) : Int)) ∧ hk h5 (hr h5 a0 11) = 20 ∧ (0 ≤ (115 + i1) ∧ (115 + i1) < (hl h5 (hr h5 a0 11) : Int)) ∧ ∀ h6, h6 = hsi h5 (hr h5 a0 11) (Int.toNat ((115 + i1))) ((hi h5 (hr h5 a0 11) (Int.toNat ((115 + i1)))) + 1) →
 hk h6 a0 = 8 ∧ (hk h6 (hr h6 a0 11) = 20 ∨ hk h6 (hr h6 a0 11) = 26) ∧ (0 ≤ (1 : Int) ∧ (1 : Int) < (hl h6 (hr h6 a0 11) : Int)) ∧ hk h6 (hr h6 a0 11) = 20 ∧ (0 ≤ (1 : Int) ∧ (1 : Int) < (hl h6 (hr h6 a0 11) : Int)) ∧ ∀ h7, h7 = hsi h6 (hr h6 a0 11) (Int.toNat (1 : Int)) ((hi h6 (hr h6 a0 11) (Int.toNat (1 : Int))) + 1) →
 hk h7 a0 = 8 ∧ call m_X7_counts [pA a0, pI i1, pI 0] h7 (fun _ h8 =>
 InR i4 ∧ InR ((-1)) ∧ (i4 = ((-1)) →
 hk h8 a0 = 8 ∧ (hk h8 (hr h8 a0 11) = 20 ∨ hk h8 (hr h8 a0 11) = 26) ∧ (0 ≤ (115 + i1) ∧ (115 + i1) < (hl h8 (hr h8 a0 11) : Int)) ∧ hk h8 a0 = 8 ∧ InR (hi h8 (hr h8 a0 11) (Int.toNat ((115 + i1)))) ∧ InR (hi h8 a0 2) ∧ ((hi h8 a0 2) < (hi h8 (hr h8 a0 11) (Int.toNat ((115 + i1)))) →
 hk h8 a0 = 8 ∧ (hk h8 (hr h8 a0 11) = 20 ∨ hk h8 (hr h8 a0 11) = 26) ∧ (0 ≤ (115 + i1) ∧ (115 + i1) < (hl h8 (hr h8 a0 11) : Int)) ∧ hk h8 a0 = 8 ∧ call m_X7_placeOf [pA a0, pI i1, pI ((hi h8 (hr h8 a0 11) (Int.toNat ((115 + i1)))) - 1)] h8 (fun x9 h9 =>
 hk h9 a0 = 8 ∧ call m_X7_endsInQueue [pA a0, pI i1, pI x9, pI 3] h9 (fun _ h10 =>
 Q 0 h10) X) X) ∧
((hi h8 (hr h8 a0 11) (Int.toNat ((115 + i1)))) ≤ (hi h8 a0 2) →
 Q 0 h8)) ∧
(i4 ≠ ((-1)) →
 hk h8 a0 = 8 ∧ call m_X7_counts [pA a0, pI i4, pI 1] h8 (fun _ h11 =>
 hk h11 a0 = 8 ∧ (hk h11 (hr h11 a0 11) = 20 ∨ hk h11 (hr h11 a0 11) = 26) ∧ (0 ≤ (115 + i1) ∧ (115 + i1) < (hl h11 (hr h11 a0 11) : Int)) ∧ hk h11 a0 = 8 ∧ InR (hi h11 (hr h11 a0 11) (Int.toNat ((115 + i1)))) ∧ InR (hi h11 a0 2) ∧ ((hi h11 a0 2) < (hi h11 (hr h11 a0 11) (Int.toNat ((115 + i1)))) →
 hk h11 a0 = 8 ∧ (hk h11 (hr h11 a0 11) = 20 ∨ hk h11 (hr h11 a0 11) = 26) ∧ (0 ≤ (115 + i1) ∧ (115 + i1) < (hl h11 (hr h11 a0 11) : Int)) ∧ hk h11 a0 = 8 ∧ call m_X7_placeOf [pA a0, pI i1, pI ((hi h11 (hr h11 a0 11) (Int.toNat ((115 + i1)))) - 1)] h11 (fun x12 h12 =>
 hk h12 a0 = 8 ∧ call m_X7_endsInQueue [pA a0, pI i1, pI x12, pI 3] h12 (fun _ h13 =>
 Q 0 h13) X) X) ∧
((hi h11 (hr h11 a0 11) (Int.toNat ((115 + i1)))) ≤ (hi h11 a0 2) →
 Q 0 h11)) X)) X) : wpc k_X7_sends [] call mc ms fr Q X [] K 400 (pto 0 k_X7_sends) [some (pA a0), some (pI i1), some (pI i2), some (pI i3), some (pI i4), z5] [] h c s :=
  H
set_option maxRecDepth 100000 in
theorem v_X7_drops_0 (a0 : Nat) (i1 : Int) (i2 : Int) (z3 : Option PV) (z4 : Option PV) (h : PH) (c s : Nat) (H : K 5 [some (pA a0), some (pI i1), some (pI i2), some (pI 0), some (pI 0)] [] h c s) : wpc k_X7_drops [] call mc ms fr Q X [5] K 400 (pto 0 k_X7_drops) [some (pA a0), some (pI i1), some (pI i2), z3, z4] [] h c s :=
  H
set_option maxRecDepth 100000 in
theorem v_X7_drops_5 (a0 : Nat) (i1 : Int) (i2 : Int) (i3 : Int) (i4 : Int) (h : PH) (c s : Nat) (H : hk h a0 = 8 ∧ (hk h (hr h a0 11) = 20 ∨ hk h (hr h a0 11) = 26) ∧ (0 ≤ (115 + i1) ∧ (115 + i1) < (hl h (hr h a0 11) : Int)) ∧ InR i4 ∧ InR (hi h (hr h a0 11) (Int.toNat ((115 + i1)))) ∧ (i4 < (hi h (hr h a0 11) (Int.toNat ((115 + i1)))) →
 InR i2 ∧ InR ((-1)) ∧ (i2 = ((-1)) →
 hk h a0 = 8 ∧ call m_X7_endsInQueue [pA a0, pI i1, pI i4, pI 5] h (fun _ h1 =>
 K 5 [some (pA a0), some (pI i1), some (pI i2), some (pI (i3 + 1)), some (pI i4)] [] h1 c s) X) ∧
(i2 ≠ ((-1)) →
 hk h a0 = 8 ∧ call m_X7_inQueue [pA a0, pI i1, pI i4, pI 1] h (fun x2 h2 =>
 InR x2 ∧ InR i2 ∧ (x2 = i2 →
 hk h2 a0 = 8 ∧ call m_X7_endsInQueue [pA a0, pI i1, pI i4, pI 5] h2 (fun _ h3 =>
 K 5 [some (pA a0), some (pI i1), some (pI i2), some (pI (i3 + 1)), some (pI i4)] [] h3 c s) X) ∧
(x2 ≠ i2 →
 K 5 [some (pA a0), some (pI i1), some (pI i2), some (pI i3), some (pI (i4 + 1))] [] h2 c s)) X)) ∧
((hi h (hr h a0 11) (Int.toNat ((115 + i1)))) ≤ i4 →
 Q i3 h)) : wpc k_X7_drops [] call mc ms fr Q X [5] K 400 (pto 5 k_X7_drops) [some (pA a0), some (pI i1), some (pI i2), some (pI i3), some (pI i4)] [] h c s :=
  H
set_option maxRecDepth 100000 in
theorem v_X7_ages_0 (a0 : Nat) (i1 : Int) (z2 : Option PV) (h : PH) (c s : Nat) (H : K 2 [some (pA a0), some (pI i1), some (pI 0)] [] h c s) : wpc k_X7_ages [] call mc ms fr Q X [2] K 400 (pto 0 k_X7_ages) [some (pA a0), some (pI i1), z2] [] h c s :=
  H
set_option maxRecDepth 100000 in
theorem v_X7_ages_2 (a0 : Nat) (i1 : Int) (i2 : Int) (h : PH) (c s : Nat) (H : hk h a0 = 8 ∧ (hk h (hr h a0 11) = 20 ∨ hk h (hr h a0 11) = 26) ∧ (0 ≤ (115 + i1) ∧ (115 + i1) < (hl h (hr h a0 11) : Int)) ∧ InR i2 ∧ InR (hi h (hr h a0 11) (Int.toNat ((115 + i1)))) ∧ (i2 < (hi h (hr h a0 11) (Int.toNat ((115 + i1)))) →
 hk h a0 = 8 ∧ (hk h (hr h a0 11) = 20 ∨ hk h (hr h a0 11) = 26) ∧ (0 ≤ (0 : Int) ∧ (0 : Int) < (hl h (hr h a0 11) : Int)) ∧ hk h a0 = 8 ∧ call m_X7_inQueue [pA a0, pI i1, pI i2, pI 4] h (fun x1 h1 =>
 hk h1 a0 = 8 ∧ call m_X7_inQueue [pA a0, pI i1, pI i2, pI 1] h1 (fun x2 h2 =>
 hk h2 a0 = 8 ∧ call m_X7_ofKind [pA a0, pI x2, pI 2] h2 (fun x3 h3 =>
 InR ((hi h (hr h a0 11) (Int.toNat (0 : Int))) - x1) ∧ InR x3 ∧ (((hi h (hr h a0 11) (Int.toNat (0 : Int))) - x1) < x3 →
 K 2 [some (pA a0), some (pI i1), some (pI (i2 + 1))] [] h3 c s) ∧
(x3 ≤ ((hi h (hr h a0 11) (Int.toNat (0 : Int))) - x1) →
 hk h3 a0 = 8 ∧ call m_X7_endsInQueue [pA a0, pI i1, pI i2, pI 2] h3 (fun _ h4 =>
 K 2 [some (pA a0), some (pI i1), some (pI i2)] [] h4 c s) X)) X) X) X) ∧
((hi h (hr h a0 11) (Int.toNat ((115 + i1)))) ≤ i2 →
 Q 0 h)) : wpc k_X7_ages [] call mc ms fr Q X [2] K 400 (pto 2 k_X7_ages) [some (pA a0), some (pI i1), some (pI i2)] [] h c s :=
  H
set_option maxRecDepth 100000 in
theorem v_X7_nextOf_0 (a0 : Nat) (i1 : Int) (z2 : Option PV) (z3 : Option PV) (z4 : Option PV) (h : PH) (c s : Nat) (H : K 4 [some (pA a0), some (pI i1), some (pI ((-1))), some (pI 0), z4] [] h c s) : wpc k_X7_nextOf [] call mc ms fr Q X [4] K 400 (pto 0 k_X7_nextOf) [some (pA a0), some (pI i1), z2, z3, z4] [] h c s :=
  H
set_option maxRecDepth 100000 in
theorem v_X7_nextOf_4 (a0 : Nat) (i1 : Int) (i2 : Int) (i3 : Int) (z4 : Option PV) (h : PH) (c s : Nat) (H : hk h a0 = 8 ∧ (hk h (hr h a0 11) = 20 ∨ hk h (hr h a0 11) = 26) ∧ (0 ≤ (115 + i1) ∧ (115 + i1) < (hl h (hr h a0 11) : Int)) ∧ InR i3 ∧ InR (hi h (hr h a0 11) (Int.toNat ((115 + i1)))) ∧ (i3 < (hi h (hr h a0 11) (Int.toNat ((115 + i1)))) →
 hk h a0 = 8 ∧ call m_X7_inQueue [pA a0, pI i1, pI i3, pI 1] h (fun x1 h1 =>
 hk h1 a0 = 8 ∧ call m_X7_isMasked [pA a0, pI i1, pI x1] h1 (fun x2 h2 =>
 InR x2 ∧ (x2 = 0 →
 InR i2 ∧ InR ((-1)) ∧ (i2 = ((-1)) →
 InR 1 ∧ ((1 : Int) = 0 →
 K 4 [some (pA a0), some (pI i1), some (pI i2), some (pI (i3 + 1)), some (pI 1)] [] h2 c s) ∧
((1 : Int) ≠ 0 →
 K 4 [some (pA a0), some (pI i1), some (pI i3), some (pI (i3 + 1)), some (pI 1)] [] h2 c s)) ∧
(i2 ≠ ((-1)) →
 hk h2 a0 = 8 ∧ call m_X7_isAhead [pA a0, pI i1, pI i3, pI i2] h2 (fun x3 h3 =>
 InR x3 ∧ (x3 = 0 →
 InR 0 ∧ ((0 : Int) = 0 →
 K 4 [some (pA a0), some (pI i1), some (pI i2), some (pI (i3 + 1)), some (pI 0)] [] h3 c s) ∧
((0 : Int) ≠ 0 →
 K 4 [some (pA a0), some (pI i1), some (pI i3), some (pI (i3 + 1)), some (pI 0)] [] h3 c s)) ∧
(x3 ≠ 0 →
 InR 1 ∧ ((1 : Int) = 0 →
 K 4 [some (pA a0), some (pI i1), some (pI i2), some (pI (i3 + 1)), some (pI 1)] [] h3 c s) ∧
((1 : Int) ≠ 0 →
 K 4 [some (pA a0), some (pI i1), some (pI i3), some (pI (i3 + 1)), some (pI 1)] [] h3 c s))) X)) ∧
(x2 ≠ 0 →
 InR 0 ∧ ((0 : Int) = 0 →
 K 4 [some (pA a0), some (pI i1), some (pI i2), some (pI (i3 + 1)), some (pI 0)] [] h2 c s) ∧
((0 : Int) ≠ 0 →
 K 4 [some (pA a0), some (pI i1), some (pI i3), some (pI (i3 + 1)), some (pI 0)] [] h2 c s))) X) X) ∧
((hi h (hr h a0 11) (Int.toNat ((115 + i1)))) ≤ i3 →
 Q i2 h)) : wpc k_X7_nextOf [] call mc ms fr Q X [4] K 400 (pto 4 k_X7_nextOf) [some (pA a0), some (pI i1), some (pI i2), some (pI i3), z4] [] h c s :=
  H
set_option maxRecDepth 100000 in
theorem v_X7_mayBegin_0 (a0 : Nat) (i1 : Int) (i2 : Int) (z3 : Option PV) (h : PH) (c s : Nat) (H : hk h a0 = 8 ∧ (hk h (hr h a0 11) = 20 ∨ hk h (hr h a0 11) = 26) ∧ (0 ≤ (511 + i1) ∧ (511 + i1) < (hl h (hr h a0 11) : Int)) ∧ InR (hi h (hr h a0 11) (Int.toNat ((511 + i1)))) ∧ ((hi h (hr h a0 11) (Int.toNat ((511 + i1)))) = 0 →
 ((1 : Int) = 0 ∨ (1 : Int) = 1) ∧ Q 1 h) ∧
((hi h (hr h a0 11) (Int.toNat ((511 + i1)))) ≠ 0 →
 hk h a0 = 8 ∧ call m_X7_onStack [pA a0, pI i1, pI ((hi h (hr h a0 11) (Int.toNat ((511 + i1)))) - 1), pI 2] h (fun x1 h1 =>
 hk h1 a0 = 8 ∧ (hk h1 (hr h1 a0 11) = 20 ∨ hk h1 (hr h1 a0 11) = 26) ∧ (0 ≤ (11 : Int) ∧ (11 : Int) < (hl h1 (hr h1 a0 11) : Int)) ∧ InR i2 ∧ InR (x1 + (hi h1 (hr h1 a0 11) (Int.toNat (11 : Int)))) ∧ ((x1 + (hi h1 (hr h1 a0 11) (Int.toNat (11 : Int)))) < i2 →
 hk h1 a0 = 8 ∧ (hk h1 (hr h1 a0 11) = 20 ∨ hk h1 (hr h1 a0 11) = 26) ∧ (0 ≤ (10 : Int) ∧ (10 : Int) < (hl h1 (hr h1 a0 11) : Int)) ∧ InR (hi h (hr h a0 11) (Int.toNat ((511 + i1)))) ∧ InR (hi h1 (hr h1 a0 11) (Int.toNat (10 : Int))) ∧ ((hi h (hr h a0 11) (Int.toNat ((511 + i1)))) < (hi h1 (hr h1 a0 11) (Int.toNat (10 : Int))) →
 ((1 : Int) = 0 ∨ (1 : Int) = 1) ∧ Q 1 h1) ∧
((hi h1 (hr h1 a0 11) (Int.toNat (10 : Int))) ≤ (hi h (hr h a0 11) (Int.toNat ((511 + i1)))) →
 ((0 : Int) = 0 ∨ (0 : Int) = 1) ∧ Q 0 h1)) ∧
(i2 ≤ (x1 + (hi h1 (hr h1 a0 11) (Int.toNat (11 : Int)))) →
 ((0 : Int) = 0 ∨ (0 : Int) = 1) ∧ Q 0 h1)) X)) : wpc k_X7_mayBegin [] call mc ms fr Q X [] K 400 (pto 0 k_X7_mayBegin) [some (pA a0), some (pI i1), some (pI i2), z3] [] h c s :=
  H
set_option maxRecDepth 100000 in
theorem v_X7_stacks_0 (a0 : Nat) (i1 : Int) (i2 : Int) (i3 : Int) (i4 : Int) (z5 : Option PV) (h : PH) (c s : Nat) (H : hk h a0 = 8 ∧ (hk h (hr h a0 11) = 20 ∨ hk h (hr h a0 11) = 26) ∧ (0 ≤ (511 + i1) ∧ (511 + i1) < (hl h (hr h a0 11) : Int)) ∧ hk h a0 = 8 ∧ hk h a0 = 8 ∧ call m_X7_inQueue [pA a0, pI i1, pI i2, pI 0] h (fun x1 h1 =>
 hk h1 (hr h a0 11) = 20 ∧ (0 ≤ ((517 + (6 * ((4 * i1) + (hi h (hr h a0 11) (Int.toNat ((511 + i1))))))) + 0) ∧ ((517 + (6 * ((4 * i1) + (hi h (hr h a0 11) (Int.toNat ((511 + i1))))))) + 0) < (hl h1 (hr h a0 11) : Int)) ∧ ∀ h2, h2 = hsi h1 (hr h a0 11) (Int.toNat (((517 + (6 * ((4 * i1) + (hi h (hr h a0 11) (Int.toNat ((511 + i1))))))) + 0))) x1 →
 hk h2 a0 = 8 ∧ hk h2 a0 = 8 ∧ call m_X7_inQueue [pA a0, pI i1, pI i2, pI 1] h2 (fun x3 h3 =>
 hk h3 (hr h2 a0 11) = 20 ∧ (0 ≤ ((517 + (6 * ((4 * i1) + (hi h (hr h a0 11) (Int.toNat ((511 + i1))))))) + 1) ∧ ((517 + (6 * ((4 * i1) + (hi h (hr h a0 11) (Int.toNat ((511 + i1))))))) + 1) < (hl h3 (hr h2 a0 11) : Int)) ∧ ∀ h4, h4 = hsi h3 (hr h2 a0 11) (Int.toNat (((517 + (6 * ((4 * i1) + (hi h (hr h a0 11) (Int.toNat ((511 + i1))))))) + 1))) x3 →
 hk h4 a0 = 8 ∧ hk h4 (hr h4 a0 11) = 20 ∧ (0 ≤ ((517 + (6 * ((4 * i1) + (hi h (hr h a0 11) (Int.toNat ((511 + i1))))))) + 2) ∧ ((517 + (6 * ((4 * i1) + (hi h (hr h a0 11) (Int.toNat ((511 + i1))))))) + 2) < (hl h4 (hr h4 a0 11) : Int)) ∧ ∀ h5, h5 = hsi h4 (hr h4 a0 11) (Int.toNat (((517 + (6 * ((4 * i1) + (hi h (hr h a0 11) (Int.toNat ((511 + i1))))))) + 2))) i3 →
 hk h5 a0 = 8 ∧ hk h5 (hr h5 a0 11) = 20 ∧ (0 ≤ ((517 + (6 * ((4 * i1) + (hi h (hr h a0 11) (Int.toNat ((511 + i1))))))) + 3) ∧ ((517 + (6 * ((4 * i1) + (hi h (hr h a0 11) (Int.toNat ((511 + i1))))))) + 3) < (hl h5 (hr h5 a0 11) : Int)) ∧ ∀ h6, h6 = hsi h5 (hr h5 a0 11) (Int.toNat (((517 + (6 * ((4 * i1) + (hi h (hr h a0 11) (Int.toNat ((511 + i1))))))) + 3))) i4 →
 hk h6 a0 = 8 ∧ hk h6 a0 = 8 ∧ call m_X7_inQueue [pA a0, pI i1, pI i2, pI 3] h6 (fun x7 h7 =>
 hk h7 (hr h6 a0 11) = 20 ∧ (0 ≤ ((517 + (6 * ((4 * i1) + (hi h (hr h a0 11) (Int.toNat ((511 + i1))))))) + 4) ∧ ((517 + (6 * ((4 * i1) + (hi h (hr h a0 11) (Int.toNat ((511 + i1))))))) + 4) < (hl h7 (hr h6 a0 11) : Int)) ∧ ∀ h8, h8 = hsi h7 (hr h6 a0 11) (Int.toNat (((517 + (6 * ((4 * i1) + (hi h (hr h a0 11) (Int.toNat ((511 + i1))))))) + 4))) x7 →
 hk h8 a0 = 8 ∧ hk h8 a0 = 8 ∧ call m_X7_inQueue [pA a0, pI i1, pI i2, pI 4] h8 (fun x9 h9 =>
 hk h9 (hr h8 a0 11) = 20 ∧ (0 ≤ ((517 + (6 * ((4 * i1) + (hi h (hr h a0 11) (Int.toNat ((511 + i1))))))) + 5) ∧ ((517 + (6 * ((4 * i1) + (hi h (hr h a0 11) (Int.toNat ((511 + i1))))))) + 5) < (hl h9 (hr h8 a0 11) : Int)) ∧ ∀ h10, h10 = hsi h9 (hr h8 a0 11) (Int.toNat (((517 + (6 * ((4 * i1) + (hi h (hr h a0 11) (Int.toNat ((511 + i1))))))) + 5))) x9 →
 hk h10 a0 = 8 ∧ (hk h10 (hr h10 a0 11) = 20 ∨ hk h10 (hr h10 a0 11) = 26) ∧ (0 ≤ (511 + i1) ∧ (511 + i1) < (hl h10 (hr h10 a0 11) : Int)) ∧ hk h10 (hr h10 a0 11) = 20 ∧ (0 ≤ (511 + i1) ∧ (511 + i1) < (hl h10 (hr h10 a0 11) : Int)) ∧ ∀ h11, h11 = hsi h10 (hr h10 a0 11) (Int.toNat ((511 + i1))) ((hi h10 (hr h10 a0 11) (Int.toNat ((511 + i1)))) + 1) →
 hk h11 a0 = 8 ∧ call m_X7_leaves [pA a0, pI i1, pI i2] h11 (fun _ h12 =>
 Q 0 h12) X) X) X) X) X) : wpc k_X7_stacks [] call mc ms fr Q X [] K 400 (pto 0 k_X7_stacks) [some (pA a0), some (pI i1), some (pI i2), some (pI i3), some (pI i4), z5] [] h c s :=
  H
end VCS
theorem S_X7_sends {d b : Nat} {h0 h : PH} {D : Nat → Int → Int} {s : Int → Int} {Q : Int → PH → Prop} {X : Nat → PH → Prop} {N : Int} {p k v w : Int} (M : Md b h0 h D s) (I : HI (D 0 3) (D 0 4) (D 0 2) N s) (V : PIv D) (hN : N ≤ 1999500000) (hp : 0 ≤ p ∧ p < D 0 4) (hk : 0 ≤ k ∧ k < D 0 3) (hv : 0 ≤ v ∧ v < 1000) (hw : -1 ≤ w ∧ w < 6) (H : ∀ (x : Int) h', x = (0) → Md b h0 h' D (e_snd D s p k v w) → Q x h') : RUN GQ (d + 5) m_X7_sends [pA b, pI p, pI k, pI v, pI w] h Q X := by
  obtain ⟨v2, v3, v4, vh⟩ := id V
  have hp6 : 0 ≤ p ∧ p < 6 := by omega
  have q0 := I.qn hp6
  have ha : 121 ≤ 121 + 5 * (13 * p + s (115 + p)) ∧ 121 + 5 * (13 * p + s (115 + p)) ≤ 506 := by omega
  have I1 := snd0_HI (c' := D 0 2 + 1) (v := v) (b := w) I v3.1 v4 hp hk hv hw (by omega) (by omega) (fun q h1 h2 _ => by have := I.qn ⟨h1, h2⟩; omega) (by omega)
  have z1 := snd0_sz (s := s) (k := k) (v := v) hp6 hw ha
  rw [e_X7_sends]
  refine WP.of (RUN.mono GQ _) (cuts := []) (n := 400) (v_X7_sends_0 _ _ _ _ _ _ _ _ _ ?_)
  refine ⟨M.k0, ?_⟩
  try rw [M.r11]
  refine M.ld6 (by omega) (by omega) (fun er => ?_)
  try rw [er]
  clear er
  refine ⟨M.k0, ?_⟩
  try rw [M.r11]
  refine ⟨M.k0, ?_⟩
  try rw [M.r11]
  refine M.ld6 (by omega) (by omega) (fun er => ?_)
  try rw [er]
  clear er
  refine M.as6 (by omega) (by omega) (fun h35 M35 => ?_)
  refine ⟨M35.k0, ?_⟩
  try rw [M35.r11]
  refine M35.as6 (by omega) (by omega) (fun h45 M45 => ?_)
  refine ⟨M45.k0, ?_⟩
  try rw [M45.r11]
  refine M45.as6 (by omega) (by omega) (fun h56 M56 => ?_)
  refine ⟨M56.k0, ?_⟩
  try rw [M56.r11]
  refine M56.as6 (by omega) (by omega) (fun h66 M66 => ?_)
  refine ⟨M66.k0, ?_⟩
  try rw [M66.r11]
  refine ⟨M66.k0, ?_⟩
  try rw [M66.r11]
  refine M66.ld6 (by omega) (by omega) (fun er => ?_)
  try rw [er]
  clear er
  refine M66.as6 (by omega) (by omega) (fun h81 M81 => ?_)
  refine ⟨M81.k0, ?_⟩
  try rw [M81.r11]
  refine M81.ld6 (by omega) (by omega) (fun er => ?_)
  try rw [er]
  clear er
  refine M81.as6 (by omega) (by omega) (fun h94 M94 => ?_)
  refine ⟨M94.k0, ?_⟩
  try rw [M94.r11]
  refine M94.ld6 (by omega) (by omega) (fun er => ?_)
  try rw [er]
  clear er
  refine M94.as6 (by omega) (by omega) (fun h104 M104 => ?_)
  refine ⟨M104.k0, ?_⟩
  refine S_X7_counts M104 (by omega) (by omega) (fun x108 h108 e108 M108 => ?_)
  subst e108
  refine ⟨ir (by omega) (by omega), ir (by omega) (by omega), fun c114 => ?_, fun c114 => ?_⟩
  · have MM := Md.cast (s' := (e_snd0 s p k v w (121 + 5 * (13 * p + s (115 + p))))) M108 (by simp only [e_snd0]; first | rw [if_pos c114] | rw [if_neg c114])
    refine ⟨MM.k0, ?_⟩
    try rw [MM.r11]
    refine MM.ld6 (by omega) (by omega) (fun er => ?_)
    try rw [er]
    clear er
    refine ⟨MM.k0, ?_⟩
    try rw [MM.f2]
    refine ⟨ir (by omega) (by omega), ir (by omega) (by omega), fun c137 => ?_, fun c137 => ?_⟩
    · refine ⟨MM.k0, ?_⟩
      try rw [MM.r11]
      refine MM.ld6 (by omega) (by omega) (fun er => ?_)
      try rw [er]
      clear er
      refine ⟨MM.k0, ?_⟩
      refine S_X7_placeOf MM I1 v3 (by omega) (by omega) (by omega) (fun x155 e155 => ?_)
      subst e155
      have hr := (plc_spec (s := (e_snd0 s p k v w (121 + 5 * (13 * p + s (115 + p))))) (p := p) (x := (e_snd0 s p k v w (121 + 5 * (13 * p + s (115 + p)))) (115 + p) - 1) ⟨by omega, by omega⟩).1
      refine ⟨MM.k0, ?_⟩
      refine S_X7_endsInQueue MM I1 v3 (by omega) (by omega) (by omega) (by omega) (fun x159 h159 e159 M159 => ?_)
      subst e159
      refine H _ _ ?_ ?_
      · first | rfl | (unfold e_snd; (repeat' split) <;> first | rfl | assumption | (exfalso; omega) | omega)
      · first | exact M159 | (simp only [e_snd]; (repeat' split) <;> first | exact M159 | (exfalso; omega))
    · refine H _ _ ?_ ?_
      · first | rfl | (unfold e_snd; (repeat' split) <;> first | rfl | assumption | (exfalso; omega) | omega)
      · first | exact MM | (simp only [e_snd]; (repeat' split) <;> first | exact MM | (exfalso; omega))
  · refine ⟨M108.k0, ?_⟩
    refine S_X7_counts M108 (by omega) (by omega) (fun x121 h121 e121 M121 => ?_)
    subst e121
    have MM := Md.cast (s' := (e_snd0 s p k v w (121 + 5 * (13 * p + s (115 + p))))) M121 (by simp only [e_snd0]; first | rw [if_pos c114] | rw [if_neg c114])
    refine ⟨MM.k0, ?_⟩
    try rw [MM.r11]
    refine MM.ld6 (by omega) (by omega) (fun er => ?_)
    try rw [er]
    clear er
    refine ⟨MM.k0, ?_⟩
    try rw [MM.f2]
    refine ⟨ir (by omega) (by omega), ir (by omega) (by omega), fun c137 => ?_, fun c137 => ?_⟩
    · refine ⟨MM.k0, ?_⟩
      try rw [MM.r11]
      refine MM.ld6 (by omega) (by omega) (fun er => ?_)
      try rw [er]
      clear er
      refine ⟨MM.k0, ?_⟩
      refine S_X7_placeOf MM I1 v3 (by omega) (by omega) (by omega) (fun x155 e155 => ?_)
      subst e155
      have hr := (plc_spec (s := (e_snd0 s p k v w (121 + 5 * (13 * p + s (115 + p))))) (p := p) (x := (e_snd0 s p k v w (121 + 5 * (13 * p + s (115 + p)))) (115 + p) - 1) ⟨by omega, by omega⟩).1
      refine ⟨MM.k0, ?_⟩
      refine S_X7_endsInQueue MM I1 v3 (by omega) (by omega) (by omega) (by omega) (fun x159 h159 e159 M159 => ?_)
      subst e159
      refine H _ _ ?_ ?_
      · first | rfl | (unfold e_snd; (repeat' split) <;> first | rfl | assumption | (exfalso; omega) | omega)
      · first | exact M159 | (simp only [e_snd]; (repeat' split) <;> first | exact M159 | (exfalso; omega))
    · refine H _ _ ?_ ?_
      · first | rfl | (unfold e_snd; (repeat' split) <;> first | rfl | assumption | (exfalso; omega) | omega)
      · first | exact MM | (simp only [e_snd]; (repeat' split) <;> first | exact MM | (exfalso; omega))
theorem L_X7_drops_5 {d b : Nat} {h0 : PH} {D : Nat → Int → Int} {Q : Int → PH → Prop} {X : Nat → PH → Prop} {p kd : Int} (V : PIv D) (hp : 0 ≤ p ∧ p < D 0 4) (hkd : InR kd) : ∀ (n : Nat) (m k : Int) (s : Int → Int) (h : PH) (N : Int), (Md b h0 h D s) → (HI (D 0 3) (D 0 4) (D 0 2) N s) → (0 ≤ k) → (k + n = s (115 + p)) → (N + n ≤ 1999600000) → (∀ (x : Int) h', x = m + (s (115 + p) - e_drl p kd n k s (115 + p)) → Md b h0 h' D (e_drl p kd n k s) → Q x h') → WP k_X7_drops [] (RUN GQ (d + 3)) 0 0 (d + 4) Q X 5 [some (pA b), some (pI p), some (pI kd), some (pI m), some (pI k)] [] h 0 0 := by
  intro n
  induction n with
  | zero =>
    intro m k s h N M I hk hn hN H
    obtain ⟨v2, v3, v4, vh⟩ := id V
    have hp6 : 0 ≤ p ∧ p < 6 := by omega
    have q0 := I.qn hp6
    refine WP.of (RUN.mono GQ _) (cuts := [5]) (n := 400) (v_X7_drops_5 _ _ _ _ _ _ _ _ ?_)
    refine ⟨M.k0, ?_⟩
    try rw [M.r11]
    refine M.ld6 (by omega) (by omega) (fun er => ?_)
    try rw [er]
    clear er
    refine ⟨ir (by omega) (by omega), ir (by omega) (by omega), fun c16 => ?_, fun c16 => ?_⟩
    · exfalso; omega
    · exact H _ _ (by show m = m + (s (115 + p) - s (115 + p)); omega) M
  | succ n ih =>
    intro m k s h N M I hk hn hN H
    obtain ⟨v2, v3, v4, vh⟩ := id V
    have hp6 : 0 ≤ p ∧ p < 6 := by omega
    have q0 := I.qn hp6
    have qk := I.qe hp6 ⟨hk, by omega⟩
    unfold QE at qk
    have sz := eiq_sz (t := 5) I hp6 ⟨hk, by omega⟩ (by omega)
    refine WP.of (RUN.mono GQ _) (cuts := [5]) (n := 400) (v_X7_drops_5 _ _ _ _ _ _ _ _ ?_)
    refine ⟨M.k0, ?_⟩
    try rw [M.r11]
    refine M.ld6 (by omega) (by omega) (fun er => ?_)
    try rw [er]
    clear er
    refine ⟨ir (by omega) (by omega), ir (by omega) (by omega), fun c16 => ?_, fun c16 => ?_⟩
    · refine ⟨ir (by omega) (by omega), ir (by omega) (by omega), fun c21 => ?_, fun c21 => ?_⟩
      · refine ⟨M.k0, ?_⟩
        refine S_X7_endsInQueue M I v3 (by omega) (by omega) (by omega) (by omega) (fun x41 h41 e41 M41 => ?_)
        subst e41
        have I41 := eiq_HI (t := 5) I v3 v4.1 hp6 ⟨hk, by omega⟩ (by omega)
        refine ih _ _ _ _ _ M41 I41 (by omega) (by omega) (by omega) ?_
        first | (have e : e_drl p kd (n + 1) k s = e_drl p kd n k (e_eiq s p k 5) := if_pos (by omega); rw [e] at H; exact fun x h' e M => H x h' (by rw [e, sz]; omega) M) | (have e : e_drl p kd (n + 1) k s = e_drl p kd n (k + 1) s := if_neg (by omega); rw [e] at H; exact H)
      · refine ⟨M.k0, ?_⟩
        refine S_X7_inQueue M (by omega) (by omega) (by omega) (fun x29 e29 => ?_)
        subst e29
        refine ⟨ir (by omega) (by omega), ir (by omega) (by omega), fun c33 => ?_, fun c33 => ?_⟩
        · refine ⟨M.k0, ?_⟩
          refine S_X7_endsInQueue M I v3 (by omega) (by omega) (by omega) (by omega) (fun x41 h41 e41 M41 => ?_)
          subst e41
          have I41 := eiq_HI (t := 5) I v3 v4.1 hp6 ⟨hk, by omega⟩ (by omega)
          refine ih _ _ _ _ _ M41 I41 (by omega) (by omega) (by omega) ?_
          first | (have e : e_drl p kd (n + 1) k s = e_drl p kd n k (e_eiq s p k 5) := if_pos (by omega); rw [e] at H; exact fun x h' e M => H x h' (by rw [e, sz]; omega) M) | (have e : e_drl p kd (n + 1) k s = e_drl p kd n (k + 1) s := if_neg (by omega); rw [e] at H; exact H)
        · refine ih _ _ _ _ _ M I (by omega) (by omega) (by omega) ?_
          first | (have e : e_drl p kd (n + 1) k s = e_drl p kd n k (e_eiq s p k 5) := if_pos (by omega); rw [e] at H; exact fun x h' e M => H x h' (by rw [e, sz]; omega) M) | (have e : e_drl p kd (n + 1) k s = e_drl p kd n (k + 1) s := if_neg (by omega); rw [e] at H; exact H)
    · exfalso; omega
theorem S_X7_drops {d b : Nat} {h0 h : PH} {D : Nat → Int → Int} {s : Int → Int} {Q : Int → PH → Prop} {X : Nat → PH → Prop} {N : Int} {p kd : Int} (M : Md b h0 h D s) (I : HI (D 0 3) (D 0 4) (D 0 2) N s) (V : PIv D) (hN : N ≤ 1999500000) (hp : 0 ≤ p ∧ p < D 0 4) (hkd : InR kd) (H : ∀ (x : Int) h', x = (s (115 + p) - e_drops s p kd (115 + p)) → Md b h0 h' D (e_drops s p kd) → Q x h') : RUN GQ (d + 4) m_X7_drops [pA b, pI p, pI kd] h Q X := by
  obtain ⟨v2, v3, v4, vh⟩ := id V
  have hp6 : 0 ≤ p ∧ p < 6 := by omega
  have q0 := I.qn hp6
  rw [e_X7_drops]
  refine WP.of (RUN.mono GQ _) (cuts := [5]) (n := 400) (v_X7_drops_0 _ _ _ _ _ _ _ _ ?_)
  refine L_X7_drops_5 V hp hkd ((s (115 + p)).toNat) _ _ _ _ _ M I (by omega) (by omega) (by omega) ?_
  exact fun x h' e M => H x h' (by rw [e]; show 0 + (s (115 + p) - e_drops s p kd (115 + p)) = _; omega) M
theorem L_X7_ages_2 {d b : Nat} {h0 : PH} {D : Nat → Int → Int} {Q : Int → PH → Prop} {X : Nat → PH → Prop} {p : Int} (V : PIv D) (hp : 0 ≤ p ∧ p < D 0 4) : ∀ (n : Nat) (k : Int) (s : Int → Int) (h : PH) (N : Int), (Md b h0 h D s) → (HI (D 0 3) (D 0 4) (D 0 2) N s) → (0 ≤ k) → (k + n = s (115 + p)) → (N + n ≤ 1999600000) → (∀ (x : Int) h', x = 0 → Md b h0 h' D (e_agl p n k s) → Q x h') → WP k_X7_ages [] (RUN GQ (d + 3)) 0 0 (d + 4) Q X 2 [some (pA b), some (pI p), some (pI k)] [] h 0 0 := by
  intro n
  induction n with
  | zero =>
    intro k s h N M I hk hn hN H
    obtain ⟨v2, v3, v4, vh⟩ := id V
    have hp6 : 0 ≤ p ∧ p < 6 := by omega
    have q0 := I.qn hp6
    refine WP.of (RUN.mono GQ _) (cuts := [2]) (n := 400) (v_X7_ages_2 _ _ _ _ _ _ ?_)
    refine ⟨M.k0, ?_⟩
    try rw [M.r11]
    refine M.ld6 (by omega) (by omega) (fun er => ?_)
    try rw [er]
    clear er
    refine ⟨ir (by omega) (by omega), ir (by omega) (by omega), fun c12 => ?_, fun c12 => ?_⟩
    · exfalso; omega
    · exact H _ _ rfl M
  | succ n ih =>
    intro k s h N M I hk hn hN H
    obtain ⟨v2, v3, v4, vh⟩ := id V
    have hp6 : 0 ≤ p ∧ p < 6 := by omega
    have q0 := I.qn hp6
    have qk := I.qe hp6 ⟨hk, by omega⟩
    unfold QE at qk
    have sz := eiq_sz (t := 2) I hp6 ⟨hk, by omega⟩ (by omega)
    have e0 := I.e0
    have kk := I.kn (k := qv s p k 1) ⟨qk.2.1.1, by omega⟩
    refine WP.of (RUN.mono GQ _) (cuts := [2]) (n := 400) (v_X7_ages_2 _ _ _ _ _ _ ?_)
    refine ⟨M.k0, ?_⟩
    try rw [M.r11]
    refine M.ld6 (by omega) (by omega) (fun er => ?_)
    try rw [er]
    clear er
    refine ⟨ir (by omega) (by omega), ir (by omega) (by omega), fun c12 => ?_, fun c12 => ?_⟩
    · refine ⟨M.k0, ?_⟩
      try rw [M.r11]
      refine M.ld6 (by omega) (by omega) (fun er => ?_)
      try rw [er]
      clear er
      refine ⟨M.k0, ?_⟩
      refine S_X7_inQueue M (by omega) (by omega) (by omega) (fun x25 e25 => ?_)
      subst e25
      refine ⟨M.k0, ?_⟩
      refine S_X7_inQueue M (by omega) (by omega) (by omega) (fun x34 e34 => ?_)
      subst e34
      refine ⟨M.k0, ?_⟩
      refine S_X7_ofKind M (by omega) (by omega) (fun x38 e38 => ?_)
      subst e38
      refine ⟨ir (by omega) (by omega), ir (by omega) (by omega), fun c41 => ?_, fun c41 => ?_⟩
      · refine ih _ _ _ _ M I (by omega) (by omega) (by omega) ?_
        first | (have e : e_agl p (n + 1) k s = e_agl p n k (e_eiq s p k 2) := if_pos (by omega); rw [e] at H; exact H) | (have e : e_agl p (n + 1) k s = e_agl p n (k + 1) s := if_neg (by omega); rw [e] at H; exact H)
      · refine ⟨M.k0, ?_⟩
        refine S_X7_endsInQueue M I v3 (by omega) (by omega) (by omega) (by omega) (fun x48 h48 e48 M48 => ?_)
        subst e48
        have I48 := eiq_HI (t := 2) I v3 v4.1 hp6 ⟨hk, by omega⟩ (by omega)
        refine ih _ _ _ _ M48 I48 (by omega) (by omega) (by omega) ?_
        first | (have e : e_agl p (n + 1) k s = e_agl p n k (e_eiq s p k 2) := if_pos (by omega); rw [e] at H; exact H) | (have e : e_agl p (n + 1) k s = e_agl p n (k + 1) s := if_neg (by omega); rw [e] at H; exact H)
    · exfalso; omega
theorem S_X7_ages {d b : Nat} {h0 h : PH} {D : Nat → Int → Int} {s : Int → Int} {Q : Int → PH → Prop} {X : Nat → PH → Prop} {N : Int} {p : Int} (M : Md b h0 h D s) (I : HI (D 0 3) (D 0 4) (D 0 2) N s) (V : PIv D) (hN : N ≤ 1999500000) (hp : 0 ≤ p ∧ p < D 0 4) (H : ∀ (x : Int) h', x = (0) → Md b h0 h' D (e_ages s p) → Q x h') : RUN GQ (d + 4) m_X7_ages [pA b, pI p] h Q X := by
  obtain ⟨v2, v3, v4, vh⟩ := id V
  have hp6 : 0 ≤ p ∧ p < 6 := by omega
  have q0 := I.qn hp6
  rw [e_X7_ages]
  refine WP.of (RUN.mono GQ _) (cuts := [2]) (n := 400) (v_X7_ages_0 _ _ _ _ _ _ ?_)
  refine L_X7_ages_2 V hp ((s (115 + p)).toNat) _ _ _ _ M I (by omega) (by omega) (by omega) ?_
  exact H
theorem L_X7_nextOf_4 {d b : Nat} {h0 h : PH} {D : Nat → Int → Int} {s : Int → Int} {Q : Int → PH → Prop} {X : Nat → PH → Prop} {N : Int} {p : Int} (M : Md b h0 h D s) (I : HI (D 0 3) (D 0 4) (D 0 2) N s) (V : PIv D) (hp : 0 ≤ p ∧ p < D 0 4) (hN : N ≤ 2000000000) : ∀ (n : Nat) (best k : Int) (z4 : Option PV), (0 ≤ k) → (k + n = s (115 + p)) → (best = -1 ∨ 0 ≤ best ∧ best < k) → (∀ x : Int, x = nxl s p n k best → Q x h) → WP k_X7_nextOf [] (RUN GQ (d + 3)) 0 0 (d + 4) Q X 4 [some (pA b), some (pI p), some (pI best), some (pI k), z4] [] h 0 0 := by
  intro n
  induction n with
  | zero =>
    intro best k z4 hk hn hb H
    obtain ⟨v2, v3, v4, vh⟩ := id V
    have hp6 : 0 ≤ p ∧ p < 6 := by omega
    have q0 := I.qn hp6
    refine WP.of (RUN.mono GQ _) (cuts := [4]) (n := 400) (v_X7_nextOf_4 _ _ _ _ _ _ _ _ ?_)
    refine ⟨M.k0, ?_⟩
    try rw [M.r11]
    refine M.ld6 (by omega) (by omega) (fun er => ?_)
    try rw [er]
    clear er
    refine ⟨ir (by omega) (by omega), ir (by omega) (by omega), fun c14 => ?_, fun c14 => ?_⟩
    · exfalso; omega
    · exact H _ rfl
  | succ n ih =>
    intro best k z4 hk hn hb H
    obtain ⟨v2, v3, v4, vh⟩ := id V
    have hp6 : 0 ≤ p ∧ p < 6 := by omega
    have q0 := I.qn hp6
    have a01 := ahd_01 (s := s) (p := p) k best
    have m01 := msk_01 (s := s) p (qv s p k 1)
    refine WP.of (RUN.mono GQ _) (cuts := [4]) (n := 400) (v_X7_nextOf_4 _ _ _ _ _ _ _ _ ?_)
    refine ⟨M.k0, ?_⟩
    try rw [M.r11]
    refine M.ld6 (by omega) (by omega) (fun er => ?_)
    try rw [er]
    clear er
    refine ⟨ir (by omega) (by omega), ir (by omega) (by omega), fun c14 => ?_, fun c14 => ?_⟩
    · refine ⟨M.k0, ?_⟩
      refine S_X7_inQueue M (by omega) (by omega) (by omega) (fun x23 e23 => ?_)
      subst e23
      refine ⟨M.k0, ?_⟩
      refine S_X7_isMasked M (by omega) (fun x26 e26 => ?_)
      subst e26
      refine ⟨ir (by omega) (by omega), fun c29 => ?_, fun c29 => ?_⟩
      · refine ⟨ir (by omega) (by omega), ir (by omega) (by omega), fun c34 => ?_, fun c34 => ?_⟩
        · refine ⟨ir (by omega) (by omega), fun c56 => ?_, fun c56 => ?_⟩
          · exfalso; omega
          · refine ih _ _ _ (by omega) (by omega) (by omega) ?_
            have e : nxl s p (n + 1) k best = nxl s p n (k + 1) (if msk s p (qv s p k 1) = 0 ∧ (best = -1 ∨ ahd s p k best = 1) then k else best) := rfl
            rw [e] at H
            first | (rw [if_pos (by omega)] at H; exact H) | (rw [if_neg (by omega)] at H; exact H)
        · refine ⟨M.k0, ?_⟩
          refine S_X7_isAhead M I v3 (by omega) (by omega) (by omega) (by omega) (fun x41 e41 => ?_)
          subst e41
          refine ⟨ir (by omega) (by omega), fun c44 => ?_, fun c44 => ?_⟩
          · refine ⟨ir (by omega) (by omega), fun c56 => ?_, fun c56 => ?_⟩
            · refine ih _ _ _ (by omega) (by omega) (by omega) ?_
              have e : nxl s p (n + 1) k best = nxl s p n (k + 1) (if msk s p (qv s p k 1) = 0 ∧ (best = -1 ∨ ahd s p k best = 1) then k else best) := rfl
              rw [e] at H
              first | (rw [if_pos (by omega)] at H; exact H) | (rw [if_neg (by omega)] at H; exact H)
            · exfalso; omega
          · refine ⟨ir (by omega) (by omega), fun c56 => ?_, fun c56 => ?_⟩
            · exfalso; omega
            · refine ih _ _ _ (by omega) (by omega) (by omega) ?_
              have e : nxl s p (n + 1) k best = nxl s p n (k + 1) (if msk s p (qv s p k 1) = 0 ∧ (best = -1 ∨ ahd s p k best = 1) then k else best) := rfl
              rw [e] at H
              first | (rw [if_pos (by omega)] at H; exact H) | (rw [if_neg (by omega)] at H; exact H)
      · refine ⟨ir (by omega) (by omega), fun c56 => ?_, fun c56 => ?_⟩
        · refine ih _ _ _ (by omega) (by omega) (by omega) ?_
          have e : nxl s p (n + 1) k best = nxl s p n (k + 1) (if msk s p (qv s p k 1) = 0 ∧ (best = -1 ∨ ahd s p k best = 1) then k else best) := rfl
          rw [e] at H
          first | (rw [if_pos (by omega)] at H; exact H) | (rw [if_neg (by omega)] at H; exact H)
        · exfalso; omega
    · exfalso; omega
theorem S_X7_nextOf {d b : Nat} {h0 h : PH} {D : Nat → Int → Int} {s : Int → Int} {Q : Int → PH → Prop} {X : Nat → PH → Prop} {N : Int} {p : Int} (M : Md b h0 h D s) (I : HI (D 0 3) (D 0 4) (D 0 2) N s) (V : PIv D) (hp : 0 ≤ p ∧ p < D 0 4) (hN : N ≤ 2000000000) (H : ∀ x : Int, x = (nxt s p) → Q x h) : RUN GQ (d + 4) m_X7_nextOf [pA b, pI p] h Q X := by
  obtain ⟨v2, v3, v4, vh⟩ := id V
  have hp6 : 0 ≤ p ∧ p < 6 := by omega
  have q0 := I.qn hp6
  rw [e_X7_nextOf]
  refine WP.of (RUN.mono GQ _) (cuts := [4]) (n := 400) (v_X7_nextOf_0 _ _ _ _ _ _ _ _ ?_)
  refine L_X7_nextOf_4 M I V hp hN ((s (115 + p)).toNat) _ _ _ (by omega) (by omega) (by omega) ?_
  exact H
theorem S_X7_mayBegin {d b : Nat} {h0 h : PH} {D : Nat → Int → Int} {s : Int → Int} {Q : Int → PH → Prop} {X : Nat → PH → Prop} {N : Int} {p u : Int} (M : Md b h0 h D s) (I : HI (D 0 3) (D 0 4) (D 0 2) N s) (V : PIv D) (hp : 0 ≤ p ∧ p < D 0 4) (hu : InR u) (H : ∀ x : Int, x = (may s p u) → Q x h) : RUN GQ (d + 2) m_X7_mayBegin [pA b, pI p, pI u] h Q X := by
  obtain ⟨v2, v3, v4, vh⟩ := id V
  have hp6 : 0 ≤ p ∧ p < 6 := by omega
  have q0 := I.sn hp6
  have qo := I.ho
  unfold HIo at qo
  rw [e_X7_mayBegin]
  refine WP.of (RUN.mono GQ _) (cuts := []) (n := 400) (v_X7_mayBegin_0 _ _ _ _ _ _ _ ?_)
  refine ⟨M.k0, ?_⟩
  try rw [M.r11]
  refine M.ld6 (by omega) (by omega) (fun er => ?_)
  try rw [er]
  clear er
  refine ⟨ir (by omega) (by omega), fun c12 => ?_, fun c12 => ?_⟩
  · refine ⟨(by omega), ?_⟩
    refine H _ ?_
    first | rfl | (unfold may; (repeat' split) <;> first | rfl | assumption | (exfalso; omega) | omega)
  · refine ⟨M.k0, ?_⟩
    refine S_X7_onStack M (by omega) (by omega) (by omega) (fun x22 e22 => ?_)
    subst e22
    have se := I.se hp6 (i := s (511 + p) - 1) ⟨by omega, by omega⟩
    unfold SE at se
    refine ⟨M.k0, ?_⟩
    try rw [M.r11]
    refine M.ld6 (by omega) (by omega) (fun er => ?_)
    try rw [er]
    clear er
    refine ⟨ir (by omega) (by omega), ir (by omega) (by omega), fun c33 => ?_, fun c33 => ?_⟩
    · refine ⟨M.k0, ?_⟩
      try rw [M.r11]
      refine M.ld6 (by omega) (by omega) (fun er => ?_)
      try rw [er]
      clear er
      refine ⟨ir (by omega) (by omega), ir (by omega) (by omega), fun c44 => ?_, fun c44 => ?_⟩
      · refine ⟨(by omega), ?_⟩
        refine H _ ?_
        first | rfl | (unfold may; (repeat' split) <;> first | rfl | assumption | (exfalso; omega) | omega)
      · refine ⟨(by omega), ?_⟩
        refine H _ ?_
        first | rfl | (unfold may; (repeat' split) <;> first | rfl | assumption | (exfalso; omega) | omega)
    · refine ⟨(by omega), ?_⟩
      refine H _ ?_
      first | rfl | (unfold may; (repeat' split) <;> first | rfl | assumption | (exfalso; omega) | omega)
theorem S_X7_stacks {d b : Nat} {h0 h : PH} {D : Nat → Int → Int} {s : Int → Int} {Q : Int → PH → Prop} {X : Nat → PH → Prop} {p k u t : Int} (M : Md b h0 h D s) (hp : 0 ≤ p ∧ p < 6) (hk : 0 ≤ k ∧ k < s (115 + p)) (hc : s (115 + p) ≤ 13) (hs : 0 ≤ s (511 + p) ∧ s (511 + p) ≤ 3) (H : ∀ (x : Int) h', x = (0) → Md b h0 h' D (e_stk s p k u t) → Q x h') : RUN GQ (d + 2) m_X7_stacks [pA b, pI p, pI k, pI u, pI t] h Q X := by
  rw [e_X7_stacks]
  refine WP.of (RUN.mono GQ _) (cuts := []) (n := 400) (v_X7_stacks_0 _ _ _ _ _ _ _ _ _ ?_)
  refine ⟨M.k0, ?_⟩
  try rw [M.r11]
  refine M.ld6 (by omega) (by omega) (fun er => ?_)
  try rw [er]
  clear er
  refine ⟨M.k0, ?_⟩
  try rw [M.r11]
  refine ⟨M.k0, ?_⟩
  refine S_X7_inQueue M (by omega) (by omega) (by omega) (fun x35 e35 => ?_)
  subst e35
  refine M.as6 (by omega) (by omega) (fun h38 M38 => ?_)
  refine ⟨M38.k0, ?_⟩
  try rw [M38.r11]
  refine ⟨M38.k0, ?_⟩
  refine S_X7_inQueue M38 (by omega) (by omega) (by omega) (fun x51 e51 => ?_)
  subst e51
  refine M38.as6 (by omega) (by omega) (fun h54 M54 => ?_)
  refine ⟨M54.k0, ?_⟩
  try rw [M54.r11]
  refine M54.as6 (by omega) (by omega) (fun h64 M64 => ?_)
  refine ⟨M64.k0, ?_⟩
  try rw [M64.r11]
  refine M64.as6 (by omega) (by omega) (fun h75 M75 => ?_)
  refine ⟨M75.k0, ?_⟩
  try rw [M75.r11]
  refine ⟨M75.k0, ?_⟩
  refine S_X7_inQueue M75 (by omega) (by omega) (by omega) (fun x88 e88 => ?_)
  subst e88
  refine M75.as6 (by omega) (by omega) (fun h91 M91 => ?_)
  refine ⟨M91.k0, ?_⟩
  try rw [M91.r11]
  refine ⟨M91.k0, ?_⟩
  refine S_X7_inQueue M91 (by omega) (by omega) (by omega) (fun x104 e104 => ?_)
  subst e104
  refine M91.as6 (by omega) (by omega) (fun h107 M107 => ?_)
  refine ⟨M107.k0, ?_⟩
  try rw [M107.r11]
  refine M107.ld6 (by omega) (by omega) (fun er => ?_)
  try rw [er]
  clear er
  refine M107.as6 (by omega) (by omega) (fun h121 M121 => ?_)
  have MM := Md.cast (s' := e_stk0 s p k u t (517 + 6 * (4 * p + s (511 + p)))) M121 rfl
  refine ⟨MM.k0, ?_⟩
  refine S_X7_leaves MM (by omega) (by rw [stk0_ne (by omega) (by omega)]; exact hk) (by rw [stk0_ne (by omega) (by omega)]; exact hc) (fun x125 h125 e125 M125 => ?_)
  subst e125
  refine H _ _ ?_ ?_
  · first | rfl | omega
  · exact M125
