/-! the model reads (2) (written by wip/whole/tools/eng.py) -/
section VCS
variable {call : PC} {mc ms fr : Nat} {Q : Int → PH → Prop} {X : Nat → PH → Prop} {K : PK}
set_option maxRecDepth 100000 in
theorem v_X7_goesOn_0 (a0 : Nat) (h : PH) (c s : Nat) (H : hk h a0 = 8 ∧ InR (hi h a0 25) ∧ ((hi h a0 25) = 0 →
 hk h a0 = 8 ∧ call m_X7_token [pA a0] h (fun _ h1 =>
 Q 0 h1) X) ∧
((hi h a0 25) ≠ 0 →
 Q 0 h)) : wpc k_X7_goesOn [] call mc ms fr Q X [] K 400 (pto 0 k_X7_goesOn) [some (pA a0)] [] h c s :=
  H
set_option maxRecDepth 100000 in
theorem v_X7_takes_0 (a0 : Nat) (i1 : Int) (i2 : Int) (z3 : Option PV) (h : PH) (c s : Nat) (H : hk h a0 = 8 ∧ InR (hi h a0 23) ∧ InR 2 ∧ ((hi h a0 23) = 2 →
 hk h a0 = 8 ∧ call m_X7_in [pI (hi h a0 24), pI i1, pI i2] h (fun x1 h1 =>
 InR x1 ∧ (x1 = 0 →
 hk h1 a0 = 8 ∧ call m_X7_fails [pA a0, pI 2] h1 (fun _ h2 =>
 hk h2 a0 = 8 ∧ InR (hi h2 a0 25) ∧ ((hi h2 a0 25) = 0 →
 hk h2 a0 = 8 ∧ hk h2 a0 = 8 ∧ call m_X7_goesOn [pA a0] h2 (fun _ h3 =>
 Q (hi h2 a0 24) h3) X) ∧
((hi h2 a0 25) ≠ 0 →
 hk h2 a0 = 8 ∧ call m_X7_goesOn [pA a0] h2 (fun _ h4 =>
 Q i1 h4) X)) X) ∧
(x1 ≠ 0 →
 hk h1 a0 = 8 ∧ InR (hi h1 a0 25) ∧ ((hi h1 a0 25) = 0 →
 hk h1 a0 = 8 ∧ hk h1 a0 = 8 ∧ call m_X7_goesOn [pA a0] h1 (fun _ h5 =>
 Q (hi h1 a0 24) h5) X) ∧
((hi h1 a0 25) ≠ 0 →
 hk h1 a0 = 8 ∧ call m_X7_goesOn [pA a0] h1 (fun _ h6 =>
 Q i1 h6) X))) X) ∧
((hi h a0 23) ≠ 2 →
 hk h a0 = 8 ∧ call m_X7_fails [pA a0, pI 1] h (fun _ h7 =>
 hk h7 a0 = 8 ∧ InR (hi h7 a0 25) ∧ ((hi h7 a0 25) = 0 →
 hk h7 a0 = 8 ∧ hk h7 a0 = 8 ∧ call m_X7_goesOn [pA a0] h7 (fun _ h8 =>
 Q (hi h7 a0 24) h8) X) ∧
((hi h7 a0 25) ≠ 0 →
 hk h7 a0 = 8 ∧ call m_X7_goesOn [pA a0] h7 (fun _ h9 =>
 Q i1 h9) X)) X)) : wpc k_X7_takes [] call mc ms fr Q X [] K 400 (pto 0 k_X7_takes) [some (pA a0), some (pI i1), some (pI i2), z3] [] h c s :=
  H
set_option maxRecDepth 100000 in
theorem v_X7_named_0 (a0 : Nat) (a1 : Nat) (i2 : Int) (i3 : Int) (i4 : Int) (z5 : Option PV) (z6 : Option PV) (z7 : Option PV) (z8 : Option PV) (h : PH) (c s : Nat) (H : K 3 [some (pA a0), some (pA a1), some (pI i2), some (pI i3), some (pI i4), some (pI 0), z6, z7, z8] [] h c s) : wpc k_X7_named [] call mc ms fr Q X [3, 28] K 400 (pto 0 k_X7_named) [some (pA a0), some (pA a1), some (pI i2), some (pI i3), some (pI i4), z5, z6, z7, z8] [] h c s :=
  H
set_option maxRecDepth 100000 in
theorem v_X7_named_3 (a0 : Nat) (a1 : Nat) (i2 : Int) (i3 : Int) (i4 : Int) (i5 : Int) (z6 : Option PV) (z7 : Option PV) (z8 : Option PV) (h : PH) (c s : Nat) (H : InR i5 ∧ InR i2 ∧ (i5 < i2 →
 call m_X7_in [pI (i4 - i3), pI 1, pI 7] h (fun x1 h1 =>
 InR x1 ∧ (x1 = 0 →
 Q ((-1)) h1) ∧
(x1 ≠ 0 →
 K 28 [some (pA a0), some (pA a1), some (pI i2), some (pI i3), some (pI i4), some (pI i5), some (pI 1), some (pI 0), z8] [] h1 c s)) X) ∧
(i2 ≤ i5 →
 Q ((-1)) h)) : wpc k_X7_named [] call mc ms fr Q X [3, 28] K 400 (pto 3 k_X7_named) [some (pA a0), some (pA a1), some (pI i2), some (pI i3), some (pI i4), some (pI i5), z6, z7, z8] [] h c s :=
  H
set_option maxRecDepth 100000 in
theorem v_X7_named_28 (a0 : Nat) (a1 : Nat) (i2 : Int) (i3 : Int) (i4 : Int) (i5 : Int) (i6 : Int) (i7 : Int) (z8 : Option PV) (h : PH) (c s : Nat) (H : InR i7 ∧ InR 7 ∧ (i7 < 7 →
 InR (i3 + i7) ∧ InR i4 ∧ ((i3 + i7) < i4 →
 hk h a0 = 8 ∧ (hk h (hr h a0 16) = 20 ∨ hk h (hr h a0 16) = 26) ∧ (0 ≤ (i3 + i7) ∧ (i3 + i7) < (hl h (hr h a0 16) : Int)) ∧ InR i6 ∧ (i6 = 0 →
 K 28 [some (pA a0), some (pA a1), some (pI i2), some (pI i3), some (pI i4), some (pI i5), some (pI 0), some (pI (i7 + 1)), some (pI (hi h (hr h a0 16) (Int.toNat ((i3 + i7)))))] [] h c s) ∧
(i6 ≠ 0 →
 (hk h a1 = 20 ∨ hk h a1 = 26) ∧ (0 ≤ ((7 * i5) + i7) ∧ ((7 * i5) + i7) < (hl h a1 : Int)) ∧ InR (hi h a1 (Int.toNat (((7 * i5) + i7)))) ∧ InR (hi h (hr h a0 16) (Int.toNat ((i3 + i7)))) ∧ ((hi h a1 (Int.toNat (((7 * i5) + i7)))) = (hi h (hr h a0 16) (Int.toNat ((i3 + i7)))) →
 InR (hi h (hr h a0 16) (Int.toNat ((i3 + i7)))) ∧ ((hi h (hr h a0 16) (Int.toNat ((i3 + i7)))) = 0 →
 InR (i3 + i7) ∧ InR i4 ∧ ((i3 + i7) < i4 →
 K 28 [some (pA a0), some (pA a1), some (pI i2), some (pI i3), some (pI i4), some (pI i5), some (pI 0), some (pI (i7 + 1)), some (pI (hi h (hr h a0 16) (Int.toNat ((i3 + i7)))))] [] h c s) ∧
(i4 ≤ (i3 + i7) →
 K 28 [some (pA a0), some (pA a1), some (pI i2), some (pI i3), some (pI i4), some (pI i5), some (pI 1), some (pI (i7 + 1)), some (pI (hi h (hr h a0 16) (Int.toNat ((i3 + i7)))))] [] h c s)) ∧
((hi h (hr h a0 16) (Int.toNat ((i3 + i7)))) ≠ 0 →
 K 28 [some (pA a0), some (pA a1), some (pI i2), some (pI i3), some (pI i4), some (pI i5), some (pI 1), some (pI (i7 + 1)), some (pI (hi h (hr h a0 16) (Int.toNat ((i3 + i7)))))] [] h c s)) ∧
((hi h a1 (Int.toNat (((7 * i5) + i7)))) ≠ (hi h (hr h a0 16) (Int.toNat ((i3 + i7)))) →
 K 28 [some (pA a0), some (pA a1), some (pI i2), some (pI i3), some (pI i4), some (pI i5), some (pI 0), some (pI (i7 + 1)), some (pI (hi h (hr h a0 16) (Int.toNat ((i3 + i7)))))] [] h c s))) ∧
(i4 ≤ (i3 + i7) →
 InR i6 ∧ (i6 = 0 →
 K 28 [some (pA a0), some (pA a1), some (pI i2), some (pI i3), some (pI i4), some (pI i5), some (pI 0), some (pI (i7 + 1)), some (pI 0)] [] h c s) ∧
(i6 ≠ 0 →
 (hk h a1 = 20 ∨ hk h a1 = 26) ∧ (0 ≤ ((7 * i5) + i7) ∧ ((7 * i5) + i7) < (hl h a1 : Int)) ∧ InR (hi h a1 (Int.toNat (((7 * i5) + i7)))) ∧ InR 0 ∧ ((hi h a1 (Int.toNat (((7 * i5) + i7)))) = 0 →
 InR 0 ∧ ((0 : Int) = 0 →
 InR (i3 + i7) ∧ InR i4 ∧ ((i3 + i7) < i4 →
 K 28 [some (pA a0), some (pA a1), some (pI i2), some (pI i3), some (pI i4), some (pI i5), some (pI 0), some (pI (i7 + 1)), some (pI 0)] [] h c s) ∧
(i4 ≤ (i3 + i7) →
 K 28 [some (pA a0), some (pA a1), some (pI i2), some (pI i3), some (pI i4), some (pI i5), some (pI 1), some (pI (i7 + 1)), some (pI 0)] [] h c s)) ∧
((0 : Int) ≠ 0 →
 K 28 [some (pA a0), some (pA a1), some (pI i2), some (pI i3), some (pI i4), some (pI i5), some (pI 1), some (pI (i7 + 1)), some (pI 0)] [] h c s)) ∧
((hi h a1 (Int.toNat (((7 * i5) + i7)))) ≠ 0 →
 K 28 [some (pA a0), some (pA a1), some (pI i2), some (pI i3), some (pI i4), some (pI i5), some (pI 0), some (pI (i7 + 1)), some (pI 0)] [] h c s)))) ∧
(7 ≤ i7 →
 InR i6 ∧ (i6 = 0 →
 K 3 [some (pA a0), some (pA a1), some (pI i2), some (pI i3), some (pI i4), some (pI (i5 + 1)), some (pI i6), some (pI i7), z8] [] h c s) ∧
(i6 ≠ 0 →
 Q i5 h))) : wpc k_X7_named [] call mc ms fr Q X [3, 28] K 400 (pto 28 k_X7_named) [some (pA a0), some (pA a1), some (pI i2), some (pI i3), some (pI i4), some (pI i5), some (pI i6), some (pI i7), z8] [] h c s :=
  H
set_option maxRecDepth 100000 in
theorem v_X7_namedHere_0 (a0 : Nat) (a1 : Nat) (i2 : Int) (z3 : Option PV) (h : PH) (c s : Nat) (H : hk h a0 = 8 ∧ InR (hi h a0 23) ∧ InR 1 ∧ ((hi h a0 23) = 1 →
 hk h a0 = 8 ∧ call m_X7_failsIf [pA a0, pI 0, pI 1] h (fun _ h1 =>
 hk h1 a0 = 8 ∧ InR (hi h1 a0 25) ∧ ((hi h1 a0 25) = 0 →
 hk h1 a0 = 8 ∧ hk h1 a0 = 8 ∧ hk h1 a0 = 8 ∧ call m_X7_named [pA a0, pA a1, pI i2, pI (hi h1 a0 22), pI (hi h1 a0 21)] h1 (fun x2 h2 =>
 InR x2 ∧ InR ((-1)) ∧ (x2 = ((-1)) →
 hk h2 a0 = 8 ∧ call m_X7_failsIf [pA a0, pI 1, pI 3] h2 (fun _ h3 =>
 hk h3 a0 = 8 ∧ InR (hi h3 a0 25) ∧ ((hi h3 a0 25) = 0 →
 Q x2 h3) ∧
((hi h3 a0 25) ≠ 0 →
 Q 0 h3)) X) ∧
(x2 ≠ ((-1)) →
 hk h2 a0 = 8 ∧ call m_X7_failsIf [pA a0, pI 0, pI 3] h2 (fun _ h4 =>
 hk h4 a0 = 8 ∧ InR (hi h4 a0 25) ∧ ((hi h4 a0 25) = 0 →
 Q x2 h4) ∧
((hi h4 a0 25) ≠ 0 →
 Q 0 h4)) X)) X) ∧
((hi h1 a0 25) ≠ 0 →
 InR 0 ∧ InR ((-1)) ∧ ((0 : Int) = ((-1)) →
 hk h1 a0 = 8 ∧ call m_X7_failsIf [pA a0, pI 1, pI 3] h1 (fun _ h5 =>
 hk h5 a0 = 8 ∧ InR (hi h5 a0 25) ∧ ((hi h5 a0 25) = 0 →
 Q 0 h5) ∧
((hi h5 a0 25) ≠ 0 →
 Q 0 h5)) X) ∧
((0 : Int) ≠ ((-1)) →
 hk h1 a0 = 8 ∧ call m_X7_failsIf [pA a0, pI 0, pI 3] h1 (fun _ h6 =>
 hk h6 a0 = 8 ∧ InR (hi h6 a0 25) ∧ ((hi h6 a0 25) = 0 →
 Q 0 h6) ∧
((hi h6 a0 25) ≠ 0 →
 Q 0 h6)) X))) X) ∧
((hi h a0 23) ≠ 1 →
 hk h a0 = 8 ∧ call m_X7_failsIf [pA a0, pI 1, pI 1] h (fun _ h7 =>
 hk h7 a0 = 8 ∧ InR (hi h7 a0 25) ∧ ((hi h7 a0 25) = 0 →
 hk h7 a0 = 8 ∧ hk h7 a0 = 8 ∧ hk h7 a0 = 8 ∧ call m_X7_named [pA a0, pA a1, pI i2, pI (hi h7 a0 22), pI (hi h7 a0 21)] h7 (fun x8 h8 =>
 InR x8 ∧ InR ((-1)) ∧ (x8 = ((-1)) →
 hk h8 a0 = 8 ∧ call m_X7_failsIf [pA a0, pI 1, pI 3] h8 (fun _ h9 =>
 hk h9 a0 = 8 ∧ InR (hi h9 a0 25) ∧ ((hi h9 a0 25) = 0 →
 Q x8 h9) ∧
((hi h9 a0 25) ≠ 0 →
 Q 0 h9)) X) ∧
(x8 ≠ ((-1)) →
 hk h8 a0 = 8 ∧ call m_X7_failsIf [pA a0, pI 0, pI 3] h8 (fun _ h10 =>
 hk h10 a0 = 8 ∧ InR (hi h10 a0 25) ∧ ((hi h10 a0 25) = 0 →
 Q x8 h10) ∧
((hi h10 a0 25) ≠ 0 →
 Q 0 h10)) X)) X) ∧
((hi h7 a0 25) ≠ 0 →
 InR 0 ∧ InR ((-1)) ∧ ((0 : Int) = ((-1)) →
 hk h7 a0 = 8 ∧ call m_X7_failsIf [pA a0, pI 1, pI 3] h7 (fun _ h11 =>
 hk h11 a0 = 8 ∧ InR (hi h11 a0 25) ∧ ((hi h11 a0 25) = 0 →
 Q 0 h11) ∧
((hi h11 a0 25) ≠ 0 →
 Q 0 h11)) X) ∧
((0 : Int) ≠ ((-1)) →
 hk h7 a0 = 8 ∧ call m_X7_failsIf [pA a0, pI 0, pI 3] h7 (fun _ h12 =>
 hk h12 a0 = 8 ∧ InR (hi h12 a0 25) ∧ ((hi h12 a0 25) = 0 →
 Q 0 h12) ∧
((hi h12 a0 25) ≠ 0 →
 Q 0 h12)) X))) X)) : wpc k_X7_namedHere [] call mc ms fr Q X [] K 400 (pto 0 k_X7_namedHere) [some (pA a0), some (pA a1), some (pI i2), z3] [] h c s :=
  H
set_option maxRecDepth 100000 in
theorem v_X7_programHere_0 (a0 : Nat) (z1 : Option PV) (h : PH) (c s : Nat) (H : hk h a0 = 8 ∧ hk h a0 = 8 ∧ hk h a0 = 8 ∧ call m_X7_namedHere [pA a0, pA (hr h a0 36), pI (hi h a0 32)] h (fun x1 h1 =>
 hk h1 a0 = 8 ∧ call m_X7_goesOn [pA a0] h1 (fun _ h2 =>
 Q x1 h2) X) X) : wpc k_X7_programHere [] call mc ms fr Q X [] K 400 (pto 0 k_X7_programHere) [some (pA a0), z1] [] h c s :=
  H
set_option maxRecDepth 100000 in
theorem v_X7_kindHere_0 (a0 : Nat) (z1 : Option PV) (h : PH) (c s : Nat) (H : hk h a0 = 8 ∧ hk h a0 = 8 ∧ hk h a0 = 8 ∧ call m_X7_namedHere [pA a0, pA (hr h a0 35), pI (hi h a0 31)] h (fun x1 h1 =>
 hk h1 a0 = 8 ∧ call m_X7_goesOn [pA a0] h1 (fun _ h2 =>
 Q x1 h2) X) X) : wpc k_X7_kindHere [] call mc ms fr Q X [] K 400 (pto 0 k_X7_kindHere) [some (pA a0), z1] [] h c s :=
  H
set_option maxRecDepth 100000 in
theorem v_X7_newName_0 (a0 : Nat) (a1 : Nat) (i2 : Int) (i3 : Int) (z4 : Option PV) (h : PH) (c s : Nat) (H : hk h a0 = 8 ∧ InR (hi h a0 23) ∧ InR 1 ∧ ((hi h a0 23) = 1 →
 hk h a0 = 8 ∧ call m_X7_failsIf [pA a0, pI 0, pI 1] h (fun _ h1 =>
 hk h1 a0 = 8 ∧ InR (hi h1 a0 25) ∧ ((hi h1 a0 25) = 0 →
 hk h1 a0 = 8 ∧ hk h1 a0 = 8 ∧ hk h1 a0 = 8 ∧ call m_X7_named [pA a0, pA a1, pI i2, pI (hi h1 a0 22), pI (hi h1 a0 21)] h1 (fun x2 h2 =>
 InR x2 ∧ InR ((-1)) ∧ (x2 = ((-1)) →
 hk h2 a0 = 8 ∧ call m_X7_failsIf [pA a0, pI 0, pI 3] h2 (fun _ h3 =>
 K 56 [some (pA a0), some (pA a1), some (pI i2), some (pI i3), some (pI 0)] [] h3 c s) X) ∧
(x2 ≠ ((-1)) →
 hk h2 a0 = 8 ∧ call m_X7_failsIf [pA a0, pI 1, pI 3] h2 (fun _ h4 =>
 K 56 [some (pA a0), some (pA a1), some (pI i2), some (pI i3), some (pI 0)] [] h4 c s) X)) X) ∧
((hi h1 a0 25) ≠ 0 →
 hk h1 a0 = 8 ∧ call m_X7_failsIf [pA a0, pI 0, pI 3] h1 (fun _ h5 =>
 K 56 [some (pA a0), some (pA a1), some (pI i2), some (pI i3), some (pI 0)] [] h5 c s) X)) X) ∧
((hi h a0 23) ≠ 1 →
 hk h a0 = 8 ∧ call m_X7_failsIf [pA a0, pI 1, pI 1] h (fun _ h6 =>
 hk h6 a0 = 8 ∧ InR (hi h6 a0 25) ∧ ((hi h6 a0 25) = 0 →
 hk h6 a0 = 8 ∧ hk h6 a0 = 8 ∧ hk h6 a0 = 8 ∧ call m_X7_named [pA a0, pA a1, pI i2, pI (hi h6 a0 22), pI (hi h6 a0 21)] h6 (fun x7 h7 =>
 InR x7 ∧ InR ((-1)) ∧ (x7 = ((-1)) →
 hk h7 a0 = 8 ∧ call m_X7_failsIf [pA a0, pI 0, pI 3] h7 (fun _ h8 =>
 K 56 [some (pA a0), some (pA a1), some (pI i2), some (pI i3), some (pI 0)] [] h8 c s) X) ∧
(x7 ≠ ((-1)) →
 hk h7 a0 = 8 ∧ call m_X7_failsIf [pA a0, pI 1, pI 3] h7 (fun _ h9 =>
 K 56 [some (pA a0), some (pA a1), some (pI i2), some (pI i3), some (pI 0)] [] h9 c s) X)) X) ∧
((hi h6 a0 25) ≠ 0 →
 hk h6 a0 = 8 ∧ call m_X7_failsIf [pA a0, pI 0, pI 3] h6 (fun _ h10 =>
 K 56 [some (pA a0), some (pA a1), some (pI i2), some (pI i3), some (pI 0)] [] h10 c s) X)) X)) : wpc k_X7_newName [] call mc ms fr Q X [56] K 400 (pto 0 k_X7_newName) [some (pA a0), some (pA a1), some (pI i2), some (pI i3), z4] [] h c s :=
  H
set_option maxRecDepth 100000 in
theorem v_X7_newName_56 (a0 : Nat) (a1 : Nat) (i2 : Int) (i3 : Int) (i4 : Int) (h : PH) (c s : Nat) (H : InR i4 ∧ InR 7 ∧ (i4 < 7 →
 hk h a0 = 8 ∧ InR (hi h a0 25) ∧ ((hi h a0 25) = 0 →
 hk h a0 = 8 ∧ hk h a0 = 8 ∧ InR ((hi h a0 22) + i4) ∧ InR (hi h a0 21) ∧ (((hi h a0 22) + i4) < (hi h a0 21) →
 hk h a0 = 8 ∧ hk h a0 = 8 ∧ call m_X7_seen [pA a0, pI ((hi h a0 22) + i4)] h (fun x1 h1 =>
 hk h1 a1 = 20 ∧ (0 ≤ ((7 * i3) + i4) ∧ ((7 * i3) + i4) < (hl h1 a1 : Int)) ∧ ∀ h2, h2 = hsi h1 a1 (Int.toNat (((7 * i3) + i4))) x1 →
 K 56 [some (pA a0), some (pA a1), some (pI i2), some (pI i3), some (pI (i4 + 1))] [] h2 c s) X) ∧
((hi h a0 21) ≤ ((hi h a0 22) + i4) →
 hk h a1 = 20 ∧ (0 ≤ ((7 * i3) + i4) ∧ ((7 * i3) + i4) < (hl h a1 : Int)) ∧ ∀ h3, h3 = hsi h a1 (Int.toNat (((7 * i3) + i4))) 0 →
 K 56 [some (pA a0), some (pA a1), some (pI i2), some (pI i3), some (pI (i4 + 1))] [] h3 c s)) ∧
((hi h a0 25) ≠ 0 →
 hk h a0 = 8 ∧ call m_X7_goesOn [pA a0] h (fun _ h4 =>
 Q 0 h4) X)) ∧
(7 ≤ i4 →
 hk h a0 = 8 ∧ call m_X7_goesOn [pA a0] h (fun _ h5 =>
 Q 0 h5) X)) : wpc k_X7_newName [] call mc ms fr Q X [56] K 400 (pto 56 k_X7_newName) [some (pA a0), some (pA a1), some (pI i2), some (pI i3), some (pI i4)] [] h c s :=
  H
end VCS
theorem S_X7_goesOn {d b : Nat} {h0 h : PH} {D : Nat → Int → Int} {s : Int → Int} {t : Int} {Q : Int → PH → Prop} {X : Nat → PH → Prop} (M : Mt b h0 h D s t) (P : PR D)  (H : ∀ (x : Int) h', x = 0 → Mt b h0 h' (gD D) s t → Q x h') : RUN GQ (d + 3) m_X7_goesOn [pA b] h Q X := by
  have Pw := P.w
  rw [e_X7_goesOn]
  refine WP.of (RUN.mono GQ _) (cuts := []) (n := 400) (v_X7_goesOn_0 _ _ _ _ ?_)
  refine ⟨M.k0, ?_⟩
  try rw [M.f25]
  refine ⟨ir (by omega) (by omega), fun c4 => ?_, fun c4 => ?_⟩
  · refine ⟨M.k0, ?_⟩
    refine S_X7_token M (by exact P.L) (by exact P.n) (by exact P.B) (fun x8 h8 e8 M8 => ?_)
    subst e8
    refine H _ _ rfl (M8.castD ?_)
    unfold gD
    first
    | (rw [if_pos (by omega)]; done)
    | (rw [if_neg (by omega)]; done)
  · refine H _ _ rfl (M.castD ?_)
    unfold gD
    first
    | (rw [if_pos (by omega)]; done)
    | (rw [if_neg (by omega)]; done)
theorem S_X7_takes {d b : Nat} {h0 h : PH} {D : Nat → Int → Int} {s : Int → Int} {t : Int} {Q : Int → PH → Prop} {X : Nat → PH → Prop} {lo hi' : Int} (M : Mt b h0 h D s t) (P : PR D) (hlo : 0 ≤ lo ∧ lo ≤ hi' ∧ hi' ≤ 999) (H : ∀ (x : Int) h', x = tvV D lo hi' → Mt b h0 h' (gD (tkE D lo hi')) s t → Q x h') : RUN GQ (d + 4) m_X7_takes [pA b, pI lo, pI hi'] h Q X := by
  have Pw := P.w
  have P3 := P.2.2.1
  have P4 := P.2.2.2.1
  rw [e_X7_takes]
  refine WP.of (RUN.mono GQ _) (cuts := []) (n := 400) (v_X7_takes_0 _ _ _ _ _ _ _ ?_)
  refine ⟨M.k0, ?_⟩
  try rw [M.f23]
  refine ⟨ir (by omega) (by omega), ir (by omega) (by omega), fun c5 => ?_, fun c5 => ?_⟩
  · refine ⟨M.k0, ?_⟩
    try rw [M.f24]
    refine S_X7_inB (by omega) (by omega) (by omega) (fun x22 e22 => ?_)
    refine ⟨ir (by omega) (by omega), fun c25 => ?_, fun c25 => ?_⟩
    · refine ⟨M.k0, ?_⟩
      refine S_X7_fails M (by exact P.w) (fun x30 h30 e30 M30 => ?_)
      subst e30
      obtain ⟨F, hF⟩ : ∃ F, F = tkE D lo hi' := ⟨_, rfl⟩
      have MF := M30.castD (D' := F) (by rw [hF]; unfold tkE; first | (rw [if_pos (by omega), if_pos (by omega)]; done) | (rw [if_pos (by omega), if_neg (by omega)]; done) | (rw [if_neg (by omega)]; done))
      have PF : PR F := by rw [hF]; exact P.tE _ _
      have PFw := PF.w
      refine ⟨MF.k0, ?_⟩
      try rw [MF.f25]
      refine ⟨ir (by omega) (by omega), fun c37 => ?_, fun c37 => ?_⟩
      · refine ⟨MF.k0, ?_⟩
        try rw [MF.f24]
        refine ⟨MF.k0, ?_⟩
        refine S_X7_goesOn MF PF (fun x50 h50 e50 M50 => ?_)
        subst e50
        refine H _ _ ?_ (M50.castD (by rw [hF]))
        unfold tvV
        rw [← hF]
        first
        | (rw [if_pos (by omega)]; done)
        | (rw [if_neg (by omega)]; done)
      · refine ⟨MF.k0, ?_⟩
        refine S_X7_goesOn MF PF (fun x50 h50 e50 M50 => ?_)
        subst e50
        refine H _ _ ?_ (M50.castD (by rw [hF]))
        unfold tvV
        rw [← hF]
        first
        | (rw [if_pos (by omega)]; done)
        | (rw [if_neg (by omega)]; done)
    · obtain ⟨F, hF⟩ : ∃ F, F = tkE D lo hi' := ⟨_, rfl⟩
      have MF := M.castD (D' := F) (by rw [hF]; unfold tkE; first | (rw [if_pos (by omega), if_pos (by omega)]; done) | (rw [if_pos (by omega), if_neg (by omega)]; done) | (rw [if_neg (by omega)]; done))
      have PF : PR F := by rw [hF]; exact P.tE _ _
      have PFw := PF.w
      refine ⟨MF.k0, ?_⟩
      try rw [MF.f25]
      refine ⟨ir (by omega) (by omega), fun c37 => ?_, fun c37 => ?_⟩
      · refine ⟨MF.k0, ?_⟩
        try rw [MF.f24]
        refine ⟨MF.k0, ?_⟩
        refine S_X7_goesOn MF PF (fun x50 h50 e50 M50 => ?_)
        subst e50
        refine H _ _ ?_ (M50.castD (by rw [hF]))
        unfold tvV
        rw [← hF]
        first
        | (rw [if_pos (by omega)]; done)
        | (rw [if_neg (by omega)]; done)
      · refine ⟨MF.k0, ?_⟩
        refine S_X7_goesOn MF PF (fun x50 h50 e50 M50 => ?_)
        subst e50
        refine H _ _ ?_ (M50.castD (by rw [hF]))
        unfold tvV
        rw [← hF]
        first
        | (rw [if_pos (by omega)]; done)
        | (rw [if_neg (by omega)]; done)
  · refine ⟨M.k0, ?_⟩
    refine S_X7_fails M (by exact P.w) (fun x10 h10 e10 M10 => ?_)
    subst e10
    obtain ⟨F, hF⟩ : ∃ F, F = tkE D lo hi' := ⟨_, rfl⟩
    have MF := M10.castD (D' := F) (by rw [hF]; unfold tkE; first | (rw [if_pos (by omega), if_pos (by omega)]; done) | (rw [if_pos (by omega), if_neg (by omega)]; done) | (rw [if_neg (by omega)]; done))
    have PF : PR F := by rw [hF]; exact P.tE _ _
    have PFw := PF.w
    refine ⟨MF.k0, ?_⟩
    try rw [MF.f25]
    refine ⟨ir (by omega) (by omega), fun c37 => ?_, fun c37 => ?_⟩
    · refine ⟨MF.k0, ?_⟩
      try rw [MF.f24]
      refine ⟨MF.k0, ?_⟩
      refine S_X7_goesOn MF PF (fun x50 h50 e50 M50 => ?_)
      subst e50
      refine H _ _ ?_ (M50.castD (by rw [hF]))
      unfold tvV
      rw [← hF]
      first
      | (rw [if_pos (by omega)]; done)
      | (rw [if_neg (by omega)]; done)
    · refine ⟨MF.k0, ?_⟩
      refine S_X7_goesOn MF PF (fun x50 h50 e50 M50 => ?_)
      subst e50
      refine H _ _ ?_ (M50.castD (by rw [hF]))
      unfold tvV
      rw [← hF]
      first
      | (rw [if_pos (by omega)]; done)
      | (rw [if_neg (by omega)]; done)
theorem L_X7_named_1_28 {d b : Nat} {h0 h : PH} {D : Nat → Int → Int} {s : Int → Int} {t : Int} {Q : Int → PH → Prop} {X : Nat → PH → Prop} {many bg en : Int} {k : Int} (M : Mt b h0 h D s t) (hm : 0 ≤ many ∧ many ≤ 8) (hb : 0 ≤ bg ∧ bg ≤ 700) (he : 0 ≤ en ∧ en ≤ 700) (hB : BY D) (hN : NB (D 1)) (hk : 0 ≤ k ∧ k < 8) : ∀ (n : Nat) (z i : Int) (z8 : Option PV), (0 ≤ i ∧ i + n = 7) → (z = 0 ∨ z = 1) → ((nme (D 1) D bg en k n i z = 1 → Q k h) ∧ (nme (D 1) D bg en k n i z ≠ 1 → ∀ z6 z7 z8 : Option PV, WP k_X7_named [] (RUN GQ (d + 1)) 0 0 (d + 2) Q X 3 [some (pA b), some (pA (b + 1)), some (pI many), some (pI bg), some (pI en), some (pI (k + 1)), z6, z7, z8] [] h 0 0)) → WP k_X7_named [] (RUN GQ (d + 1)) 0 0 (d + 2) Q X 28 [some (pA b), some (pA (b + 1)), some (pI many), some (pI bg), some (pI en), some (pI k), some (pI z), some (pI i), z8] [] h 0 0 := by
  intro n
  induction n with
  | zero =>
    intro z i z8 hi hz H
    refine WP.of (RUN.mono GQ _) (cuts := [3, 28]) (n := 400) (v_X7_named_28 _ _ _ _ _ _ _ _ _ _ _ _ ?_)
    refine ⟨ir (by omega) (by omega), ir (by omega) (by omega), fun c32 => ?_, fun c32 => ?_⟩
    · exfalso; omega
    · refine ⟨ir (by omega) (by omega), fun c108 => ?_, fun c108 => ?_⟩
      · exact H.2 (by show z ≠ 1; omega) _ _ _
      · exact H.1 (by show z = 1; omega)
  | succ n ih =>
    intro z i z8 hi hz H
    have nc1 : bg + i < en → nmc D bg en i = D 10 (bg + i) := fun h => if_pos h
    have nc2 : ¬ bg + i < en → nmc D bg en i = 0 := fun h => if_neg h
    have b1 := hN (7 * k + i) (by omega) (by omega)
    have b2 : bg + i < en → 0 ≤ D 10 (bg + i) ∧ D 10 (bg + i) ≤ 255 := fun h => hB _ (by omega) (by omega)
    refine WP.of (RUN.mono GQ _) (cuts := [3, 28]) (n := 400) (v_X7_named_28 _ _ _ _ _ _ _ _ _ _ _ _ ?_)
    refine ⟨ir (by omega) (by omega), ir (by omega) (by omega), fun c32 => ?_, fun c32 => ?_⟩
    · refine ⟨ir (by omega) (by omega), ir (by omega) (by omega), fun c41 => ?_, fun c41 => ?_⟩
      · refine ⟨M.k0, ?_⟩
        try rw [M.r16]
        refine M.ld10 (by omega) (by omega) (fun er => ?_)
        try rw [er]
        clear er
        refine ⟨ir (by omega) (by omega), fun c61 => ?_, fun c61 => ?_⟩
        · refine ih _ _ _ (by omega) (by omega) ?_
          have e : nme (D 1) D bg en k (n + 1) i z = nme (D 1) D bg en k n (i + 1) (if z = 1 ∧ (D 1) (7 * k + i) = nmc D bg en i ∧ (nmc D bg en i ≠ 0 ∨ en ≤ bg + i) then 1 else 0) := rfl
          rw [e] at H
          first
          | (rw [if_pos (by omega)] at H; exact H)
          | (rw [if_neg (by omega)] at H; exact H)
        · refine M.ld1 (by omega) (by omega) (fun er => ?_)
          try rw [er]
          clear er
          refine ⟨ir (by omega) (by omega), ir (by omega) (by omega), fun c76 => ?_, fun c76 => ?_⟩
          · refine ⟨ir (by omega) (by omega), fun c81 => ?_, fun c81 => ?_⟩
            · refine ⟨ir (by omega) (by omega), ir (by omega) (by omega), fun c90 => ?_, fun c90 => ?_⟩
              · refine ih _ _ _ (by omega) (by omega) ?_
                have e : nme (D 1) D bg en k (n + 1) i z = nme (D 1) D bg en k n (i + 1) (if z = 1 ∧ (D 1) (7 * k + i) = nmc D bg en i ∧ (nmc D bg en i ≠ 0 ∨ en ≤ bg + i) then 1 else 0) := rfl
                rw [e] at H
                first
                | (rw [if_pos (by omega)] at H; exact H)
                | (rw [if_neg (by omega)] at H; exact H)
              · refine ih _ _ _ (by omega) (by omega) ?_
                have e : nme (D 1) D bg en k (n + 1) i z = nme (D 1) D bg en k n (i + 1) (if z = 1 ∧ (D 1) (7 * k + i) = nmc D bg en i ∧ (nmc D bg en i ≠ 0 ∨ en ≤ bg + i) then 1 else 0) := rfl
                rw [e] at H
                first
                | (rw [if_pos (by omega)] at H; exact H)
                | (rw [if_neg (by omega)] at H; exact H)
            · refine ih _ _ _ (by omega) (by omega) ?_
              have e : nme (D 1) D bg en k (n + 1) i z = nme (D 1) D bg en k n (i + 1) (if z = 1 ∧ (D 1) (7 * k + i) = nmc D bg en i ∧ (nmc D bg en i ≠ 0 ∨ en ≤ bg + i) then 1 else 0) := rfl
              rw [e] at H
              first
              | (rw [if_pos (by omega)] at H; exact H)
              | (rw [if_neg (by omega)] at H; exact H)
          · refine ih _ _ _ (by omega) (by omega) ?_
            have e : nme (D 1) D bg en k (n + 1) i z = nme (D 1) D bg en k n (i + 1) (if z = 1 ∧ (D 1) (7 * k + i) = nmc D bg en i ∧ (nmc D bg en i ≠ 0 ∨ en ≤ bg + i) then 1 else 0) := rfl
            rw [e] at H
            first
            | (rw [if_pos (by omega)] at H; exact H)
            | (rw [if_neg (by omega)] at H; exact H)
      · refine ⟨ir (by omega) (by omega), fun c61 => ?_, fun c61 => ?_⟩
        · refine ih _ _ _ (by omega) (by omega) ?_
          have e : nme (D 1) D bg en k (n + 1) i z = nme (D 1) D bg en k n (i + 1) (if z = 1 ∧ (D 1) (7 * k + i) = nmc D bg en i ∧ (nmc D bg en i ≠ 0 ∨ en ≤ bg + i) then 1 else 0) := rfl
          rw [e] at H
          first
          | (rw [if_pos (by omega)] at H; exact H)
          | (rw [if_neg (by omega)] at H; exact H)
        · refine M.ld1 (by omega) (by omega) (fun er => ?_)
          try rw [er]
          clear er
          refine ⟨ir (by omega) (by omega), ir (by omega) (by omega), fun c76 => ?_, fun c76 => ?_⟩
          · refine ⟨ir (by omega) (by omega), fun c81 => ?_, fun c81 => ?_⟩
            · refine ⟨ir (by omega) (by omega), ir (by omega) (by omega), fun c90 => ?_, fun c90 => ?_⟩
              · refine ih _ _ _ (by omega) (by omega) ?_
                have e : nme (D 1) D bg en k (n + 1) i z = nme (D 1) D bg en k n (i + 1) (if z = 1 ∧ (D 1) (7 * k + i) = nmc D bg en i ∧ (nmc D bg en i ≠ 0 ∨ en ≤ bg + i) then 1 else 0) := rfl
                rw [e] at H
                first
                | (rw [if_pos (by omega)] at H; exact H)
                | (rw [if_neg (by omega)] at H; exact H)
              · refine ih _ _ _ (by omega) (by omega) ?_
                have e : nme (D 1) D bg en k (n + 1) i z = nme (D 1) D bg en k n (i + 1) (if z = 1 ∧ (D 1) (7 * k + i) = nmc D bg en i ∧ (nmc D bg en i ≠ 0 ∨ en ≤ bg + i) then 1 else 0) := rfl
                rw [e] at H
                first
                | (rw [if_pos (by omega)] at H; exact H)
                | (rw [if_neg (by omega)] at H; exact H)
            · exfalso; omega
          · refine ih _ _ _ (by omega) (by omega) ?_
            have e : nme (D 1) D bg en k (n + 1) i z = nme (D 1) D bg en k n (i + 1) (if z = 1 ∧ (D 1) (7 * k + i) = nmc D bg en i ∧ (nmc D bg en i ≠ 0 ∨ en ≤ bg + i) then 1 else 0) := rfl
            rw [e] at H
            first
            | (rw [if_pos (by omega)] at H; exact H)
            | (rw [if_neg (by omega)] at H; exact H)
    · exfalso; omega
theorem L_X7_named_1_3 {d b : Nat} {h0 h : PH} {D : Nat → Int → Int} {s : Int → Int} {t : Int} {Q : Int → PH → Prop} {X : Nat → PH → Prop} {many bg en : Int} (M : Mt b h0 h D s t) (hm : 0 ≤ many ∧ many ≤ 8) (hb : 0 ≤ bg ∧ bg ≤ 700) (he : 0 ≤ en ∧ en ≤ 700) (hB : BY D) (hN : NB (D 1)) : ∀ (n : Nat) (k : Int) (z6 z7 z8 : Option PV), (0 ≤ k) → (k + n = many) → (∀ x : Int, x = nmv (D 1) D bg en n k → Q x h) → WP k_X7_named [] (RUN GQ (d + 1)) 0 0 (d + 2) Q X 3 [some (pA b), some (pA (b + 1)), some (pI many), some (pI bg), some (pI en), some (pI k), z6, z7, z8] [] h 0 0 := by
  intro n
  induction n with
  | zero =>
    intro k z6 z7 z8 hk hn H
    refine WP.of (RUN.mono GQ _) (cuts := [3, 28]) (n := 400) (v_X7_named_3 _ _ _ _ _ _ _ _ _ _ _ _ ?_)
    refine ⟨ir (by omega) (by omega), ir (by omega) (by omega), fun c6 => ?_, fun c6 => ?_⟩
    · exfalso; omega
    · first
      | exact H _ rfl
      | exact H _ (by rw [nmv, if_neg (by omega)])
  | succ n ih =>
    intro k z6 z7 z8 hk hn H
    refine WP.of (RUN.mono GQ _) (cuts := [3, 28]) (n := 400) (v_X7_named_3 _ _ _ _ _ _ _ _ _ _ _ _ ?_)
    refine ⟨ir (by omega) (by omega), ir (by omega) (by omega), fun c6 => ?_, fun c6 => ?_⟩
    · refine S_X7_inB (by omega) (by omega) (by omega) (fun x16 e16 => ?_)
      refine ⟨ir (by omega) (by omega), fun c19 => ?_, fun c19 => ?_⟩
      · first
        | exact H _ rfl
        | exact H _ (by rw [nmv, if_neg (by omega)])
      · refine L_X7_named_1_28 M hm hb he hB hN (by omega) (7) _ _ _ (by omega) (by omega) ?_
        have e : nmv (D 1) D bg en (n + 1) k = if 1 ≤ en - bg ∧ en - bg ≤ 7 then (if nme (D 1) D bg en k 7 0 1 = 1 then k else nmv (D 1) D bg en n (k + 1)) else -1 := rfl
        rw [e, if_pos (by omega)] at H
        exact ⟨fun q => H _ (by rw [if_pos q]), fun q _ _ _ => ih _ _ _ _ (by omega) (by omega) (by rw [if_neg q] at H; exact H)⟩
    · exfalso; omega
theorem S_X7_named_1 {d b : Nat} {h0 h : PH} {D : Nat → Int → Int} {s : Int → Int} {t : Int} {Q : Int → PH → Prop} {X : Nat → PH → Prop} {many bg en : Int} (M : Mt b h0 h D s t) (hm : 0 ≤ many ∧ many ≤ 8) (hb : 0 ≤ bg ∧ bg ≤ 700) (he : 0 ≤ en ∧ en ≤ 700) (hB : BY D) (hN : NB (D 1)) (H : ∀ x : Int, x = nmv (D 1) D bg en many.toNat 0 → Q x h) : RUN GQ (d + 2) m_X7_named [pA b, pA (b + 1), pI many, pI bg, pI en] h Q X := by
  rw [e_X7_named]
  refine WP.of (RUN.mono GQ _) (cuts := [3, 28]) (n := 400) (v_X7_named_0 _ _ _ _ _ _ _ _ _ _ _ _ ?_)
  refine L_X7_named_1_3 M hm hb he hB hN (many.toNat) _ _ _ _ (by omega) (by omega) ?_
  exact H
theorem L_X7_named_2_28 {d b : Nat} {h0 h : PH} {D : Nat → Int → Int} {s : Int → Int} {t : Int} {Q : Int → PH → Prop} {X : Nat → PH → Prop} {many bg en : Int} {k : Int} (M : Mt b h0 h D s t) (hm : 0 ≤ many ∧ many ≤ 6) (hb : 0 ≤ bg ∧ bg ≤ 700) (he : 0 ≤ en ∧ en ≤ 700) (hB : BY D) (hN : NB (D 2)) (hk : 0 ≤ k ∧ k < 6) : ∀ (n : Nat) (z i : Int) (z8 : Option PV), (0 ≤ i ∧ i + n = 7) → (z = 0 ∨ z = 1) → ((nme (D 2) D bg en k n i z = 1 → Q k h) ∧ (nme (D 2) D bg en k n i z ≠ 1 → ∀ z6 z7 z8 : Option PV, WP k_X7_named [] (RUN GQ (d + 1)) 0 0 (d + 2) Q X 3 [some (pA b), some (pA (b + 2)), some (pI many), some (pI bg), some (pI en), some (pI (k + 1)), z6, z7, z8] [] h 0 0)) → WP k_X7_named [] (RUN GQ (d + 1)) 0 0 (d + 2) Q X 28 [some (pA b), some (pA (b + 2)), some (pI many), some (pI bg), some (pI en), some (pI k), some (pI z), some (pI i), z8] [] h 0 0 := by
  intro n
  induction n with
  | zero =>
    intro z i z8 hi hz H
    refine WP.of (RUN.mono GQ _) (cuts := [3, 28]) (n := 400) (v_X7_named_28 _ _ _ _ _ _ _ _ _ _ _ _ ?_)
    refine ⟨ir (by omega) (by omega), ir (by omega) (by omega), fun c32 => ?_, fun c32 => ?_⟩
    · exfalso; omega
    · refine ⟨ir (by omega) (by omega), fun c108 => ?_, fun c108 => ?_⟩
      · exact H.2 (by show z ≠ 1; omega) _ _ _
      · exact H.1 (by show z = 1; omega)
  | succ n ih =>
    intro z i z8 hi hz H
    have nc1 : bg + i < en → nmc D bg en i = D 10 (bg + i) := fun h => if_pos h
    have nc2 : ¬ bg + i < en → nmc D bg en i = 0 := fun h => if_neg h
    have b1 := hN (7 * k + i) (by omega) (by omega)
    have b2 : bg + i < en → 0 ≤ D 10 (bg + i) ∧ D 10 (bg + i) ≤ 255 := fun h => hB _ (by omega) (by omega)
    refine WP.of (RUN.mono GQ _) (cuts := [3, 28]) (n := 400) (v_X7_named_28 _ _ _ _ _ _ _ _ _ _ _ _ ?_)
    refine ⟨ir (by omega) (by omega), ir (by omega) (by omega), fun c32 => ?_, fun c32 => ?_⟩
    · refine ⟨ir (by omega) (by omega), ir (by omega) (by omega), fun c41 => ?_, fun c41 => ?_⟩
      · refine ⟨M.k0, ?_⟩
        try rw [M.r16]
        refine M.ld10 (by omega) (by omega) (fun er => ?_)
        try rw [er]
        clear er
        refine ⟨ir (by omega) (by omega), fun c61 => ?_, fun c61 => ?_⟩
        · refine ih _ _ _ (by omega) (by omega) ?_
          have e : nme (D 2) D bg en k (n + 1) i z = nme (D 2) D bg en k n (i + 1) (if z = 1 ∧ (D 2) (7 * k + i) = nmc D bg en i ∧ (nmc D bg en i ≠ 0 ∨ en ≤ bg + i) then 1 else 0) := rfl
          rw [e] at H
          first
          | (rw [if_pos (by omega)] at H; exact H)
          | (rw [if_neg (by omega)] at H; exact H)
        · refine M.ld2 (by omega) (by omega) (fun er => ?_)
          try rw [er]
          clear er
          refine ⟨ir (by omega) (by omega), ir (by omega) (by omega), fun c76 => ?_, fun c76 => ?_⟩
          · refine ⟨ir (by omega) (by omega), fun c81 => ?_, fun c81 => ?_⟩
            · refine ⟨ir (by omega) (by omega), ir (by omega) (by omega), fun c90 => ?_, fun c90 => ?_⟩
              · refine ih _ _ _ (by omega) (by omega) ?_
                have e : nme (D 2) D bg en k (n + 1) i z = nme (D 2) D bg en k n (i + 1) (if z = 1 ∧ (D 2) (7 * k + i) = nmc D bg en i ∧ (nmc D bg en i ≠ 0 ∨ en ≤ bg + i) then 1 else 0) := rfl
                rw [e] at H
                first
                | (rw [if_pos (by omega)] at H; exact H)
                | (rw [if_neg (by omega)] at H; exact H)
              · refine ih _ _ _ (by omega) (by omega) ?_
                have e : nme (D 2) D bg en k (n + 1) i z = nme (D 2) D bg en k n (i + 1) (if z = 1 ∧ (D 2) (7 * k + i) = nmc D bg en i ∧ (nmc D bg en i ≠ 0 ∨ en ≤ bg + i) then 1 else 0) := rfl
                rw [e] at H
                first
                | (rw [if_pos (by omega)] at H; exact H)
                | (rw [if_neg (by omega)] at H; exact H)
            · refine ih _ _ _ (by omega) (by omega) ?_
              have e : nme (D 2) D bg en k (n + 1) i z = nme (D 2) D bg en k n (i + 1) (if z = 1 ∧ (D 2) (7 * k + i) = nmc D bg en i ∧ (nmc D bg en i ≠ 0 ∨ en ≤ bg + i) then 1 else 0) := rfl
              rw [e] at H
              first
              | (rw [if_pos (by omega)] at H; exact H)
              | (rw [if_neg (by omega)] at H; exact H)
          · refine ih _ _ _ (by omega) (by omega) ?_
            have e : nme (D 2) D bg en k (n + 1) i z = nme (D 2) D bg en k n (i + 1) (if z = 1 ∧ (D 2) (7 * k + i) = nmc D bg en i ∧ (nmc D bg en i ≠ 0 ∨ en ≤ bg + i) then 1 else 0) := rfl
            rw [e] at H
            first
            | (rw [if_pos (by omega)] at H; exact H)
            | (rw [if_neg (by omega)] at H; exact H)
      · refine ⟨ir (by omega) (by omega), fun c61 => ?_, fun c61 => ?_⟩
        · refine ih _ _ _ (by omega) (by omega) ?_
          have e : nme (D 2) D bg en k (n + 1) i z = nme (D 2) D bg en k n (i + 1) (if z = 1 ∧ (D 2) (7 * k + i) = nmc D bg en i ∧ (nmc D bg en i ≠ 0 ∨ en ≤ bg + i) then 1 else 0) := rfl
          rw [e] at H
          first
          | (rw [if_pos (by omega)] at H; exact H)
          | (rw [if_neg (by omega)] at H; exact H)
        · refine M.ld2 (by omega) (by omega) (fun er => ?_)
          try rw [er]
          clear er
          refine ⟨ir (by omega) (by omega), ir (by omega) (by omega), fun c76 => ?_, fun c76 => ?_⟩
          · refine ⟨ir (by omega) (by omega), fun c81 => ?_, fun c81 => ?_⟩
            · refine ⟨ir (by omega) (by omega), ir (by omega) (by omega), fun c90 => ?_, fun c90 => ?_⟩
              · refine ih _ _ _ (by omega) (by omega) ?_
                have e : nme (D 2) D bg en k (n + 1) i z = nme (D 2) D bg en k n (i + 1) (if z = 1 ∧ (D 2) (7 * k + i) = nmc D bg en i ∧ (nmc D bg en i ≠ 0 ∨ en ≤ bg + i) then 1 else 0) := rfl
                rw [e] at H
                first
                | (rw [if_pos (by omega)] at H; exact H)
                | (rw [if_neg (by omega)] at H; exact H)
              · refine ih _ _ _ (by omega) (by omega) ?_
                have e : nme (D 2) D bg en k (n + 1) i z = nme (D 2) D bg en k n (i + 1) (if z = 1 ∧ (D 2) (7 * k + i) = nmc D bg en i ∧ (nmc D bg en i ≠ 0 ∨ en ≤ bg + i) then 1 else 0) := rfl
                rw [e] at H
                first
                | (rw [if_pos (by omega)] at H; exact H)
                | (rw [if_neg (by omega)] at H; exact H)
            · exfalso; omega
          · refine ih _ _ _ (by omega) (by omega) ?_
            have e : nme (D 2) D bg en k (n + 1) i z = nme (D 2) D bg en k n (i + 1) (if z = 1 ∧ (D 2) (7 * k + i) = nmc D bg en i ∧ (nmc D bg en i ≠ 0 ∨ en ≤ bg + i) then 1 else 0) := rfl
            rw [e] at H
            first
            | (rw [if_pos (by omega)] at H; exact H)
            | (rw [if_neg (by omega)] at H; exact H)
    · exfalso; omega
theorem L_X7_named_2_3 {d b : Nat} {h0 h : PH} {D : Nat → Int → Int} {s : Int → Int} {t : Int} {Q : Int → PH → Prop} {X : Nat → PH → Prop} {many bg en : Int} (M : Mt b h0 h D s t) (hm : 0 ≤ many ∧ many ≤ 6) (hb : 0 ≤ bg ∧ bg ≤ 700) (he : 0 ≤ en ∧ en ≤ 700) (hB : BY D) (hN : NB (D 2)) : ∀ (n : Nat) (k : Int) (z6 z7 z8 : Option PV), (0 ≤ k) → (k + n = many) → (∀ x : Int, x = nmv (D 2) D bg en n k → Q x h) → WP k_X7_named [] (RUN GQ (d + 1)) 0 0 (d + 2) Q X 3 [some (pA b), some (pA (b + 2)), some (pI many), some (pI bg), some (pI en), some (pI k), z6, z7, z8] [] h 0 0 := by
  intro n
  induction n with
  | zero =>
    intro k z6 z7 z8 hk hn H
    refine WP.of (RUN.mono GQ _) (cuts := [3, 28]) (n := 400) (v_X7_named_3 _ _ _ _ _ _ _ _ _ _ _ _ ?_)
    refine ⟨ir (by omega) (by omega), ir (by omega) (by omega), fun c6 => ?_, fun c6 => ?_⟩
    · exfalso; omega
    · first
      | exact H _ rfl
      | exact H _ (by rw [nmv, if_neg (by omega)])
  | succ n ih =>
    intro k z6 z7 z8 hk hn H
    refine WP.of (RUN.mono GQ _) (cuts := [3, 28]) (n := 400) (v_X7_named_3 _ _ _ _ _ _ _ _ _ _ _ _ ?_)
    refine ⟨ir (by omega) (by omega), ir (by omega) (by omega), fun c6 => ?_, fun c6 => ?_⟩
    · refine S_X7_inB (by omega) (by omega) (by omega) (fun x16 e16 => ?_)
      refine ⟨ir (by omega) (by omega), fun c19 => ?_, fun c19 => ?_⟩
      · first
        | exact H _ rfl
        | exact H _ (by rw [nmv, if_neg (by omega)])
      · refine L_X7_named_2_28 M hm hb he hB hN (by omega) (7) _ _ _ (by omega) (by omega) ?_
        have e : nmv (D 2) D bg en (n + 1) k = if 1 ≤ en - bg ∧ en - bg ≤ 7 then (if nme (D 2) D bg en k 7 0 1 = 1 then k else nmv (D 2) D bg en n (k + 1)) else -1 := rfl
        rw [e, if_pos (by omega)] at H
        exact ⟨fun q => H _ (by rw [if_pos q]), fun q _ _ _ => ih _ _ _ _ (by omega) (by omega) (by rw [if_neg q] at H; exact H)⟩
    · exfalso; omega
theorem S_X7_named_2 {d b : Nat} {h0 h : PH} {D : Nat → Int → Int} {s : Int → Int} {t : Int} {Q : Int → PH → Prop} {X : Nat → PH → Prop} {many bg en : Int} (M : Mt b h0 h D s t) (hm : 0 ≤ many ∧ many ≤ 6) (hb : 0 ≤ bg ∧ bg ≤ 700) (he : 0 ≤ en ∧ en ≤ 700) (hB : BY D) (hN : NB (D 2)) (H : ∀ x : Int, x = nmv (D 2) D bg en many.toNat 0 → Q x h) : RUN GQ (d + 2) m_X7_named [pA b, pA (b + 2), pI many, pI bg, pI en] h Q X := by
  rw [e_X7_named]
  refine WP.of (RUN.mono GQ _) (cuts := [3, 28]) (n := 400) (v_X7_named_0 _ _ _ _ _ _ _ _ _ _ _ _ ?_)
  refine L_X7_named_2_3 M hm hb he hB hN (many.toNat) _ _ _ _ (by omega) (by omega) ?_
  exact H
theorem L_X7_named_11_28 {d b : Nat} {h0 h : PH} {D : Nat → Int → Int} {s : Int → Int} {t : Int} {Q : Int → PH → Prop} {X : Nat → PH → Prop} {many bg en : Int} {k : Int} (M : Mt b h0 h D s t) (hm : 0 ≤ many ∧ many ≤ 8) (hb : 0 ≤ bg ∧ bg ≤ 700) (he : 0 ≤ en ∧ en ≤ 700) (hB : BY D) (hN : NB (D 11)) (hk : 0 ≤ k ∧ k < 8) : ∀ (n : Nat) (z i : Int) (z8 : Option PV), (0 ≤ i ∧ i + n = 7) → (z = 0 ∨ z = 1) → ((nme (D 11) D bg en k n i z = 1 → Q k h) ∧ (nme (D 11) D bg en k n i z ≠ 1 → ∀ z6 z7 z8 : Option PV, WP k_X7_named [] (RUN GQ (d + 1)) 0 0 (d + 2) Q X 3 [some (pA b), some (pA (b + 11)), some (pI many), some (pI bg), some (pI en), some (pI (k + 1)), z6, z7, z8] [] h 0 0)) → WP k_X7_named [] (RUN GQ (d + 1)) 0 0 (d + 2) Q X 28 [some (pA b), some (pA (b + 11)), some (pI many), some (pI bg), some (pI en), some (pI k), some (pI z), some (pI i), z8] [] h 0 0 := by
  intro n
  induction n with
  | zero =>
    intro z i z8 hi hz H
    refine WP.of (RUN.mono GQ _) (cuts := [3, 28]) (n := 400) (v_X7_named_28 _ _ _ _ _ _ _ _ _ _ _ _ ?_)
    refine ⟨ir (by omega) (by omega), ir (by omega) (by omega), fun c32 => ?_, fun c32 => ?_⟩
    · exfalso; omega
    · refine ⟨ir (by omega) (by omega), fun c108 => ?_, fun c108 => ?_⟩
      · exact H.2 (by show z ≠ 1; omega) _ _ _
      · exact H.1 (by show z = 1; omega)
  | succ n ih =>
    intro z i z8 hi hz H
    have nc1 : bg + i < en → nmc D bg en i = D 10 (bg + i) := fun h => if_pos h
    have nc2 : ¬ bg + i < en → nmc D bg en i = 0 := fun h => if_neg h
    have b1 := hN (7 * k + i) (by omega) (by omega)
    have b2 : bg + i < en → 0 ≤ D 10 (bg + i) ∧ D 10 (bg + i) ≤ 255 := fun h => hB _ (by omega) (by omega)
    refine WP.of (RUN.mono GQ _) (cuts := [3, 28]) (n := 400) (v_X7_named_28 _ _ _ _ _ _ _ _ _ _ _ _ ?_)
    refine ⟨ir (by omega) (by omega), ir (by omega) (by omega), fun c32 => ?_, fun c32 => ?_⟩
    · refine ⟨ir (by omega) (by omega), ir (by omega) (by omega), fun c41 => ?_, fun c41 => ?_⟩
      · refine ⟨M.k0, ?_⟩
        try rw [M.r16]
        refine M.ld10 (by omega) (by omega) (fun er => ?_)
        try rw [er]
        clear er
        refine ⟨ir (by omega) (by omega), fun c61 => ?_, fun c61 => ?_⟩
        · refine ih _ _ _ (by omega) (by omega) ?_
          have e : nme (D 11) D bg en k (n + 1) i z = nme (D 11) D bg en k n (i + 1) (if z = 1 ∧ (D 11) (7 * k + i) = nmc D bg en i ∧ (nmc D bg en i ≠ 0 ∨ en ≤ bg + i) then 1 else 0) := rfl
          rw [e] at H
          first
          | (rw [if_pos (by omega)] at H; exact H)
          | (rw [if_neg (by omega)] at H; exact H)
        · refine M.ld11 (by omega) (by omega) (fun er => ?_)
          try rw [er]
          clear er
          refine ⟨ir (by omega) (by omega), ir (by omega) (by omega), fun c76 => ?_, fun c76 => ?_⟩
          · refine ⟨ir (by omega) (by omega), fun c81 => ?_, fun c81 => ?_⟩
            · refine ⟨ir (by omega) (by omega), ir (by omega) (by omega), fun c90 => ?_, fun c90 => ?_⟩
              · refine ih _ _ _ (by omega) (by omega) ?_
                have e : nme (D 11) D bg en k (n + 1) i z = nme (D 11) D bg en k n (i + 1) (if z = 1 ∧ (D 11) (7 * k + i) = nmc D bg en i ∧ (nmc D bg en i ≠ 0 ∨ en ≤ bg + i) then 1 else 0) := rfl
                rw [e] at H
                first
                | (rw [if_pos (by omega)] at H; exact H)
                | (rw [if_neg (by omega)] at H; exact H)
              · refine ih _ _ _ (by omega) (by omega) ?_
                have e : nme (D 11) D bg en k (n + 1) i z = nme (D 11) D bg en k n (i + 1) (if z = 1 ∧ (D 11) (7 * k + i) = nmc D bg en i ∧ (nmc D bg en i ≠ 0 ∨ en ≤ bg + i) then 1 else 0) := rfl
                rw [e] at H
                first
                | (rw [if_pos (by omega)] at H; exact H)
                | (rw [if_neg (by omega)] at H; exact H)
            · refine ih _ _ _ (by omega) (by omega) ?_
              have e : nme (D 11) D bg en k (n + 1) i z = nme (D 11) D bg en k n (i + 1) (if z = 1 ∧ (D 11) (7 * k + i) = nmc D bg en i ∧ (nmc D bg en i ≠ 0 ∨ en ≤ bg + i) then 1 else 0) := rfl
              rw [e] at H
              first
              | (rw [if_pos (by omega)] at H; exact H)
              | (rw [if_neg (by omega)] at H; exact H)
          · refine ih _ _ _ (by omega) (by omega) ?_
            have e : nme (D 11) D bg en k (n + 1) i z = nme (D 11) D bg en k n (i + 1) (if z = 1 ∧ (D 11) (7 * k + i) = nmc D bg en i ∧ (nmc D bg en i ≠ 0 ∨ en ≤ bg + i) then 1 else 0) := rfl
            rw [e] at H
            first
            | (rw [if_pos (by omega)] at H; exact H)
            | (rw [if_neg (by omega)] at H; exact H)
      · refine ⟨ir (by omega) (by omega), fun c61 => ?_, fun c61 => ?_⟩
        · refine ih _ _ _ (by omega) (by omega) ?_
          have e : nme (D 11) D bg en k (n + 1) i z = nme (D 11) D bg en k n (i + 1) (if z = 1 ∧ (D 11) (7 * k + i) = nmc D bg en i ∧ (nmc D bg en i ≠ 0 ∨ en ≤ bg + i) then 1 else 0) := rfl
          rw [e] at H
          first
          | (rw [if_pos (by omega)] at H; exact H)
          | (rw [if_neg (by omega)] at H; exact H)
        · refine M.ld11 (by omega) (by omega) (fun er => ?_)
          try rw [er]
          clear er
          refine ⟨ir (by omega) (by omega), ir (by omega) (by omega), fun c76 => ?_, fun c76 => ?_⟩
          · refine ⟨ir (by omega) (by omega), fun c81 => ?_, fun c81 => ?_⟩
            · refine ⟨ir (by omega) (by omega), ir (by omega) (by omega), fun c90 => ?_, fun c90 => ?_⟩
              · refine ih _ _ _ (by omega) (by omega) ?_
                have e : nme (D 11) D bg en k (n + 1) i z = nme (D 11) D bg en k n (i + 1) (if z = 1 ∧ (D 11) (7 * k + i) = nmc D bg en i ∧ (nmc D bg en i ≠ 0 ∨ en ≤ bg + i) then 1 else 0) := rfl
                rw [e] at H
                first
                | (rw [if_pos (by omega)] at H; exact H)
                | (rw [if_neg (by omega)] at H; exact H)
              · refine ih _ _ _ (by omega) (by omega) ?_
                have e : nme (D 11) D bg en k (n + 1) i z = nme (D 11) D bg en k n (i + 1) (if z = 1 ∧ (D 11) (7 * k + i) = nmc D bg en i ∧ (nmc D bg en i ≠ 0 ∨ en ≤ bg + i) then 1 else 0) := rfl
                rw [e] at H
                first
                | (rw [if_pos (by omega)] at H; exact H)
                | (rw [if_neg (by omega)] at H; exact H)
            · exfalso; omega
          · refine ih _ _ _ (by omega) (by omega) ?_
            have e : nme (D 11) D bg en k (n + 1) i z = nme (D 11) D bg en k n (i + 1) (if z = 1 ∧ (D 11) (7 * k + i) = nmc D bg en i ∧ (nmc D bg en i ≠ 0 ∨ en ≤ bg + i) then 1 else 0) := rfl
            rw [e] at H
            first
            | (rw [if_pos (by omega)] at H; exact H)
            | (rw [if_neg (by omega)] at H; exact H)
    · exfalso; omega
theorem L_X7_named_11_3 {d b : Nat} {h0 h : PH} {D : Nat → Int → Int} {s : Int → Int} {t : Int} {Q : Int → PH → Prop} {X : Nat → PH → Prop} {many bg en : Int} (M : Mt b h0 h D s t) (hm : 0 ≤ many ∧ many ≤ 8) (hb : 0 ≤ bg ∧ bg ≤ 700) (he : 0 ≤ en ∧ en ≤ 700) (hB : BY D) (hN : NB (D 11)) : ∀ (n : Nat) (k : Int) (z6 z7 z8 : Option PV), (0 ≤ k) → (k + n = many) → (∀ x : Int, x = nmv (D 11) D bg en n k → Q x h) → WP k_X7_named [] (RUN GQ (d + 1)) 0 0 (d + 2) Q X 3 [some (pA b), some (pA (b + 11)), some (pI many), some (pI bg), some (pI en), some (pI k), z6, z7, z8] [] h 0 0 := by
  intro n
  induction n with
  | zero =>
    intro k z6 z7 z8 hk hn H
    refine WP.of (RUN.mono GQ _) (cuts := [3, 28]) (n := 400) (v_X7_named_3 _ _ _ _ _ _ _ _ _ _ _ _ ?_)
    refine ⟨ir (by omega) (by omega), ir (by omega) (by omega), fun c6 => ?_, fun c6 => ?_⟩
    · exfalso; omega
    · first
      | exact H _ rfl
      | exact H _ (by rw [nmv, if_neg (by omega)])
  | succ n ih =>
    intro k z6 z7 z8 hk hn H
    refine WP.of (RUN.mono GQ _) (cuts := [3, 28]) (n := 400) (v_X7_named_3 _ _ _ _ _ _ _ _ _ _ _ _ ?_)
    refine ⟨ir (by omega) (by omega), ir (by omega) (by omega), fun c6 => ?_, fun c6 => ?_⟩
    · refine S_X7_inB (by omega) (by omega) (by omega) (fun x16 e16 => ?_)
      refine ⟨ir (by omega) (by omega), fun c19 => ?_, fun c19 => ?_⟩
      · first
        | exact H _ rfl
        | exact H _ (by rw [nmv, if_neg (by omega)])
      · refine L_X7_named_11_28 M hm hb he hB hN (by omega) (7) _ _ _ (by omega) (by omega) ?_
        have e : nmv (D 11) D bg en (n + 1) k = if 1 ≤ en - bg ∧ en - bg ≤ 7 then (if nme (D 11) D bg en k 7 0 1 = 1 then k else nmv (D 11) D bg en n (k + 1)) else -1 := rfl
        rw [e, if_pos (by omega)] at H
        exact ⟨fun q => H _ (by rw [if_pos q]), fun q _ _ _ => ih _ _ _ _ (by omega) (by omega) (by rw [if_neg q] at H; exact H)⟩
    · exfalso; omega
theorem S_X7_named_11 {d b : Nat} {h0 h : PH} {D : Nat → Int → Int} {s : Int → Int} {t : Int} {Q : Int → PH → Prop} {X : Nat → PH → Prop} {many bg en : Int} (M : Mt b h0 h D s t) (hm : 0 ≤ many ∧ many ≤ 8) (hb : 0 ≤ bg ∧ bg ≤ 700) (he : 0 ≤ en ∧ en ≤ 700) (hB : BY D) (hN : NB (D 11)) (H : ∀ x : Int, x = nmv (D 11) D bg en many.toNat 0 → Q x h) : RUN GQ (d + 2) m_X7_named [pA b, pA (b + 11), pI many, pI bg, pI en] h Q X := by
  rw [e_X7_named]
  refine WP.of (RUN.mono GQ _) (cuts := [3, 28]) (n := 400) (v_X7_named_0 _ _ _ _ _ _ _ _ _ _ _ _ ?_)
  refine L_X7_named_11_3 M hm hb he hB hN (many.toNat) _ _ _ _ (by omega) (by omega) ?_
  exact H
theorem L_X7_named_12_28 {d b : Nat} {h0 h : PH} {D : Nat → Int → Int} {s : Int → Int} {t : Int} {Q : Int → PH → Prop} {X : Nat → PH → Prop} {many bg en : Int} {k : Int} (M : Mt b h0 h D s t) (hm : 0 ≤ many ∧ many ≤ 6) (hb : 0 ≤ bg ∧ bg ≤ 700) (he : 0 ≤ en ∧ en ≤ 700) (hB : BY D) (hN : NB (D 12)) (hk : 0 ≤ k ∧ k < 6) : ∀ (n : Nat) (z i : Int) (z8 : Option PV), (0 ≤ i ∧ i + n = 7) → (z = 0 ∨ z = 1) → ((nme (D 12) D bg en k n i z = 1 → Q k h) ∧ (nme (D 12) D bg en k n i z ≠ 1 → ∀ z6 z7 z8 : Option PV, WP k_X7_named [] (RUN GQ (d + 1)) 0 0 (d + 2) Q X 3 [some (pA b), some (pA (b + 12)), some (pI many), some (pI bg), some (pI en), some (pI (k + 1)), z6, z7, z8] [] h 0 0)) → WP k_X7_named [] (RUN GQ (d + 1)) 0 0 (d + 2) Q X 28 [some (pA b), some (pA (b + 12)), some (pI many), some (pI bg), some (pI en), some (pI k), some (pI z), some (pI i), z8] [] h 0 0 := by
  intro n
  induction n with
  | zero =>
    intro z i z8 hi hz H
    refine WP.of (RUN.mono GQ _) (cuts := [3, 28]) (n := 400) (v_X7_named_28 _ _ _ _ _ _ _ _ _ _ _ _ ?_)
    refine ⟨ir (by omega) (by omega), ir (by omega) (by omega), fun c32 => ?_, fun c32 => ?_⟩
    · exfalso; omega
    · refine ⟨ir (by omega) (by omega), fun c108 => ?_, fun c108 => ?_⟩
      · exact H.2 (by show z ≠ 1; omega) _ _ _
      · exact H.1 (by show z = 1; omega)
  | succ n ih =>
    intro z i z8 hi hz H
    have nc1 : bg + i < en → nmc D bg en i = D 10 (bg + i) := fun h => if_pos h
    have nc2 : ¬ bg + i < en → nmc D bg en i = 0 := fun h => if_neg h
    have b1 := hN (7 * k + i) (by omega) (by omega)
    have b2 : bg + i < en → 0 ≤ D 10 (bg + i) ∧ D 10 (bg + i) ≤ 255 := fun h => hB _ (by omega) (by omega)
    refine WP.of (RUN.mono GQ _) (cuts := [3, 28]) (n := 400) (v_X7_named_28 _ _ _ _ _ _ _ _ _ _ _ _ ?_)
    refine ⟨ir (by omega) (by omega), ir (by omega) (by omega), fun c32 => ?_, fun c32 => ?_⟩
    · refine ⟨ir (by omega) (by omega), ir (by omega) (by omega), fun c41 => ?_, fun c41 => ?_⟩
      · refine ⟨M.k0, ?_⟩
        try rw [M.r16]
        refine M.ld10 (by omega) (by omega) (fun er => ?_)
        try rw [er]
        clear er
        refine ⟨ir (by omega) (by omega), fun c61 => ?_, fun c61 => ?_⟩
        · refine ih _ _ _ (by omega) (by omega) ?_
          have e : nme (D 12) D bg en k (n + 1) i z = nme (D 12) D bg en k n (i + 1) (if z = 1 ∧ (D 12) (7 * k + i) = nmc D bg en i ∧ (nmc D bg en i ≠ 0 ∨ en ≤ bg + i) then 1 else 0) := rfl
          rw [e] at H
          first
          | (rw [if_pos (by omega)] at H; exact H)
          | (rw [if_neg (by omega)] at H; exact H)
        · refine M.ld12 (by omega) (by omega) (fun er => ?_)
          try rw [er]
          clear er
          refine ⟨ir (by omega) (by omega), ir (by omega) (by omega), fun c76 => ?_, fun c76 => ?_⟩
          · refine ⟨ir (by omega) (by omega), fun c81 => ?_, fun c81 => ?_⟩
            · refine ⟨ir (by omega) (by omega), ir (by omega) (by omega), fun c90 => ?_, fun c90 => ?_⟩
              · refine ih _ _ _ (by omega) (by omega) ?_
                have e : nme (D 12) D bg en k (n + 1) i z = nme (D 12) D bg en k n (i + 1) (if z = 1 ∧ (D 12) (7 * k + i) = nmc D bg en i ∧ (nmc D bg en i ≠ 0 ∨ en ≤ bg + i) then 1 else 0) := rfl
                rw [e] at H
                first
                | (rw [if_pos (by omega)] at H; exact H)
                | (rw [if_neg (by omega)] at H; exact H)
              · refine ih _ _ _ (by omega) (by omega) ?_
                have e : nme (D 12) D bg en k (n + 1) i z = nme (D 12) D bg en k n (i + 1) (if z = 1 ∧ (D 12) (7 * k + i) = nmc D bg en i ∧ (nmc D bg en i ≠ 0 ∨ en ≤ bg + i) then 1 else 0) := rfl
                rw [e] at H
                first
                | (rw [if_pos (by omega)] at H; exact H)
                | (rw [if_neg (by omega)] at H; exact H)
            · refine ih _ _ _ (by omega) (by omega) ?_
              have e : nme (D 12) D bg en k (n + 1) i z = nme (D 12) D bg en k n (i + 1) (if z = 1 ∧ (D 12) (7 * k + i) = nmc D bg en i ∧ (nmc D bg en i ≠ 0 ∨ en ≤ bg + i) then 1 else 0) := rfl
              rw [e] at H
              first
              | (rw [if_pos (by omega)] at H; exact H)
              | (rw [if_neg (by omega)] at H; exact H)
          · refine ih _ _ _ (by omega) (by omega) ?_
            have e : nme (D 12) D bg en k (n + 1) i z = nme (D 12) D bg en k n (i + 1) (if z = 1 ∧ (D 12) (7 * k + i) = nmc D bg en i ∧ (nmc D bg en i ≠ 0 ∨ en ≤ bg + i) then 1 else 0) := rfl
            rw [e] at H
            first
            | (rw [if_pos (by omega)] at H; exact H)
            | (rw [if_neg (by omega)] at H; exact H)
      · refine ⟨ir (by omega) (by omega), fun c61 => ?_, fun c61 => ?_⟩
        · refine ih _ _ _ (by omega) (by omega) ?_
          have e : nme (D 12) D bg en k (n + 1) i z = nme (D 12) D bg en k n (i + 1) (if z = 1 ∧ (D 12) (7 * k + i) = nmc D bg en i ∧ (nmc D bg en i ≠ 0 ∨ en ≤ bg + i) then 1 else 0) := rfl
          rw [e] at H
          first
          | (rw [if_pos (by omega)] at H; exact H)
          | (rw [if_neg (by omega)] at H; exact H)
        · refine M.ld12 (by omega) (by omega) (fun er => ?_)
          try rw [er]
          clear er
          refine ⟨ir (by omega) (by omega), ir (by omega) (by omega), fun c76 => ?_, fun c76 => ?_⟩
          · refine ⟨ir (by omega) (by omega), fun c81 => ?_, fun c81 => ?_⟩
            · refine ⟨ir (by omega) (by omega), ir (by omega) (by omega), fun c90 => ?_, fun c90 => ?_⟩
              · refine ih _ _ _ (by omega) (by omega) ?_
                have e : nme (D 12) D bg en k (n + 1) i z = nme (D 12) D bg en k n (i + 1) (if z = 1 ∧ (D 12) (7 * k + i) = nmc D bg en i ∧ (nmc D bg en i ≠ 0 ∨ en ≤ bg + i) then 1 else 0) := rfl
                rw [e] at H
                first
                | (rw [if_pos (by omega)] at H; exact H)
                | (rw [if_neg (by omega)] at H; exact H)
              · refine ih _ _ _ (by omega) (by omega) ?_
                have e : nme (D 12) D bg en k (n + 1) i z = nme (D 12) D bg en k n (i + 1) (if z = 1 ∧ (D 12) (7 * k + i) = nmc D bg en i ∧ (nmc D bg en i ≠ 0 ∨ en ≤ bg + i) then 1 else 0) := rfl
                rw [e] at H
                first
                | (rw [if_pos (by omega)] at H; exact H)
                | (rw [if_neg (by omega)] at H; exact H)
            · exfalso; omega
          · refine ih _ _ _ (by omega) (by omega) ?_
            have e : nme (D 12) D bg en k (n + 1) i z = nme (D 12) D bg en k n (i + 1) (if z = 1 ∧ (D 12) (7 * k + i) = nmc D bg en i ∧ (nmc D bg en i ≠ 0 ∨ en ≤ bg + i) then 1 else 0) := rfl
            rw [e] at H
            first
            | (rw [if_pos (by omega)] at H; exact H)
            | (rw [if_neg (by omega)] at H; exact H)
    · exfalso; omega
theorem L_X7_named_12_3 {d b : Nat} {h0 h : PH} {D : Nat → Int → Int} {s : Int → Int} {t : Int} {Q : Int → PH → Prop} {X : Nat → PH → Prop} {many bg en : Int} (M : Mt b h0 h D s t) (hm : 0 ≤ many ∧ many ≤ 6) (hb : 0 ≤ bg ∧ bg ≤ 700) (he : 0 ≤ en ∧ en ≤ 700) (hB : BY D) (hN : NB (D 12)) : ∀ (n : Nat) (k : Int) (z6 z7 z8 : Option PV), (0 ≤ k) → (k + n = many) → (∀ x : Int, x = nmv (D 12) D bg en n k → Q x h) → WP k_X7_named [] (RUN GQ (d + 1)) 0 0 (d + 2) Q X 3 [some (pA b), some (pA (b + 12)), some (pI many), some (pI bg), some (pI en), some (pI k), z6, z7, z8] [] h 0 0 := by
  intro n
  induction n with
  | zero =>
    intro k z6 z7 z8 hk hn H
    refine WP.of (RUN.mono GQ _) (cuts := [3, 28]) (n := 400) (v_X7_named_3 _ _ _ _ _ _ _ _ _ _ _ _ ?_)
    refine ⟨ir (by omega) (by omega), ir (by omega) (by omega), fun c6 => ?_, fun c6 => ?_⟩
    · exfalso; omega
    · first
      | exact H _ rfl
      | exact H _ (by rw [nmv, if_neg (by omega)])
  | succ n ih =>
    intro k z6 z7 z8 hk hn H
    refine WP.of (RUN.mono GQ _) (cuts := [3, 28]) (n := 400) (v_X7_named_3 _ _ _ _ _ _ _ _ _ _ _ _ ?_)
    refine ⟨ir (by omega) (by omega), ir (by omega) (by omega), fun c6 => ?_, fun c6 => ?_⟩
    · refine S_X7_inB (by omega) (by omega) (by omega) (fun x16 e16 => ?_)
      refine ⟨ir (by omega) (by omega), fun c19 => ?_, fun c19 => ?_⟩
      · first
        | exact H _ rfl
        | exact H _ (by rw [nmv, if_neg (by omega)])
      · refine L_X7_named_12_28 M hm hb he hB hN (by omega) (7) _ _ _ (by omega) (by omega) ?_
        have e : nmv (D 12) D bg en (n + 1) k = if 1 ≤ en - bg ∧ en - bg ≤ 7 then (if nme (D 12) D bg en k 7 0 1 = 1 then k else nmv (D 12) D bg en n (k + 1)) else -1 := rfl
        rw [e, if_pos (by omega)] at H
        exact ⟨fun q => H _ (by rw [if_pos q]), fun q _ _ _ => ih _ _ _ _ (by omega) (by omega) (by rw [if_neg q] at H; exact H)⟩
    · exfalso; omega
theorem S_X7_named_12 {d b : Nat} {h0 h : PH} {D : Nat → Int → Int} {s : Int → Int} {t : Int} {Q : Int → PH → Prop} {X : Nat → PH → Prop} {many bg en : Int} (M : Mt b h0 h D s t) (hm : 0 ≤ many ∧ many ≤ 6) (hb : 0 ≤ bg ∧ bg ≤ 700) (he : 0 ≤ en ∧ en ≤ 700) (hB : BY D) (hN : NB (D 12)) (H : ∀ x : Int, x = nmv (D 12) D bg en many.toNat 0 → Q x h) : RUN GQ (d + 2) m_X7_named [pA b, pA (b + 12), pI many, pI bg, pI en] h Q X := by
  rw [e_X7_named]
  refine WP.of (RUN.mono GQ _) (cuts := [3, 28]) (n := 400) (v_X7_named_0 _ _ _ _ _ _ _ _ _ _ _ _ ?_)
  refine L_X7_named_12_3 M hm hb he hB hN (many.toNat) _ _ _ _ (by omega) (by omega) ?_
  exact H
theorem S_X7_namedHere_11 {d b : Nat} {h0 h : PH} {D : Nat → Int → Int} {s : Int → Int} {t : Int} {Q : Int → PH → Prop} {X : Nat → PH → Prop} {many : Int} (M : Mt b h0 h D s t) (P : PR D) (hm : 0 ≤ many ∧ many ≤ 8) (hN : NB (D 11)) (H : ∀ (x : Int) h', x = nhV 11 many D → Mt b h0 h' (nhD 11 many D) s t → Q x h') : RUN GQ (d + 3) m_X7_namedHere [pA b, pA (b + 11), pI many] h Q X := by
  have Pw := P.w
  have P3 := P.2.2.1
  rw [e_X7_namedHere]
  refine WP.of (RUN.mono GQ _) (cuts := []) (n := 400) (v_X7_namedHere_0 _ _ _ _ _ _ _ ?_)
  refine ⟨M.k0, ?_⟩
  try rw [M.f23]
  refine ⟨ir (by omega) (by omega), ir (by omega) (by omega), fun c6 => ?_, fun c6 => ?_⟩
  · refine ⟨M.k0, ?_⟩
    refine S_X7_failsIf M (by omega) (by exact P.w) (fun x15 h15 e15 M15 => ?_)
    subst e15
    obtain ⟨F, hF⟩ : ∃ F, F = n1D D := ⟨_, rfl⟩
    have MF := M15.castD (D' := F) (by rw [hF]; unfold n1D fiD; (repeat' split) <;> first | rfl | (exfalso; omega))
    have PF : PR F := by rw [hF]; exact P.n1
    have PFw := PF.w
    have PF1 := PF.1
    have PF2 := PF.2.1
    have NF : NB (F 11) := by rw [hF, n1_row D (by decide)]; exact hN
    refine ⟨MF.k0, ?_⟩
    try rw [MF.f25]
    refine ⟨ir (by omega) (by omega), fun c22 => ?_, fun c22 => ?_⟩
    · refine ⟨MF.k0, ?_⟩
      try rw [MF.f22]
      refine ⟨MF.k0, ?_⟩
      try rw [MF.f21]
      have rg := nmv_rng (F 11) F (F 0 22) (F 0 21) many.toNat 0 (by omega)
      refine ⟨MF.k0, ?_⟩
      refine S_X7_named_11 MF (by omega) (by omega) (by omega) (by exact PF.B) (by exact NF) (fun x36 e36 => ?_)
      subst e36
      refine ⟨ir (by omega) (by omega), ir (by omega) (by omega), fun c47 => ?_, fun c47 => ?_⟩
      · refine ⟨MF.k0, ?_⟩
        refine S_X7_failsIf MF (by omega) (by exact PF.w) (fun x56 h56 e56 M56 => ?_)
        subst e56
        obtain ⟨G, hG⟩ : ∃ G, G = nhD 11 many D := ⟨_, rfl⟩
        have MG := M56.castD (D' := G) (by rw [hG]; unfold nhD nhK fiD; rw [← hF]; (repeat' split) <;> first | rfl | (exfalso; omega))
        have PG : PR G := by rw [hG]; exact P.nh _ _
        have PGw := PG.w
        refine ⟨MG.k0, ?_⟩
        try rw [MG.f25]
        refine ⟨ir (by omega) (by omega), fun c63 => ?_, fun c63 => ?_⟩
        · refine H _ _ ?_ (MG.castD hG.symm)
          unfold nhV nhK
          rw [← hG, ← hF]
          (repeat' split) <;> first | rfl | (exfalso; omega) | omega
        · refine H _ _ ?_ (MG.castD hG.symm)
          unfold nhV nhK
          rw [← hG, ← hF]
          (repeat' split) <;> first | rfl | (exfalso; omega) | omega
      · refine ⟨MF.k0, ?_⟩
        refine S_X7_failsIf MF (by omega) (by exact PF.w) (fun x56 h56 e56 M56 => ?_)
        subst e56
        obtain ⟨G, hG⟩ : ∃ G, G = nhD 11 many D := ⟨_, rfl⟩
        have MG := M56.castD (D' := G) (by rw [hG]; unfold nhD nhK fiD; rw [← hF]; (repeat' split) <;> first | rfl | (exfalso; omega))
        have PG : PR G := by rw [hG]; exact P.nh _ _
        have PGw := PG.w
        refine ⟨MG.k0, ?_⟩
        try rw [MG.f25]
        refine ⟨ir (by omega) (by omega), fun c63 => ?_, fun c63 => ?_⟩
        · refine H _ _ ?_ (MG.castD hG.symm)
          unfold nhV nhK
          rw [← hG, ← hF]
          (repeat' split) <;> first | rfl | (exfalso; omega) | omega
        · refine H _ _ ?_ (MG.castD hG.symm)
          unfold nhV nhK
          rw [← hG, ← hF]
          (repeat' split) <;> first | rfl | (exfalso; omega) | omega
    · refine ⟨ir (by omega) (by omega), ir (by omega) (by omega), fun c47 => ?_, fun c47 => ?_⟩
      · exfalso; omega
      · refine ⟨MF.k0, ?_⟩
        refine S_X7_failsIf MF (by omega) (by exact PF.w) (fun x56 h56 e56 M56 => ?_)
        subst e56
        obtain ⟨G, hG⟩ : ∃ G, G = nhD 11 many D := ⟨_, rfl⟩
        have MG := M56.castD (D' := G) (by rw [hG]; unfold nhD nhK fiD; rw [← hF]; (repeat' split) <;> first | rfl | (exfalso; omega))
        have PG : PR G := by rw [hG]; exact P.nh _ _
        have PGw := PG.w
        refine ⟨MG.k0, ?_⟩
        try rw [MG.f25]
        refine ⟨ir (by omega) (by omega), fun c63 => ?_, fun c63 => ?_⟩
        · refine H _ _ ?_ (MG.castD hG.symm)
          unfold nhV nhK
          rw [← hG, ← hF]
          (repeat' split) <;> first | rfl | (exfalso; omega) | omega
        · refine H _ _ ?_ (MG.castD hG.symm)
          unfold nhV nhK
          rw [← hG, ← hF]
          (repeat' split) <;> first | rfl | (exfalso; omega) | omega
  · refine ⟨M.k0, ?_⟩
    refine S_X7_failsIf M (by omega) (by exact P.w) (fun x15 h15 e15 M15 => ?_)
    subst e15
    obtain ⟨F, hF⟩ : ∃ F, F = n1D D := ⟨_, rfl⟩
    have MF := M15.castD (D' := F) (by rw [hF]; unfold n1D fiD; (repeat' split) <;> first | rfl | (exfalso; omega))
    have PF : PR F := by rw [hF]; exact P.n1
    have PFw := PF.w
    have PF1 := PF.1
    have PF2 := PF.2.1
    have NF : NB (F 11) := by rw [hF, n1_row D (by decide)]; exact hN
    refine ⟨MF.k0, ?_⟩
    try rw [MF.f25]
    refine ⟨ir (by omega) (by omega), fun c22 => ?_, fun c22 => ?_⟩
    · refine ⟨MF.k0, ?_⟩
      try rw [MF.f22]
      refine ⟨MF.k0, ?_⟩
      try rw [MF.f21]
      have rg := nmv_rng (F 11) F (F 0 22) (F 0 21) many.toNat 0 (by omega)
      refine ⟨MF.k0, ?_⟩
      refine S_X7_named_11 MF (by omega) (by omega) (by omega) (by exact PF.B) (by exact NF) (fun x36 e36 => ?_)
      subst e36
      refine ⟨ir (by omega) (by omega), ir (by omega) (by omega), fun c47 => ?_, fun c47 => ?_⟩
      · refine ⟨MF.k0, ?_⟩
        refine S_X7_failsIf MF (by omega) (by exact PF.w) (fun x56 h56 e56 M56 => ?_)
        subst e56
        obtain ⟨G, hG⟩ : ∃ G, G = nhD 11 many D := ⟨_, rfl⟩
        have MG := M56.castD (D' := G) (by rw [hG]; unfold nhD nhK fiD; rw [← hF]; (repeat' split) <;> first | rfl | (exfalso; omega))
        have PG : PR G := by rw [hG]; exact P.nh _ _
        have PGw := PG.w
        refine ⟨MG.k0, ?_⟩
        try rw [MG.f25]
        refine ⟨ir (by omega) (by omega), fun c63 => ?_, fun c63 => ?_⟩
        · refine H _ _ ?_ (MG.castD hG.symm)
          unfold nhV nhK
          rw [← hG, ← hF]
          (repeat' split) <;> first | rfl | (exfalso; omega) | omega
        · refine H _ _ ?_ (MG.castD hG.symm)
          unfold nhV nhK
          rw [← hG, ← hF]
          (repeat' split) <;> first | rfl | (exfalso; omega) | omega
      · refine ⟨MF.k0, ?_⟩
        refine S_X7_failsIf MF (by omega) (by exact PF.w) (fun x56 h56 e56 M56 => ?_)
        subst e56
        obtain ⟨G, hG⟩ : ∃ G, G = nhD 11 many D := ⟨_, rfl⟩
        have MG := M56.castD (D' := G) (by rw [hG]; unfold nhD nhK fiD; rw [← hF]; (repeat' split) <;> first | rfl | (exfalso; omega))
        have PG : PR G := by rw [hG]; exact P.nh _ _
        have PGw := PG.w
        refine ⟨MG.k0, ?_⟩
        try rw [MG.f25]
        refine ⟨ir (by omega) (by omega), fun c63 => ?_, fun c63 => ?_⟩
        · refine H _ _ ?_ (MG.castD hG.symm)
          unfold nhV nhK
          rw [← hG, ← hF]
          (repeat' split) <;> first | rfl | (exfalso; omega) | omega
        · refine H _ _ ?_ (MG.castD hG.symm)
          unfold nhV nhK
          rw [← hG, ← hF]
          (repeat' split) <;> first | rfl | (exfalso; omega) | omega
    · refine ⟨ir (by omega) (by omega), ir (by omega) (by omega), fun c47 => ?_, fun c47 => ?_⟩
      · exfalso; omega
      · refine ⟨MF.k0, ?_⟩
        refine S_X7_failsIf MF (by omega) (by exact PF.w) (fun x56 h56 e56 M56 => ?_)
        subst e56
        obtain ⟨G, hG⟩ : ∃ G, G = nhD 11 many D := ⟨_, rfl⟩
        have MG := M56.castD (D' := G) (by rw [hG]; unfold nhD nhK fiD; rw [← hF]; (repeat' split) <;> first | rfl | (exfalso; omega))
        have PG : PR G := by rw [hG]; exact P.nh _ _
        have PGw := PG.w
        refine ⟨MG.k0, ?_⟩
        try rw [MG.f25]
        refine ⟨ir (by omega) (by omega), fun c63 => ?_, fun c63 => ?_⟩
        · refine H _ _ ?_ (MG.castD hG.symm)
          unfold nhV nhK
          rw [← hG, ← hF]
          (repeat' split) <;> first | rfl | (exfalso; omega) | omega
        · refine H _ _ ?_ (MG.castD hG.symm)
          unfold nhV nhK
          rw [← hG, ← hF]
          (repeat' split) <;> first | rfl | (exfalso; omega) | omega
theorem S_X7_namedHere_12 {d b : Nat} {h0 h : PH} {D : Nat → Int → Int} {s : Int → Int} {t : Int} {Q : Int → PH → Prop} {X : Nat → PH → Prop} {many : Int} (M : Mt b h0 h D s t) (P : PR D) (hm : 0 ≤ many ∧ many ≤ 6) (hN : NB (D 12)) (H : ∀ (x : Int) h', x = nhV 12 many D → Mt b h0 h' (nhD 12 many D) s t → Q x h') : RUN GQ (d + 3) m_X7_namedHere [pA b, pA (b + 12), pI many] h Q X := by
  have Pw := P.w
  have P3 := P.2.2.1
  rw [e_X7_namedHere]
  refine WP.of (RUN.mono GQ _) (cuts := []) (n := 400) (v_X7_namedHere_0 _ _ _ _ _ _ _ ?_)
  refine ⟨M.k0, ?_⟩
  try rw [M.f23]
  refine ⟨ir (by omega) (by omega), ir (by omega) (by omega), fun c6 => ?_, fun c6 => ?_⟩
  · refine ⟨M.k0, ?_⟩
    refine S_X7_failsIf M (by omega) (by exact P.w) (fun x15 h15 e15 M15 => ?_)
    subst e15
    obtain ⟨F, hF⟩ : ∃ F, F = n1D D := ⟨_, rfl⟩
    have MF := M15.castD (D' := F) (by rw [hF]; unfold n1D fiD; (repeat' split) <;> first | rfl | (exfalso; omega))
    have PF : PR F := by rw [hF]; exact P.n1
    have PFw := PF.w
    have PF1 := PF.1
    have PF2 := PF.2.1
    have NF : NB (F 12) := by rw [hF, n1_row D (by decide)]; exact hN
    refine ⟨MF.k0, ?_⟩
    try rw [MF.f25]
    refine ⟨ir (by omega) (by omega), fun c22 => ?_, fun c22 => ?_⟩
    · refine ⟨MF.k0, ?_⟩
      try rw [MF.f22]
      refine ⟨MF.k0, ?_⟩
      try rw [MF.f21]
      have rg := nmv_rng (F 12) F (F 0 22) (F 0 21) many.toNat 0 (by omega)
      refine ⟨MF.k0, ?_⟩
      refine S_X7_named_12 MF (by omega) (by omega) (by omega) (by exact PF.B) (by exact NF) (fun x36 e36 => ?_)
      subst e36
      refine ⟨ir (by omega) (by omega), ir (by omega) (by omega), fun c47 => ?_, fun c47 => ?_⟩
      · refine ⟨MF.k0, ?_⟩
        refine S_X7_failsIf MF (by omega) (by exact PF.w) (fun x56 h56 e56 M56 => ?_)
        subst e56
        obtain ⟨G, hG⟩ : ∃ G, G = nhD 12 many D := ⟨_, rfl⟩
        have MG := M56.castD (D' := G) (by rw [hG]; unfold nhD nhK fiD; rw [← hF]; (repeat' split) <;> first | rfl | (exfalso; omega))
        have PG : PR G := by rw [hG]; exact P.nh _ _
        have PGw := PG.w
        refine ⟨MG.k0, ?_⟩
        try rw [MG.f25]
        refine ⟨ir (by omega) (by omega), fun c63 => ?_, fun c63 => ?_⟩
        · refine H _ _ ?_ (MG.castD hG.symm)
          unfold nhV nhK
          rw [← hG, ← hF]
          (repeat' split) <;> first | rfl | (exfalso; omega) | omega
        · refine H _ _ ?_ (MG.castD hG.symm)
          unfold nhV nhK
          rw [← hG, ← hF]
          (repeat' split) <;> first | rfl | (exfalso; omega) | omega
      · refine ⟨MF.k0, ?_⟩
        refine S_X7_failsIf MF (by omega) (by exact PF.w) (fun x56 h56 e56 M56 => ?_)
        subst e56
        obtain ⟨G, hG⟩ : ∃ G, G = nhD 12 many D := ⟨_, rfl⟩
        have MG := M56.castD (D' := G) (by rw [hG]; unfold nhD nhK fiD; rw [← hF]; (repeat' split) <;> first | rfl | (exfalso; omega))
        have PG : PR G := by rw [hG]; exact P.nh _ _
        have PGw := PG.w
        refine ⟨MG.k0, ?_⟩
        try rw [MG.f25]
        refine ⟨ir (by omega) (by omega), fun c63 => ?_, fun c63 => ?_⟩
        · refine H _ _ ?_ (MG.castD hG.symm)
          unfold nhV nhK
          rw [← hG, ← hF]
          (repeat' split) <;> first | rfl | (exfalso; omega) | omega
        · refine H _ _ ?_ (MG.castD hG.symm)
          unfold nhV nhK
          rw [← hG, ← hF]
          (repeat' split) <;> first | rfl | (exfalso; omega) | omega
    · refine ⟨ir (by omega) (by omega), ir (by omega) (by omega), fun c47 => ?_, fun c47 => ?_⟩
      · exfalso; omega
      · refine ⟨MF.k0, ?_⟩
        refine S_X7_failsIf MF (by omega) (by exact PF.w) (fun x56 h56 e56 M56 => ?_)
        subst e56
        obtain ⟨G, hG⟩ : ∃ G, G = nhD 12 many D := ⟨_, rfl⟩
        have MG := M56.castD (D' := G) (by rw [hG]; unfold nhD nhK fiD; rw [← hF]; (repeat' split) <;> first | rfl | (exfalso; omega))
        have PG : PR G := by rw [hG]; exact P.nh _ _
        have PGw := PG.w
        refine ⟨MG.k0, ?_⟩
        try rw [MG.f25]
        refine ⟨ir (by omega) (by omega), fun c63 => ?_, fun c63 => ?_⟩
        · refine H _ _ ?_ (MG.castD hG.symm)
          unfold nhV nhK
          rw [← hG, ← hF]
          (repeat' split) <;> first | rfl | (exfalso; omega) | omega
        · refine H _ _ ?_ (MG.castD hG.symm)
          unfold nhV nhK
          rw [← hG, ← hF]
          (repeat' split) <;> first | rfl | (exfalso; omega) | omega
  · refine ⟨M.k0, ?_⟩
    refine S_X7_failsIf M (by omega) (by exact P.w) (fun x15 h15 e15 M15 => ?_)
    subst e15
    obtain ⟨F, hF⟩ : ∃ F, F = n1D D := ⟨_, rfl⟩
    have MF := M15.castD (D' := F) (by rw [hF]; unfold n1D fiD; (repeat' split) <;> first | rfl | (exfalso; omega))
    have PF : PR F := by rw [hF]; exact P.n1
    have PFw := PF.w
    have PF1 := PF.1
    have PF2 := PF.2.1
    have NF : NB (F 12) := by rw [hF, n1_row D (by decide)]; exact hN
    refine ⟨MF.k0, ?_⟩
    try rw [MF.f25]
    refine ⟨ir (by omega) (by omega), fun c22 => ?_, fun c22 => ?_⟩
    · refine ⟨MF.k0, ?_⟩
      try rw [MF.f22]
      refine ⟨MF.k0, ?_⟩
      try rw [MF.f21]
      have rg := nmv_rng (F 12) F (F 0 22) (F 0 21) many.toNat 0 (by omega)
      refine ⟨MF.k0, ?_⟩
      refine S_X7_named_12 MF (by omega) (by omega) (by omega) (by exact PF.B) (by exact NF) (fun x36 e36 => ?_)
      subst e36
      refine ⟨ir (by omega) (by omega), ir (by omega) (by omega), fun c47 => ?_, fun c47 => ?_⟩
      · refine ⟨MF.k0, ?_⟩
        refine S_X7_failsIf MF (by omega) (by exact PF.w) (fun x56 h56 e56 M56 => ?_)
        subst e56
        obtain ⟨G, hG⟩ : ∃ G, G = nhD 12 many D := ⟨_, rfl⟩
        have MG := M56.castD (D' := G) (by rw [hG]; unfold nhD nhK fiD; rw [← hF]; (repeat' split) <;> first | rfl | (exfalso; omega))
        have PG : PR G := by rw [hG]; exact P.nh _ _
        have PGw := PG.w
        refine ⟨MG.k0, ?_⟩
        try rw [MG.f25]
        refine ⟨ir (by omega) (by omega), fun c63 => ?_, fun c63 => ?_⟩
        · refine H _ _ ?_ (MG.castD hG.symm)
          unfold nhV nhK
          rw [← hG, ← hF]
          (repeat' split) <;> first | rfl | (exfalso; omega) | omega
        · refine H _ _ ?_ (MG.castD hG.symm)
          unfold nhV nhK
          rw [← hG, ← hF]
          (repeat' split) <;> first | rfl | (exfalso; omega) | omega
      · refine ⟨MF.k0, ?_⟩
        refine S_X7_failsIf MF (by omega) (by exact PF.w) (fun x56 h56 e56 M56 => ?_)
        subst e56
        obtain ⟨G, hG⟩ : ∃ G, G = nhD 12 many D := ⟨_, rfl⟩
        have MG := M56.castD (D' := G) (by rw [hG]; unfold nhD nhK fiD; rw [← hF]; (repeat' split) <;> first | rfl | (exfalso; omega))
        have PG : PR G := by rw [hG]; exact P.nh _ _
        have PGw := PG.w
        refine ⟨MG.k0, ?_⟩
        try rw [MG.f25]
        refine ⟨ir (by omega) (by omega), fun c63 => ?_, fun c63 => ?_⟩
        · refine H _ _ ?_ (MG.castD hG.symm)
          unfold nhV nhK
          rw [← hG, ← hF]
          (repeat' split) <;> first | rfl | (exfalso; omega) | omega
        · refine H _ _ ?_ (MG.castD hG.symm)
          unfold nhV nhK
          rw [← hG, ← hF]
          (repeat' split) <;> first | rfl | (exfalso; omega) | omega
    · refine ⟨ir (by omega) (by omega), ir (by omega) (by omega), fun c47 => ?_, fun c47 => ?_⟩
      · exfalso; omega
      · refine ⟨MF.k0, ?_⟩
        refine S_X7_failsIf MF (by omega) (by exact PF.w) (fun x56 h56 e56 M56 => ?_)
        subst e56
        obtain ⟨G, hG⟩ : ∃ G, G = nhD 12 many D := ⟨_, rfl⟩
        have MG := M56.castD (D' := G) (by rw [hG]; unfold nhD nhK fiD; rw [← hF]; (repeat' split) <;> first | rfl | (exfalso; omega))
        have PG : PR G := by rw [hG]; exact P.nh _ _
        have PGw := PG.w
        refine ⟨MG.k0, ?_⟩
        try rw [MG.f25]
        refine ⟨ir (by omega) (by omega), fun c63 => ?_, fun c63 => ?_⟩
        · refine H _ _ ?_ (MG.castD hG.symm)
          unfold nhV nhK
          rw [← hG, ← hF]
          (repeat' split) <;> first | rfl | (exfalso; omega) | omega
        · refine H _ _ ?_ (MG.castD hG.symm)
          unfold nhV nhK
          rw [← hG, ← hF]
          (repeat' split) <;> first | rfl | (exfalso; omega) | omega
theorem S_X7_programHere {d b : Nat} {h0 h : PH} {D : Nat → Int → Int} {s : Int → Int} {t : Int} {Q : Int → PH → Prop} {X : Nat → PH → Prop} (M : Mt b h0 h D s t) (P : PR D) (hm : 0 ≤ D 0 32 ∧ D 0 32 ≤ 6) (hN : NB (D 12)) (H : ∀ (x : Int) h', x = nhV 12 (D 0 32) D → Mt b h0 h' (gD (nhD 12 (D 0 32) D)) s t → Q x h') : RUN GQ (d + 4) m_X7_programHere [pA b] h Q X := by
  have Pw := P.w
  rw [e_X7_programHere]
  refine WP.of (RUN.mono GQ _) (cuts := []) (n := 400) (v_X7_programHere_0 _ _ _ _ _ ?_)
  refine ⟨M.k0, ?_⟩
  try rw [M.r36]
  refine ⟨M.k0, ?_⟩
  try rw [M.f32]
  refine ⟨M.k0, ?_⟩
  refine S_X7_namedHere_12 M P (by omega) (by exact hN) (fun x9 h9 e9 M9 => ?_)
  subst e9
  have PG := P.nh 12 (D 0 32)
  refine ⟨M9.k0, ?_⟩
  refine S_X7_goesOn M9 PG (fun x14 h14 e14 M14 => ?_)
  subst e14
  exact H _ _ rfl M14
theorem S_X7_kindHere {d b : Nat} {h0 h : PH} {D : Nat → Int → Int} {s : Int → Int} {t : Int} {Q : Int → PH → Prop} {X : Nat → PH → Prop} (M : Mt b h0 h D s t) (P : PR D) (hm : 0 ≤ D 0 31 ∧ D 0 31 ≤ 8) (hN : NB (D 11)) (H : ∀ (x : Int) h', x = nhV 11 (D 0 31) D → Mt b h0 h' (gD (nhD 11 (D 0 31) D)) s t → Q x h') : RUN GQ (d + 4) m_X7_kindHere [pA b] h Q X := by
  have Pw := P.w
  rw [e_X7_kindHere]
  refine WP.of (RUN.mono GQ _) (cuts := []) (n := 400) (v_X7_kindHere_0 _ _ _ _ _ ?_)
  refine ⟨M.k0, ?_⟩
  try rw [M.r35]
  refine ⟨M.k0, ?_⟩
  try rw [M.f31]
  refine ⟨M.k0, ?_⟩
  refine S_X7_namedHere_11 M P (by omega) (by exact hN) (fun x9 h9 e9 M9 => ?_)
  subst e9
  have PG := P.nh 11 (D 0 31)
  refine ⟨M9.k0, ?_⟩
  refine S_X7_goesOn M9 PG (fun x14 h14 e14 M14 => ?_)
  subst e14
  exact H _ _ rfl M14
theorem L_X7_newName_11_56 {d b : Nat} {h0 : PH} {s : Int → Int} {t : Int} {Q : Int → PH → Prop} {X : Nat → PH → Prop} {many k : Int} (hk : 0 ≤ k ∧ k < 8) : ∀ (n : Nat) (i : Int) (D : Nat → Int → Int) (h : PH), (Mt b h0 h D s t) → (PR D) → (0 ≤ i ∧ i + n = 7) → (∀ (x : Int) h', x = 0 → Mt b h0 h' (gD (if D 0 25 = 0 then nwl 11 k n i D else D)) s t → Q x h') → WP k_X7_newName [] (RUN GQ (d + 3)) 0 0 (d + 4) Q X 56 [some (pA b), some (pA (b + 11)), some (pI many), some (pI k), some (pI i)] [] h 0 0 := by
  intro n
  induction n with
  | zero =>
    intro i D h M P hi H
    have Pw := P.w
    have P1 := P.1
    have P2 := P.2.1
    refine WP.of (RUN.mono GQ _) (cuts := [56]) (n := 400) (v_X7_newName_56 _ _ _ _ _ _ _ _ ?_)
    refine ⟨ir (by omega) (by omega), ir (by omega) (by omega), fun c60 => ?_, fun c60 => ?_⟩
    · exfalso; omega
    · refine ⟨M.k0, ?_⟩
      refine S_X7_goesOn M P (fun x115 h115 e115 M115 => ?_)
      subst e115
      first
      | (rw [if_neg (by omega)] at H; exact H _ _ rfl M115)
      | exact H _ _ rfl (M115.castD (by split <;> rfl))
  | succ n ih =>
    intro i D h M P hi H
    have Pw := P.w
    have P1 := P.1
    have P2 := P.2.1
    refine WP.of (RUN.mono GQ _) (cuts := [56]) (n := 400) (v_X7_newName_56 _ _ _ _ _ _ _ _ ?_)
    refine ⟨ir (by omega) (by omega), ir (by omega) (by omega), fun c60 => ?_, fun c60 => ?_⟩
    · refine ⟨M.k0, ?_⟩
      try rw [M.f25]
      refine ⟨ir (by omega) (by omega), fun c67 => ?_, fun c67 => ?_⟩
      · refine ⟨M.k0, ?_⟩
        try rw [M.f22]
        refine ⟨M.k0, ?_⟩
        try rw [M.f21]
        refine ⟨ir (by omega) (by omega), ir (by omega) (by omega), fun c89 => ?_, fun c89 => ?_⟩
        · refine ⟨M.k0, ?_⟩
          try rw [M.f22]
          refine ⟨M.k0, ?_⟩
          refine S_X7_seen M (by omega) (by omega) (by omega) (fun x100 e100 => ?_)
          subst e100
          refine M.as11 (by omega) (by omega) (fun h107 M107 => ?_)
          have MF := M107.castD (D' := dst D 11 (7 * k + i) (nmc D (D 0 22) (D 0 21) i)) (congrArg (dst D 11 (7 * k + i)) (by unfold nmc; (try unfold bt); (repeat' split) <;> first | rfl | (exfalso; omega)))
          refine ih _ _ _ MF (P.row _ _ (by decide) (by decide)) (by omega) ?_
          refine fun x h' e M => H x h' e (M.castD ?_)
          rw [dst_row (by decide), if_pos (by omega), if_pos (by omega)]
          rfl
        · refine M.as11 (by omega) (by omega) (fun h107 M107 => ?_)
          have MF := M107.castD (D' := dst D 11 (7 * k + i) (nmc D (D 0 22) (D 0 21) i)) (congrArg (dst D 11 (7 * k + i)) (by unfold nmc; (try unfold bt); (repeat' split) <;> first | rfl | (exfalso; omega)))
          refine ih _ _ _ MF (P.row _ _ (by decide) (by decide)) (by omega) ?_
          refine fun x h' e M => H x h' e (M.castD ?_)
          rw [dst_row (by decide), if_pos (by omega), if_pos (by omega)]
          rfl
      · refine ⟨M.k0, ?_⟩
        refine S_X7_goesOn M P (fun x115 h115 e115 M115 => ?_)
        subst e115
        first
        | (rw [if_neg (by omega)] at H; exact H _ _ rfl M115)
        | exact H _ _ rfl (M115.castD (by split <;> rfl))
    · exfalso; omega
theorem S_X7_newName_11 {d b : Nat} {h0 h : PH} {D : Nat → Int → Int} {s : Int → Int} {t : Int} {Q : Int → PH → Prop} {X : Nat → PH → Prop} {many k : Int} (M : Mt b h0 h D s t) (P : PR D) (hm : 0 ≤ many ∧ many ≤ 8) (hk : 0 ≤ k ∧ k < 8) (hN : NB (D 11)) (H : ∀ (x : Int) h', x = 0 → Mt b h0 h' (nwD 11 many k D) s t → Q x h') : RUN GQ (d + 4) m_X7_newName [pA b, pA (b + 11), pI many, pI k] h Q X := by
  have Pw := P.w
  have P3 := P.2.2.1
  rw [e_X7_newName]
  refine WP.of (RUN.mono GQ _) (cuts := [56]) (n := 400) (v_X7_newName_0 _ _ _ _ _ _ _ _ ?_)
  refine ⟨M.k0, ?_⟩
  try rw [M.f23]
  refine ⟨ir (by omega) (by omega), ir (by omega) (by omega), fun c6 => ?_, fun c6 => ?_⟩
  · refine ⟨M.k0, ?_⟩
    refine S_X7_failsIf M (by omega) (by exact P.w) (fun x15 h15 e15 M15 => ?_)
    subst e15
    obtain ⟨F, hF⟩ : ∃ F, F = n1D D := ⟨_, rfl⟩
    have MF := M15.castD (D' := F) (by rw [hF]; unfold n1D fiD; (repeat' split) <;> first | rfl | (exfalso; omega))
    have PF : PR F := by rw [hF]; exact P.n1
    have PFw := PF.w
    have PF1 := PF.1
    have PF2 := PF.2.1
    have NF : NB (F 11) := by rw [hF, n1_row D (by decide)]; exact hN
    refine ⟨MF.k0, ?_⟩
    try rw [MF.f25]
    refine ⟨ir (by omega) (by omega), fun c23 => ?_, fun c23 => ?_⟩
    · refine ⟨MF.k0, ?_⟩
      try rw [MF.f22]
      refine ⟨MF.k0, ?_⟩
      try rw [MF.f21]
      have rg := nmv_rng (F 11) F (F 0 22) (F 0 21) many.toNat 0 (by omega)
      refine ⟨MF.k0, ?_⟩
      refine S_X7_named_11 MF (by omega) (by omega) (by omega) (by exact PF.B) (by exact NF) (fun x37 e37 => ?_)
      subst e37
      refine ⟨ir (by omega) (by omega), ir (by omega) (by omega), fun c41 => ?_, fun c41 => ?_⟩
      · refine ⟨MF.k0, ?_⟩
        refine S_X7_failsIf MF (by omega) (by exact PF.w) (fun x50 h50 e50 M50 => ?_)
        subst e50
        obtain ⟨G, hG⟩ : ∃ G, G = nnD 11 many D := ⟨_, rfl⟩
        have MG := M50.castD (D' := G) (by rw [hG]; unfold nnD fiD; rw [← hF]; (repeat' split) <;> first | rfl | (exfalso; omega))
        have PG : PR G := by rw [hG]; exact P.nn _ _
        have PGw := PG.w
        refine L_X7_newName_11_56 hk (7) _ _ _ MG PG (by omega) ?_
        refine fun x h' e M => H x h' e (M.castD ?_)
        unfold nwD
        rw [← hG]
      · refine ⟨MF.k0, ?_⟩
        refine S_X7_failsIf MF (by omega) (by exact PF.w) (fun x50 h50 e50 M50 => ?_)
        subst e50
        obtain ⟨G, hG⟩ : ∃ G, G = nnD 11 many D := ⟨_, rfl⟩
        have MG := M50.castD (D' := G) (by rw [hG]; unfold nnD fiD; rw [← hF]; (repeat' split) <;> first | rfl | (exfalso; omega))
        have PG : PR G := by rw [hG]; exact P.nn _ _
        have PGw := PG.w
        refine L_X7_newName_11_56 hk (7) _ _ _ MG PG (by omega) ?_
        refine fun x h' e M => H x h' e (M.castD ?_)
        unfold nwD
        rw [← hG]
    · refine ⟨MF.k0, ?_⟩
      refine S_X7_failsIf MF (by omega) (by exact PF.w) (fun x50 h50 e50 M50 => ?_)
      subst e50
      obtain ⟨G, hG⟩ : ∃ G, G = nnD 11 many D := ⟨_, rfl⟩
      have MG := M50.castD (D' := G) (by rw [hG]; unfold nnD fiD; rw [← hF]; (repeat' split) <;> first | rfl | (exfalso; omega))
      have PG : PR G := by rw [hG]; exact P.nn _ _
      have PGw := PG.w
      refine L_X7_newName_11_56 hk (7) _ _ _ MG PG (by omega) ?_
      refine fun x h' e M => H x h' e (M.castD ?_)
      unfold nwD
      rw [← hG]
  · refine ⟨M.k0, ?_⟩
    refine S_X7_failsIf M (by omega) (by exact P.w) (fun x15 h15 e15 M15 => ?_)
    subst e15
    obtain ⟨F, hF⟩ : ∃ F, F = n1D D := ⟨_, rfl⟩
    have MF := M15.castD (D' := F) (by rw [hF]; unfold n1D fiD; (repeat' split) <;> first | rfl | (exfalso; omega))
    have PF : PR F := by rw [hF]; exact P.n1
    have PFw := PF.w
    have PF1 := PF.1
    have PF2 := PF.2.1
    have NF : NB (F 11) := by rw [hF, n1_row D (by decide)]; exact hN
    refine ⟨MF.k0, ?_⟩
    try rw [MF.f25]
    refine ⟨ir (by omega) (by omega), fun c23 => ?_, fun c23 => ?_⟩
    · refine ⟨MF.k0, ?_⟩
      try rw [MF.f22]
      refine ⟨MF.k0, ?_⟩
      try rw [MF.f21]
      have rg := nmv_rng (F 11) F (F 0 22) (F 0 21) many.toNat 0 (by omega)
      refine ⟨MF.k0, ?_⟩
      refine S_X7_named_11 MF (by omega) (by omega) (by omega) (by exact PF.B) (by exact NF) (fun x37 e37 => ?_)
      subst e37
      refine ⟨ir (by omega) (by omega), ir (by omega) (by omega), fun c41 => ?_, fun c41 => ?_⟩
      · refine ⟨MF.k0, ?_⟩
        refine S_X7_failsIf MF (by omega) (by exact PF.w) (fun x50 h50 e50 M50 => ?_)
        subst e50
        obtain ⟨G, hG⟩ : ∃ G, G = nnD 11 many D := ⟨_, rfl⟩
        have MG := M50.castD (D' := G) (by rw [hG]; unfold nnD fiD; rw [← hF]; (repeat' split) <;> first | rfl | (exfalso; omega))
        have PG : PR G := by rw [hG]; exact P.nn _ _
        have PGw := PG.w
        refine L_X7_newName_11_56 hk (7) _ _ _ MG PG (by omega) ?_
        refine fun x h' e M => H x h' e (M.castD ?_)
        unfold nwD
        rw [← hG]
      · refine ⟨MF.k0, ?_⟩
        refine S_X7_failsIf MF (by omega) (by exact PF.w) (fun x50 h50 e50 M50 => ?_)
        subst e50
        obtain ⟨G, hG⟩ : ∃ G, G = nnD 11 many D := ⟨_, rfl⟩
        have MG := M50.castD (D' := G) (by rw [hG]; unfold nnD fiD; rw [← hF]; (repeat' split) <;> first | rfl | (exfalso; omega))
        have PG : PR G := by rw [hG]; exact P.nn _ _
        have PGw := PG.w
        refine L_X7_newName_11_56 hk (7) _ _ _ MG PG (by omega) ?_
        refine fun x h' e M => H x h' e (M.castD ?_)
        unfold nwD
        rw [← hG]
    · refine ⟨MF.k0, ?_⟩
      refine S_X7_failsIf MF (by omega) (by exact PF.w) (fun x50 h50 e50 M50 => ?_)
      subst e50
      obtain ⟨G, hG⟩ : ∃ G, G = nnD 11 many D := ⟨_, rfl⟩
      have MG := M50.castD (D' := G) (by rw [hG]; unfold nnD fiD; rw [← hF]; (repeat' split) <;> first | rfl | (exfalso; omega))
      have PG : PR G := by rw [hG]; exact P.nn _ _
      have PGw := PG.w
      refine L_X7_newName_11_56 hk (7) _ _ _ MG PG (by omega) ?_
      refine fun x h' e M => H x h' e (M.castD ?_)
      unfold nwD
      rw [← hG]
theorem L_X7_newName_12_56 {d b : Nat} {h0 : PH} {s : Int → Int} {t : Int} {Q : Int → PH → Prop} {X : Nat → PH → Prop} {many k : Int} (hk : 0 ≤ k ∧ k < 6) : ∀ (n : Nat) (i : Int) (D : Nat → Int → Int) (h : PH), (Mt b h0 h D s t) → (PR D) → (0 ≤ i ∧ i + n = 7) → (∀ (x : Int) h', x = 0 → Mt b h0 h' (gD (if D 0 25 = 0 then nwl 12 k n i D else D)) s t → Q x h') → WP k_X7_newName [] (RUN GQ (d + 3)) 0 0 (d + 4) Q X 56 [some (pA b), some (pA (b + 12)), some (pI many), some (pI k), some (pI i)] [] h 0 0 := by
  intro n
  induction n with
  | zero =>
    intro i D h M P hi H
    have Pw := P.w
    have P1 := P.1
    have P2 := P.2.1
    refine WP.of (RUN.mono GQ _) (cuts := [56]) (n := 400) (v_X7_newName_56 _ _ _ _ _ _ _ _ ?_)
    refine ⟨ir (by omega) (by omega), ir (by omega) (by omega), fun c60 => ?_, fun c60 => ?_⟩
    · exfalso; omega
    · refine ⟨M.k0, ?_⟩
      refine S_X7_goesOn M P (fun x115 h115 e115 M115 => ?_)
      subst e115
      first
      | (rw [if_neg (by omega)] at H; exact H _ _ rfl M115)
      | exact H _ _ rfl (M115.castD (by split <;> rfl))
  | succ n ih =>
    intro i D h M P hi H
    have Pw := P.w
    have P1 := P.1
    have P2 := P.2.1
    refine WP.of (RUN.mono GQ _) (cuts := [56]) (n := 400) (v_X7_newName_56 _ _ _ _ _ _ _ _ ?_)
    refine ⟨ir (by omega) (by omega), ir (by omega) (by omega), fun c60 => ?_, fun c60 => ?_⟩
    · refine ⟨M.k0, ?_⟩
      try rw [M.f25]
      refine ⟨ir (by omega) (by omega), fun c67 => ?_, fun c67 => ?_⟩
      · refine ⟨M.k0, ?_⟩
        try rw [M.f22]
        refine ⟨M.k0, ?_⟩
        try rw [M.f21]
        refine ⟨ir (by omega) (by omega), ir (by omega) (by omega), fun c89 => ?_, fun c89 => ?_⟩
        · refine ⟨M.k0, ?_⟩
          try rw [M.f22]
          refine ⟨M.k0, ?_⟩
          refine S_X7_seen M (by omega) (by omega) (by omega) (fun x100 e100 => ?_)
          subst e100
          refine M.as12 (by omega) (by omega) (fun h107 M107 => ?_)
          have MF := M107.castD (D' := dst D 12 (7 * k + i) (nmc D (D 0 22) (D 0 21) i)) (congrArg (dst D 12 (7 * k + i)) (by unfold nmc; (try unfold bt); (repeat' split) <;> first | rfl | (exfalso; omega)))
          refine ih _ _ _ MF (P.row _ _ (by decide) (by decide)) (by omega) ?_
          refine fun x h' e M => H x h' e (M.castD ?_)
          rw [dst_row (by decide), if_pos (by omega), if_pos (by omega)]
          rfl
        · refine M.as12 (by omega) (by omega) (fun h107 M107 => ?_)
          have MF := M107.castD (D' := dst D 12 (7 * k + i) (nmc D (D 0 22) (D 0 21) i)) (congrArg (dst D 12 (7 * k + i)) (by unfold nmc; (try unfold bt); (repeat' split) <;> first | rfl | (exfalso; omega)))
          refine ih _ _ _ MF (P.row _ _ (by decide) (by decide)) (by omega) ?_
          refine fun x h' e M => H x h' e (M.castD ?_)
          rw [dst_row (by decide), if_pos (by omega), if_pos (by omega)]
          rfl
      · refine ⟨M.k0, ?_⟩
        refine S_X7_goesOn M P (fun x115 h115 e115 M115 => ?_)
        subst e115
        first
        | (rw [if_neg (by omega)] at H; exact H _ _ rfl M115)
        | exact H _ _ rfl (M115.castD (by split <;> rfl))
    · exfalso; omega
theorem S_X7_newName_12 {d b : Nat} {h0 h : PH} {D : Nat → Int → Int} {s : Int → Int} {t : Int} {Q : Int → PH → Prop} {X : Nat → PH → Prop} {many k : Int} (M : Mt b h0 h D s t) (P : PR D) (hm : 0 ≤ many ∧ many ≤ 6) (hk : 0 ≤ k ∧ k < 6) (hN : NB (D 12)) (H : ∀ (x : Int) h', x = 0 → Mt b h0 h' (nwD 12 many k D) s t → Q x h') : RUN GQ (d + 4) m_X7_newName [pA b, pA (b + 12), pI many, pI k] h Q X := by
  have Pw := P.w
  have P3 := P.2.2.1
  rw [e_X7_newName]
  refine WP.of (RUN.mono GQ _) (cuts := [56]) (n := 400) (v_X7_newName_0 _ _ _ _ _ _ _ _ ?_)
  refine ⟨M.k0, ?_⟩
  try rw [M.f23]
  refine ⟨ir (by omega) (by omega), ir (by omega) (by omega), fun c6 => ?_, fun c6 => ?_⟩
  · refine ⟨M.k0, ?_⟩
    refine S_X7_failsIf M (by omega) (by exact P.w) (fun x15 h15 e15 M15 => ?_)
    subst e15
    obtain ⟨F, hF⟩ : ∃ F, F = n1D D := ⟨_, rfl⟩
    have MF := M15.castD (D' := F) (by rw [hF]; unfold n1D fiD; (repeat' split) <;> first | rfl | (exfalso; omega))
    have PF : PR F := by rw [hF]; exact P.n1
    have PFw := PF.w
    have PF1 := PF.1
    have PF2 := PF.2.1
    have NF : NB (F 12) := by rw [hF, n1_row D (by decide)]; exact hN
    refine ⟨MF.k0, ?_⟩
    try rw [MF.f25]
    refine ⟨ir (by omega) (by omega), fun c23 => ?_, fun c23 => ?_⟩
    · refine ⟨MF.k0, ?_⟩
      try rw [MF.f22]
      refine ⟨MF.k0, ?_⟩
      try rw [MF.f21]
      have rg := nmv_rng (F 12) F (F 0 22) (F 0 21) many.toNat 0 (by omega)
      refine ⟨MF.k0, ?_⟩
      refine S_X7_named_12 MF (by omega) (by omega) (by omega) (by exact PF.B) (by exact NF) (fun x37 e37 => ?_)
      subst e37
      refine ⟨ir (by omega) (by omega), ir (by omega) (by omega), fun c41 => ?_, fun c41 => ?_⟩
      · refine ⟨MF.k0, ?_⟩
        refine S_X7_failsIf MF (by omega) (by exact PF.w) (fun x50 h50 e50 M50 => ?_)
        subst e50
        obtain ⟨G, hG⟩ : ∃ G, G = nnD 12 many D := ⟨_, rfl⟩
        have MG := M50.castD (D' := G) (by rw [hG]; unfold nnD fiD; rw [← hF]; (repeat' split) <;> first | rfl | (exfalso; omega))
        have PG : PR G := by rw [hG]; exact P.nn _ _
        have PGw := PG.w
        refine L_X7_newName_12_56 hk (7) _ _ _ MG PG (by omega) ?_
        refine fun x h' e M => H x h' e (M.castD ?_)
        unfold nwD
        rw [← hG]
      · refine ⟨MF.k0, ?_⟩
        refine S_X7_failsIf MF (by omega) (by exact PF.w) (fun x50 h50 e50 M50 => ?_)
        subst e50
        obtain ⟨G, hG⟩ : ∃ G, G = nnD 12 many D := ⟨_, rfl⟩
        have MG := M50.castD (D' := G) (by rw [hG]; unfold nnD fiD; rw [← hF]; (repeat' split) <;> first | rfl | (exfalso; omega))
        have PG : PR G := by rw [hG]; exact P.nn _ _
        have PGw := PG.w
        refine L_X7_newName_12_56 hk (7) _ _ _ MG PG (by omega) ?_
        refine fun x h' e M => H x h' e (M.castD ?_)
        unfold nwD
        rw [← hG]
    · refine ⟨MF.k0, ?_⟩
      refine S_X7_failsIf MF (by omega) (by exact PF.w) (fun x50 h50 e50 M50 => ?_)
      subst e50
      obtain ⟨G, hG⟩ : ∃ G, G = nnD 12 many D := ⟨_, rfl⟩
      have MG := M50.castD (D' := G) (by rw [hG]; unfold nnD fiD; rw [← hF]; (repeat' split) <;> first | rfl | (exfalso; omega))
      have PG : PR G := by rw [hG]; exact P.nn _ _
      have PGw := PG.w
      refine L_X7_newName_12_56 hk (7) _ _ _ MG PG (by omega) ?_
      refine fun x h' e M => H x h' e (M.castD ?_)
      unfold nwD
      rw [← hG]
  · refine ⟨M.k0, ?_⟩
    refine S_X7_failsIf M (by omega) (by exact P.w) (fun x15 h15 e15 M15 => ?_)
    subst e15
    obtain ⟨F, hF⟩ : ∃ F, F = n1D D := ⟨_, rfl⟩
    have MF := M15.castD (D' := F) (by rw [hF]; unfold n1D fiD; (repeat' split) <;> first | rfl | (exfalso; omega))
    have PF : PR F := by rw [hF]; exact P.n1
    have PFw := PF.w
    have PF1 := PF.1
    have PF2 := PF.2.1
    have NF : NB (F 12) := by rw [hF, n1_row D (by decide)]; exact hN
    refine ⟨MF.k0, ?_⟩
    try rw [MF.f25]
    refine ⟨ir (by omega) (by omega), fun c23 => ?_, fun c23 => ?_⟩
    · refine ⟨MF.k0, ?_⟩
      try rw [MF.f22]
      refine ⟨MF.k0, ?_⟩
      try rw [MF.f21]
      have rg := nmv_rng (F 12) F (F 0 22) (F 0 21) many.toNat 0 (by omega)
      refine ⟨MF.k0, ?_⟩
      refine S_X7_named_12 MF (by omega) (by omega) (by omega) (by exact PF.B) (by exact NF) (fun x37 e37 => ?_)
      subst e37
      refine ⟨ir (by omega) (by omega), ir (by omega) (by omega), fun c41 => ?_, fun c41 => ?_⟩
      · refine ⟨MF.k0, ?_⟩
        refine S_X7_failsIf MF (by omega) (by exact PF.w) (fun x50 h50 e50 M50 => ?_)
        subst e50
        obtain ⟨G, hG⟩ : ∃ G, G = nnD 12 many D := ⟨_, rfl⟩
        have MG := M50.castD (D' := G) (by rw [hG]; unfold nnD fiD; rw [← hF]; (repeat' split) <;> first | rfl | (exfalso; omega))
        have PG : PR G := by rw [hG]; exact P.nn _ _
        have PGw := PG.w
        refine L_X7_newName_12_56 hk (7) _ _ _ MG PG (by omega) ?_
        refine fun x h' e M => H x h' e (M.castD ?_)
        unfold nwD
        rw [← hG]
      · refine ⟨MF.k0, ?_⟩
        refine S_X7_failsIf MF (by omega) (by exact PF.w) (fun x50 h50 e50 M50 => ?_)
        subst e50
        obtain ⟨G, hG⟩ : ∃ G, G = nnD 12 many D := ⟨_, rfl⟩
        have MG := M50.castD (D' := G) (by rw [hG]; unfold nnD fiD; rw [← hF]; (repeat' split) <;> first | rfl | (exfalso; omega))
        have PG : PR G := by rw [hG]; exact P.nn _ _
        have PGw := PG.w
        refine L_X7_newName_12_56 hk (7) _ _ _ MG PG (by omega) ?_
        refine fun x h' e M => H x h' e (M.castD ?_)
        unfold nwD
        rw [← hG]
    · refine ⟨MF.k0, ?_⟩
      refine S_X7_failsIf MF (by omega) (by exact PF.w) (fun x50 h50 e50 M50 => ?_)
      subst e50
      obtain ⟨G, hG⟩ : ∃ G, G = nnD 12 many D := ⟨_, rfl⟩
      have MG := M50.castD (D' := G) (by rw [hG]; unfold nnD fiD; rw [← hF]; (repeat' split) <;> first | rfl | (exfalso; omega))
      have PG : PR G := by rw [hG]; exact P.nn _ _
      have PGw := PG.w
      refine L_X7_newName_12_56 hk (7) _ _ _ MG PG (by omega) ?_
      refine fun x h' e M => H x h' e (M.castD ?_)
      unfold nwD
      rw [← hG]
