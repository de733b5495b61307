/-! the law's cases (written by wip/whole/tools/genci.py) -/
section LCV
variable {call : PC} {mc ms fr : Nat} {Q : Int → PH → Prop} {X : Nat → PH → Prop} {K : PK}
set_option maxRecDepth 100000 in
theorem v_L_law_508 (a0 : Nat) (a1 : Nat) (a2 : Nat) (a3 : Nat) (a4 : Nat) (i5 : Int) (z6 : Option PV) (z7 : Option PV) (z8 : Option PV) (h : PH) (c s : Nat) (H : (hk h a0 = 20 ∨ hk h a0 = 26) ∧ (0 ≤ (i5 + 1) ∧ (i5 + 1) < (hl h a0 : Int)) ∧ (c + 24 ≤ mc ∧ s + 1700 ≤ ms) ∧ call m_L_count [pA a1, pI (hi h a0 (Int.toNat ((i5 + 1)))), pA a3] h (fun x1 h1 =>
 (hk h1 a0 = 20 ∨ hk h1 a0 = 26) ∧ (0 ≤ (i5 + 1) ∧ (i5 + 1) < (hl h1 a0 : Int)) ∧ hk h1 a2 = 8 ∧ call m_X7_count [pA a2, pI (hi h1 a0 (Int.toNat ((i5 + 1))))] h1 (fun x2 h2 =>
 hk h2 a2 = 8 ∧ call m_X7_thrown [pA a2] h2 (fun x3 h3 =>
 InR x3 ∧ InR x1 ∧ (x3 = x1 →
 InR x1 ∧ (x1 = 0 →
 hk h3 a3 = 23 ∧ (0 ≤ (0 : Int) ∧ (0 : Int) < (hl h3 a3 : Int)) ∧ InR x2 ∧ InL (hi h3 a3 (Int.toNat (0 : Int))) ∧ InL x2 ∧ InR (if (hi h3 a3 (Int.toNat (0 : Int))) < x2 then -1 else if (hi h3 a3 (Int.toNat (0 : Int))) = x2 then 0 else 1) ∧ ((if (hi h3 a3 (Int.toNat (0 : Int))) < x2 then -1 else if (hi h3 a3 (Int.toNat (0 : Int))) = x2 then 0 else 1) = 0 →
 K 28 [some (pA a0), some (pA a1), some (pA a2), some (pA a3), some (pA a4), some (pI (i5 + 6)), some (pI x1), some (pI x2), z8] [] h3 (c + 24) (s + 1700)) ∧
((if (hi h3 a3 (Int.toNat (0 : Int))) < x2 then -1 else if (hi h3 a3 (Int.toNat (0 : Int))) = x2 then 0 else 1) ≠ 0 →
 ((0 : Int) = 0 ∨ (0 : Int) = 1) ∧ Q 0 h3)) ∧
(x1 ≠ 0 →
 K 28 [some (pA a0), some (pA a1), some (pA a2), some (pA a3), some (pA a4), some (pI (i5 + 6)), some (pI x1), some (pI x2), z8] [] h3 (c + 24) (s + 1700))) ∧
(x3 ≠ x1 →
 ((0 : Int) = 0 ∨ (0 : Int) = 1) ∧ Q 0 h3)) X) X) X) : wpc k_L_law [] call mc ms fr Q X [28, 508] K 400 (pto 508 k_L_law) [some (pA a0), some (pA a1), some (pA a2), some (pA a3), some (pA a4), some (pI i5), z6, z7, z8] [] h c s :=
  H

set_option maxRecDepth 100000 in
theorem v_L_law_564 (a0 : Nat) (a1 : Nat) (a2 : Nat) (a3 : Nat) (a4 : Nat) (i5 : Int) (z6 : Option PV) (z7 : Option PV) (z8 : Option PV) (h : PH) (c s : Nat) (H : (hk h a0 = 20 ∨ hk h a0 = 26) ∧ (0 ≤ (i5 + 1) ∧ (i5 + 1) < (hl h a0 : Int)) ∧ (c + 24 ≤ mc ∧ s + 1700 ≤ ms) ∧ call m_L_setting [pA a1, pI (hi h a0 (Int.toNat ((i5 + 1)))), pA a3] h (fun x1 h1 =>
 (hk h1 a0 = 20 ∨ hk h1 a0 = 26) ∧ (0 ≤ (i5 + 1) ∧ (i5 + 1) < (hl h1 a0 : Int)) ∧ hk h1 a2 = 8 ∧ call m_X7_setting [pA a2, pI (hi h1 a0 (Int.toNat ((i5 + 1))))] h1 (fun x2 h2 =>
 hk h2 a2 = 8 ∧ call m_X7_thrown [pA a2] h2 (fun x3 h3 =>
 InR x3 ∧ InR x1 ∧ (x3 = x1 →
 InR x1 ∧ (x1 = 0 →
 hk h3 a3 = 23 ∧ (0 ≤ (0 : Int) ∧ (0 : Int) < (hl h3 a3 : Int)) ∧ InR x2 ∧ InL (hi h3 a3 (Int.toNat (0 : Int))) ∧ InL x2 ∧ InR (if (hi h3 a3 (Int.toNat (0 : Int))) < x2 then -1 else if (hi h3 a3 (Int.toNat (0 : Int))) = x2 then 0 else 1) ∧ ((if (hi h3 a3 (Int.toNat (0 : Int))) < x2 then -1 else if (hi h3 a3 (Int.toNat (0 : Int))) = x2 then 0 else 1) = 0 →
 K 28 [some (pA a0), some (pA a1), some (pA a2), some (pA a3), some (pA a4), some (pI (i5 + 6)), some (pI x1), some (pI x2), z8] [] h3 (c + 24) (s + 1700)) ∧
((if (hi h3 a3 (Int.toNat (0 : Int))) < x2 then -1 else if (hi h3 a3 (Int.toNat (0 : Int))) = x2 then 0 else 1) ≠ 0 →
 ((0 : Int) = 0 ∨ (0 : Int) = 1) ∧ Q 0 h3)) ∧
(x1 ≠ 0 →
 K 28 [some (pA a0), some (pA a1), some (pA a2), some (pA a3), some (pA a4), some (pI (i5 + 6)), some (pI x1), some (pI x2), z8] [] h3 (c + 24) (s + 1700))) ∧
(x3 ≠ x1 →
 ((0 : Int) = 0 ∨ (0 : Int) = 1) ∧ Q 0 h3)) X) X) X) : wpc k_L_law [] call mc ms fr Q X [28, 564] K 400 (pto 564 k_L_law) [some (pA a0), some (pA a1), some (pA a2), some (pA a3), some (pA a4), some (pI i5), z6, z7, z8] [] h c s :=
  H

set_option maxRecDepth 100000 in
theorem v_L_law_620 (a0 : Nat) (a1 : Nat) (a2 : Nat) (a3 : Nat) (a4 : Nat) (i5 : Int) (z6 : Option PV) (z7 : Option PV) (z8 : Option PV) (h : PH) (c s : Nat) (H : (hk h a0 = 20 ∨ hk h a0 = 26) ∧ (0 ≤ (i5 + 1) ∧ (i5 + 1) < (hl h a0 : Int)) ∧ (hk h a0 = 20 ∨ hk h a0 = 26) ∧ (0 ≤ (i5 + 2) ∧ (i5 + 2) < (hl h a0 : Int)) ∧ (c + 24 ≤ mc ∧ s + 1700 ≤ ms) ∧ call m_L_kind [pA a1, pI (hi h a0 (Int.toNat ((i5 + 1)))), pI (hi h a0 (Int.toNat ((i5 + 2)))), pA a3] h (fun x1 h1 =>
 (hk h1 a0 = 20 ∨ hk h1 a0 = 26) ∧ (0 ≤ (i5 + 1) ∧ (i5 + 1) < (hl h1 a0 : Int)) ∧ (hk h1 a0 = 20 ∨ hk h1 a0 = 26) ∧ (0 ≤ (i5 + 2) ∧ (i5 + 2) < (hl h1 a0 : Int)) ∧ hk h1 a2 = 8 ∧ call m_X7_kind [pA a2, pI (hi h1 a0 (Int.toNat ((i5 + 1)))), pI (hi h1 a0 (Int.toNat ((i5 + 2))))] h1 (fun x2 h2 =>
 hk h2 a2 = 8 ∧ call m_X7_thrown [pA a2] h2 (fun x3 h3 =>
 InR x3 ∧ InR x1 ∧ (x3 = x1 →
 InR x1 ∧ (x1 = 0 →
 hk h3 a3 = 23 ∧ (0 ≤ (0 : Int) ∧ (0 : Int) < (hl h3 a3 : Int)) ∧ InR x2 ∧ InL (hi h3 a3 (Int.toNat (0 : Int))) ∧ InL x2 ∧ InR (if (hi h3 a3 (Int.toNat (0 : Int))) < x2 then -1 else if (hi h3 a3 (Int.toNat (0 : Int))) = x2 then 0 else 1) ∧ ((if (hi h3 a3 (Int.toNat (0 : Int))) < x2 then -1 else if (hi h3 a3 (Int.toNat (0 : Int))) = x2 then 0 else 1) = 0 →
 K 28 [some (pA a0), some (pA a1), some (pA a2), some (pA a3), some (pA a4), some (pI (i5 + 6)), some (pI x1), some (pI x2), z8] [] h3 (c + 24) (s + 1700)) ∧
((if (hi h3 a3 (Int.toNat (0 : Int))) < x2 then -1 else if (hi h3 a3 (Int.toNat (0 : Int))) = x2 then 0 else 1) ≠ 0 →
 ((0 : Int) = 0 ∨ (0 : Int) = 1) ∧ Q 0 h3)) ∧
(x1 ≠ 0 →
 K 28 [some (pA a0), some (pA a1), some (pA a2), some (pA a3), some (pA a4), some (pI (i5 + 6)), some (pI x1), some (pI x2), z8] [] h3 (c + 24) (s + 1700))) ∧
(x3 ≠ x1 →
 ((0 : Int) = 0 ∨ (0 : Int) = 1) ∧ Q 0 h3)) X) X) X) : wpc k_L_law [] call mc ms fr Q X [28, 620] K 400 (pto 620 k_L_law) [some (pA a0), some (pA a1), some (pA a2), some (pA a3), some (pA a4), some (pI i5), z6, z7, z8] [] h c s :=
  H

set_option maxRecDepth 100000 in
theorem v_L_law_688 (a0 : Nat) (a1 : Nat) (a2 : Nat) (a3 : Nat) (a4 : Nat) (i5 : Int) (z6 : Option PV) (z7 : Option PV) (z8 : Option PV) (h : PH) (c s : Nat) (H : (hk h a0 = 20 ∨ hk h a0 = 26) ∧ (0 ≤ (i5 + 1) ∧ (i5 + 1) < (hl h a0 : Int)) ∧ (hk h a0 = 20 ∨ hk h a0 = 26) ∧ (0 ≤ (i5 + 2) ∧ (i5 + 2) < (hl h a0 : Int)) ∧ (c + 24 ≤ mc ∧ s + 1700 ≤ ms) ∧ call m_L_program [pA a1, pI (hi h a0 (Int.toNat ((i5 + 1)))), pI (hi h a0 (Int.toNat ((i5 + 2)))), pA a3] h (fun x1 h1 =>
 (hk h1 a0 = 20 ∨ hk h1 a0 = 26) ∧ (0 ≤ (i5 + 1) ∧ (i5 + 1) < (hl h1 a0 : Int)) ∧ (hk h1 a0 = 20 ∨ hk h1 a0 = 26) ∧ (0 ≤ (i5 + 2) ∧ (i5 + 2) < (hl h1 a0 : Int)) ∧ hk h1 a2 = 8 ∧ call m_X7_program [pA a2, pI (hi h1 a0 (Int.toNat ((i5 + 1)))), pI (hi h1 a0 (Int.toNat ((i5 + 2))))] h1 (fun x2 h2 =>
 hk h2 a2 = 8 ∧ call m_X7_thrown [pA a2] h2 (fun x3 h3 =>
 InR x3 ∧ InR x1 ∧ (x3 = x1 →
 InR x1 ∧ (x1 = 0 →
 hk h3 a3 = 23 ∧ (0 ≤ (0 : Int) ∧ (0 : Int) < (hl h3 a3 : Int)) ∧ InR x2 ∧ InL (hi h3 a3 (Int.toNat (0 : Int))) ∧ InL x2 ∧ InR (if (hi h3 a3 (Int.toNat (0 : Int))) < x2 then -1 else if (hi h3 a3 (Int.toNat (0 : Int))) = x2 then 0 else 1) ∧ ((if (hi h3 a3 (Int.toNat (0 : Int))) < x2 then -1 else if (hi h3 a3 (Int.toNat (0 : Int))) = x2 then 0 else 1) = 0 →
 K 28 [some (pA a0), some (pA a1), some (pA a2), some (pA a3), some (pA a4), some (pI (i5 + 6)), some (pI x1), some (pI x2), z8] [] h3 (c + 24) (s + 1700)) ∧
((if (hi h3 a3 (Int.toNat (0 : Int))) < x2 then -1 else if (hi h3 a3 (Int.toNat (0 : Int))) = x2 then 0 else 1) ≠ 0 →
 ((0 : Int) = 0 ∨ (0 : Int) = 1) ∧ Q 0 h3)) ∧
(x1 ≠ 0 →
 K 28 [some (pA a0), some (pA a1), some (pA a2), some (pA a3), some (pA a4), some (pI (i5 + 6)), some (pI x1), some (pI x2), z8] [] h3 (c + 24) (s + 1700))) ∧
(x3 ≠ x1 →
 ((0 : Int) = 0 ∨ (0 : Int) = 1) ∧ Q 0 h3)) X) X) X) : wpc k_L_law [] call mc ms fr Q X [28, 688] K 400 (pto 688 k_L_law) [some (pA a0), some (pA a1), some (pA a2), some (pA a3), some (pA a4), some (pI i5), z6, z7, z8] [] h c s :=
  H

set_option maxRecDepth 100000 in
theorem v_L_law_756 (a0 : Nat) (a1 : Nat) (a2 : Nat) (a3 : Nat) (a4 : Nat) (i5 : Int) (z6 : Option PV) (z7 : Option PV) (z8 : Option PV) (h : PH) (c s : Nat) (H : (hk h a0 = 20 ∨ hk h a0 = 26) ∧ (0 ≤ (i5 + 1) ∧ (i5 + 1) < (hl h a0 : Int)) ∧ (hk h a0 = 20 ∨ hk h a0 = 26) ∧ (0 ≤ (i5 + 2) ∧ (i5 + 2) < (hl h a0 : Int)) ∧ (hk h a0 = 20 ∨ hk h a0 = 26) ∧ (0 ≤ (i5 + 3) ∧ (i5 + 3) < (hl h a0 : Int)) ∧ (c + 24 ≤ mc ∧ s + 1700 ≤ ms) ∧ call m_L_handler [pA a1, pI (hi h a0 (Int.toNat ((i5 + 1)))), pI (hi h a0 (Int.toNat ((i5 + 2)))), pI (hi h a0 (Int.toNat ((i5 + 3)))), pA a3] h (fun x1 h1 =>
 (hk h1 a0 = 20 ∨ hk h1 a0 = 26) ∧ (0 ≤ (i5 + 1) ∧ (i5 + 1) < (hl h1 a0 : Int)) ∧ (hk h1 a0 = 20 ∨ hk h1 a0 = 26) ∧ (0 ≤ (i5 + 2) ∧ (i5 + 2) < (hl h1 a0 : Int)) ∧ (hk h1 a0 = 20 ∨ hk h1 a0 = 26) ∧ (0 ≤ (i5 + 3) ∧ (i5 + 3) < (hl h1 a0 : Int)) ∧ hk h1 a2 = 8 ∧ call m_X7_handler [pA a2, pI (hi h1 a0 (Int.toNat ((i5 + 1)))), pI (hi h1 a0 (Int.toNat ((i5 + 2)))), pI (hi h1 a0 (Int.toNat ((i5 + 3))))] h1 (fun x2 h2 =>
 hk h2 a2 = 8 ∧ call m_X7_thrown [pA a2] h2 (fun x3 h3 =>
 InR x3 ∧ InR x1 ∧ (x3 = x1 →
 InR x1 ∧ (x1 = 0 →
 hk h3 a3 = 23 ∧ (0 ≤ (0 : Int) ∧ (0 : Int) < (hl h3 a3 : Int)) ∧ InR x2 ∧ InL (hi h3 a3 (Int.toNat (0 : Int))) ∧ InL x2 ∧ InR (if (hi h3 a3 (Int.toNat (0 : Int))) < x2 then -1 else if (hi h3 a3 (Int.toNat (0 : Int))) = x2 then 0 else 1) ∧ ((if (hi h3 a3 (Int.toNat (0 : Int))) < x2 then -1 else if (hi h3 a3 (Int.toNat (0 : Int))) = x2 then 0 else 1) = 0 →
 K 28 [some (pA a0), some (pA a1), some (pA a2), some (pA a3), some (pA a4), some (pI (i5 + 6)), some (pI x1), some (pI x2), z8] [] h3 (c + 24) (s + 1700)) ∧
((if (hi h3 a3 (Int.toNat (0 : Int))) < x2 then -1 else if (hi h3 a3 (Int.toNat (0 : Int))) = x2 then 0 else 1) ≠ 0 →
 ((0 : Int) = 0 ∨ (0 : Int) = 1) ∧ Q 0 h3)) ∧
(x1 ≠ 0 →
 K 28 [some (pA a0), some (pA a1), some (pA a2), some (pA a3), some (pA a4), some (pI (i5 + 6)), some (pI x1), some (pI x2), z8] [] h3 (c + 24) (s + 1700))) ∧
(x3 ≠ x1 →
 ((0 : Int) = 0 ∨ (0 : Int) = 1) ∧ Q 0 h3)) X) X) X) : wpc k_L_law [] call mc ms fr Q X [28, 756] K 400 (pto 756 k_L_law) [some (pA a0), some (pA a1), some (pA a2), some (pA a3), some (pA a4), some (pI i5), z6, z7, z8] [] h c s :=
  H

set_option maxRecDepth 100000 in
theorem v_L_law_836 (a0 : Nat) (a1 : Nat) (a2 : Nat) (a3 : Nat) (a4 : Nat) (i5 : Int) (z6 : Option PV) (z7 : Option PV) (z8 : Option PV) (h : PH) (c s : Nat) (H : (hk h a0 = 20 ∨ hk h a0 = 26) ∧ (0 ≤ (i5 + 1) ∧ (i5 + 1) < (hl h a0 : Int)) ∧ (hk h a0 = 20 ∨ hk h a0 = 26) ∧ (0 ≤ (i5 + 2) ∧ (i5 + 2) < (hl h a0 : Int)) ∧ (c + 24 ≤ mc ∧ s + 1700 ≤ ms) ∧ call m_L_urgency [pA a1, pI (hi h a0 (Int.toNat ((i5 + 1)))), pI (hi h a0 (Int.toNat ((i5 + 2)))), pA a3] h (fun x1 h1 =>
 (hk h1 a0 = 20 ∨ hk h1 a0 = 26) ∧ (0 ≤ (i5 + 1) ∧ (i5 + 1) < (hl h1 a0 : Int)) ∧ (hk h1 a0 = 20 ∨ hk h1 a0 = 26) ∧ (0 ≤ (i5 + 2) ∧ (i5 + 2) < (hl h1 a0 : Int)) ∧ hk h1 a2 = 8 ∧ call m_X7_urgency [pA a2, pI (hi h1 a0 (Int.toNat ((i5 + 1)))), pI (hi h1 a0 (Int.toNat ((i5 + 2))))] h1 (fun x2 h2 =>
 hk h2 a2 = 8 ∧ call m_X7_thrown [pA a2] h2 (fun x3 h3 =>
 InR x3 ∧ InR x1 ∧ (x3 = x1 →
 InR x1 ∧ (x1 = 0 →
 hk h3 a3 = 23 ∧ (0 ≤ (0 : Int) ∧ (0 : Int) < (hl h3 a3 : Int)) ∧ InR x2 ∧ InL (hi h3 a3 (Int.toNat (0 : Int))) ∧ InL x2 ∧ InR (if (hi h3 a3 (Int.toNat (0 : Int))) < x2 then -1 else if (hi h3 a3 (Int.toNat (0 : Int))) = x2 then 0 else 1) ∧ ((if (hi h3 a3 (Int.toNat (0 : Int))) < x2 then -1 else if (hi h3 a3 (Int.toNat (0 : Int))) = x2 then 0 else 1) = 0 →
 K 28 [some (pA a0), some (pA a1), some (pA a2), some (pA a3), some (pA a4), some (pI (i5 + 6)), some (pI x1), some (pI x2), z8] [] h3 (c + 24) (s + 1700)) ∧
((if (hi h3 a3 (Int.toNat (0 : Int))) < x2 then -1 else if (hi h3 a3 (Int.toNat (0 : Int))) = x2 then 0 else 1) ≠ 0 →
 ((0 : Int) = 0 ∨ (0 : Int) = 1) ∧ Q 0 h3)) ∧
(x1 ≠ 0 →
 K 28 [some (pA a0), some (pA a1), some (pA a2), some (pA a3), some (pA a4), some (pI (i5 + 6)), some (pI x1), some (pI x2), z8] [] h3 (c + 24) (s + 1700))) ∧
(x3 ≠ x1 →
 ((0 : Int) = 0 ∨ (0 : Int) = 1) ∧ Q 0 h3)) X) X) X) : wpc k_L_law [] call mc ms fr Q X [28, 836] K 400 (pto 836 k_L_law) [some (pA a0), some (pA a1), some (pA a2), some (pA a3), some (pA a4), some (pI i5), z6, z7, z8] [] h c s :=
  H

set_option maxRecDepth 100000 in
theorem v_L_law_904 (a0 : Nat) (a1 : Nat) (a2 : Nat) (a3 : Nat) (a4 : Nat) (i5 : Int) (z6 : Option PV) (z7 : Option PV) (z8 : Option PV) (h : PH) (c s : Nat) (H : (hk h a0 = 20 ∨ hk h a0 = 26) ∧ (0 ≤ (i5 + 1) ∧ (i5 + 1) < (hl h a0 : Int)) ∧ (hk h a0 = 20 ∨ hk h a0 = 26) ∧ (0 ≤ (i5 + 2) ∧ (i5 + 2) < (hl h a0 : Int)) ∧ (c + 24 ≤ mc ∧ s + 1700 ≤ ms) ∧ call m_L_tiredness [pA a1, pI (hi h a0 (Int.toNat ((i5 + 1)))), pI (hi h a0 (Int.toNat ((i5 + 2)))), pA a3] h (fun x1 h1 =>
 (hk h1 a0 = 20 ∨ hk h1 a0 = 26) ∧ (0 ≤ (i5 + 1) ∧ (i5 + 1) < (hl h1 a0 : Int)) ∧ (hk h1 a0 = 20 ∨ hk h1 a0 = 26) ∧ (0 ≤ (i5 + 2) ∧ (i5 + 2) < (hl h1 a0 : Int)) ∧ hk h1 a2 = 8 ∧ call m_X7_tiredness [pA a2, pI (hi h1 a0 (Int.toNat ((i5 + 1)))), pI (hi h1 a0 (Int.toNat ((i5 + 2))))] h1 (fun x2 h2 =>
 hk h2 a2 = 8 ∧ call m_X7_thrown [pA a2] h2 (fun x3 h3 =>
 InR x3 ∧ InR x1 ∧ (x3 = x1 →
 InR x1 ∧ (x1 = 0 →
 hk h3 a3 = 23 ∧ (0 ≤ (0 : Int) ∧ (0 : Int) < (hl h3 a3 : Int)) ∧ InR x2 ∧ InL (hi h3 a3 (Int.toNat (0 : Int))) ∧ InL x2 ∧ InR (if (hi h3 a3 (Int.toNat (0 : Int))) < x2 then -1 else if (hi h3 a3 (Int.toNat (0 : Int))) = x2 then 0 else 1) ∧ ((if (hi h3 a3 (Int.toNat (0 : Int))) < x2 then -1 else if (hi h3 a3 (Int.toNat (0 : Int))) = x2 then 0 else 1) = 0 →
 K 28 [some (pA a0), some (pA a1), some (pA a2), some (pA a3), some (pA a4), some (pI (i5 + 6)), some (pI x1), some (pI x2), z8] [] h3 (c + 24) (s + 1700)) ∧
((if (hi h3 a3 (Int.toNat (0 : Int))) < x2 then -1 else if (hi h3 a3 (Int.toNat (0 : Int))) = x2 then 0 else 1) ≠ 0 →
 ((0 : Int) = 0 ∨ (0 : Int) = 1) ∧ Q 0 h3)) ∧
(x1 ≠ 0 →
 K 28 [some (pA a0), some (pA a1), some (pA a2), some (pA a3), some (pA a4), some (pI (i5 + 6)), some (pI x1), some (pI x2), z8] [] h3 (c + 24) (s + 1700))) ∧
(x3 ≠ x1 →
 ((0 : Int) = 0 ∨ (0 : Int) = 1) ∧ Q 0 h3)) X) X) X) : wpc k_L_law [] call mc ms fr Q X [28, 904] K 400 (pto 904 k_L_law) [some (pA a0), some (pA a1), some (pA a2), some (pA a3), some (pA a4), some (pI i5), z6, z7, z8] [] h c s :=
  H

set_option maxRecDepth 100000 in
theorem v_L_law_972 (a0 : Nat) (a1 : Nat) (a2 : Nat) (a3 : Nat) (a4 : Nat) (i5 : Int) (z6 : Option PV) (z7 : Option PV) (z8 : Option PV) (h : PH) (c s : Nat) (H : (hk h a0 = 20 ∨ hk h a0 = 26) ∧ (0 ≤ (i5 + 1) ∧ (i5 + 1) < (hl h a0 : Int)) ∧ (hk h a0 = 20 ∨ hk h a0 = 26) ∧ (0 ≤ (i5 + 2) ∧ (i5 + 2) < (hl h a0 : Int)) ∧ (hk h a0 = 20 ∨ hk h a0 = 26) ∧ (0 ≤ (i5 + 3) ∧ (i5 + 3) < (hl h a0 : Int)) ∧ (c + 24 ≤ mc ∧ s + 1700 ≤ ms) ∧ call m_L_queue [pA a1, pI (hi h a0 (Int.toNat ((i5 + 1)))), pI (hi h a0 (Int.toNat ((i5 + 2)))), pI (hi h a0 (Int.toNat ((i5 + 3)))), pA a3] h (fun x1 h1 =>
 (hk h1 a0 = 20 ∨ hk h1 a0 = 26) ∧ (0 ≤ (i5 + 1) ∧ (i5 + 1) < (hl h1 a0 : Int)) ∧ (hk h1 a0 = 20 ∨ hk h1 a0 = 26) ∧ (0 ≤ (i5 + 2) ∧ (i5 + 2) < (hl h1 a0 : Int)) ∧ (hk h1 a0 = 20 ∨ hk h1 a0 = 26) ∧ (0 ≤ (i5 + 3) ∧ (i5 + 3) < (hl h1 a0 : Int)) ∧ hk h1 a2 = 8 ∧ call m_X7_queue [pA a2, pI (hi h1 a0 (Int.toNat ((i5 + 1)))), pI (hi h1 a0 (Int.toNat ((i5 + 2)))), pI (hi h1 a0 (Int.toNat ((i5 + 3))))] h1 (fun x2 h2 =>
 hk h2 a2 = 8 ∧ call m_X7_thrown [pA a2] h2 (fun x3 h3 =>
 InR x3 ∧ InR x1 ∧ (x3 = x1 →
 InR x1 ∧ (x1 = 0 →
 hk h3 a3 = 23 ∧ (0 ≤ (0 : Int) ∧ (0 : Int) < (hl h3 a3 : Int)) ∧ InR x2 ∧ InL (hi h3 a3 (Int.toNat (0 : Int))) ∧ InL x2 ∧ InR (if (hi h3 a3 (Int.toNat (0 : Int))) < x2 then -1 else if (hi h3 a3 (Int.toNat (0 : Int))) = x2 then 0 else 1) ∧ ((if (hi h3 a3 (Int.toNat (0 : Int))) < x2 then -1 else if (hi h3 a3 (Int.toNat (0 : Int))) = x2 then 0 else 1) = 0 →
 K 28 [some (pA a0), some (pA a1), some (pA a2), some (pA a3), some (pA a4), some (pI (i5 + 6)), some (pI x1), some (pI x2), z8] [] h3 (c + 24) (s + 1700)) ∧
((if (hi h3 a3 (Int.toNat (0 : Int))) < x2 then -1 else if (hi h3 a3 (Int.toNat (0 : Int))) = x2 then 0 else 1) ≠ 0 →
 ((0 : Int) = 0 ∨ (0 : Int) = 1) ∧ Q 0 h3)) ∧
(x1 ≠ 0 →
 K 28 [some (pA a0), some (pA a1), some (pA a2), some (pA a3), some (pA a4), some (pI (i5 + 6)), some (pI x1), some (pI x2), z8] [] h3 (c + 24) (s + 1700))) ∧
(x3 ≠ x1 →
 ((0 : Int) = 0 ∨ (0 : Int) = 1) ∧ Q 0 h3)) X) X) X) : wpc k_L_law [] call mc ms fr Q X [28, 972] K 400 (pto 972 k_L_law) [some (pA a0), some (pA a1), some (pA a2), some (pA a3), some (pA a4), some (pI i5), z6, z7, z8] [] h c s :=
  H

set_option maxRecDepth 100000 in
theorem v_L_law_1052 (a0 : Nat) (a1 : Nat) (a2 : Nat) (a3 : Nat) (a4 : Nat) (i5 : Int) (z6 : Option PV) (z7 : Option PV) (z8 : Option PV) (h : PH) (c s : Nat) (H : (hk h a0 = 20 ∨ hk h a0 = 26) ∧ (0 ≤ (i5 + 1) ∧ (i5 + 1) < (hl h a0 : Int)) ∧ (hk h a0 = 20 ∨ hk h a0 = 26) ∧ (0 ≤ (i5 + 2) ∧ (i5 + 2) < (hl h a0 : Int)) ∧ (hk h a0 = 20 ∨ hk h a0 = 26) ∧ (0 ≤ (i5 + 3) ∧ (i5 + 3) < (hl h a0 : Int)) ∧ (c + 24 ≤ mc ∧ s + 1700 ≤ ms) ∧ call m_L_running [pA a1, pI (hi h a0 (Int.toNat ((i5 + 1)))), pI (hi h a0 (Int.toNat ((i5 + 2)))), pI (hi h a0 (Int.toNat ((i5 + 3)))), pA a3] h (fun x1 h1 =>
 (hk h1 a0 = 20 ∨ hk h1 a0 = 26) ∧ (0 ≤ (i5 + 1) ∧ (i5 + 1) < (hl h1 a0 : Int)) ∧ (hk h1 a0 = 20 ∨ hk h1 a0 = 26) ∧ (0 ≤ (i5 + 2) ∧ (i5 + 2) < (hl h1 a0 : Int)) ∧ (hk h1 a0 = 20 ∨ hk h1 a0 = 26) ∧ (0 ≤ (i5 + 3) ∧ (i5 + 3) < (hl h1 a0 : Int)) ∧ hk h1 a2 = 8 ∧ call m_X7_running [pA a2, pI (hi h1 a0 (Int.toNat ((i5 + 1)))), pI (hi h1 a0 (Int.toNat ((i5 + 2)))), pI (hi h1 a0 (Int.toNat ((i5 + 3))))] h1 (fun x2 h2 =>
 hk h2 a2 = 8 ∧ call m_X7_thrown [pA a2] h2 (fun x3 h3 =>
 InR x3 ∧ InR x1 ∧ (x3 = x1 →
 InR x1 ∧ (x1 = 0 →
 hk h3 a3 = 23 ∧ (0 ≤ (0 : Int) ∧ (0 : Int) < (hl h3 a3 : Int)) ∧ InR x2 ∧ InL (hi h3 a3 (Int.toNat (0 : Int))) ∧ InL x2 ∧ InR (if (hi h3 a3 (Int.toNat (0 : Int))) < x2 then -1 else if (hi h3 a3 (Int.toNat (0 : Int))) = x2 then 0 else 1) ∧ ((if (hi h3 a3 (Int.toNat (0 : Int))) < x2 then -1 else if (hi h3 a3 (Int.toNat (0 : Int))) = x2 then 0 else 1) = 0 →
 K 28 [some (pA a0), some (pA a1), some (pA a2), some (pA a3), some (pA a4), some (pI (i5 + 6)), some (pI x1), some (pI x2), z8] [] h3 (c + 24) (s + 1700)) ∧
((if (hi h3 a3 (Int.toNat (0 : Int))) < x2 then -1 else if (hi h3 a3 (Int.toNat (0 : Int))) = x2 then 0 else 1) ≠ 0 →
 ((0 : Int) = 0 ∨ (0 : Int) = 1) ∧ Q 0 h3)) ∧
(x1 ≠ 0 →
 K 28 [some (pA a0), some (pA a1), some (pA a2), some (pA a3), some (pA a4), some (pI (i5 + 6)), some (pI x1), some (pI x2), z8] [] h3 (c + 24) (s + 1700))) ∧
(x3 ≠ x1 →
 ((0 : Int) = 0 ∨ (0 : Int) = 1) ∧ Q 0 h3)) X) X) X) : wpc k_L_law [] call mc ms fr Q X [28, 1052] K 400 (pto 1052 k_L_law) [some (pA a0), some (pA a1), some (pA a2), some (pA a3), some (pA a4), some (pI i5), z6, z7, z8] [] h c s :=
  H

set_option maxRecDepth 100000 in
theorem v_L_law_1132 (a0 : Nat) (a1 : Nat) (a2 : Nat) (a3 : Nat) (a4 : Nat) (i5 : Int) (z6 : Option PV) (z7 : Option PV) (z8 : Option PV) (h : PH) (c s : Nat) (H : (hk h a0 = 20 ∨ hk h a0 = 26) ∧ (0 ≤ (i5 + 1) ∧ (i5 + 1) < (hl h a0 : Int)) ∧ (hk h a0 = 20 ∨ hk h a0 = 26) ∧ (0 ≤ (i5 + 2) ∧ (i5 + 2) < (hl h a0 : Int)) ∧ (c + 24 ≤ mc ∧ s + 1700 ≤ ms) ∧ call m_L_end [pA a1, pI (hi h a0 (Int.toNat ((i5 + 1)))), pI (hi h a0 (Int.toNat ((i5 + 2)))), pA a3] h (fun x1 h1 =>
 (hk h1 a0 = 20 ∨ hk h1 a0 = 26) ∧ (0 ≤ (i5 + 1) ∧ (i5 + 1) < (hl h1 a0 : Int)) ∧ (hk h1 a0 = 20 ∨ hk h1 a0 = 26) ∧ (0 ≤ (i5 + 2) ∧ (i5 + 2) < (hl h1 a0 : Int)) ∧ hk h1 a2 = 8 ∧ call m_X7_end [pA a2, pI (hi h1 a0 (Int.toNat ((i5 + 1)))), pI (hi h1 a0 (Int.toNat ((i5 + 2))))] h1 (fun x2 h2 =>
 hk h2 a2 = 8 ∧ call m_X7_thrown [pA a2] h2 (fun x3 h3 =>
 InR x3 ∧ InR x1 ∧ (x3 = x1 →
 InR x1 ∧ (x1 = 0 →
 hk h3 a3 = 23 ∧ (0 ≤ (0 : Int) ∧ (0 : Int) < (hl h3 a3 : Int)) ∧ InR x2 ∧ InL (hi h3 a3 (Int.toNat (0 : Int))) ∧ InL x2 ∧ InR (if (hi h3 a3 (Int.toNat (0 : Int))) < x2 then -1 else if (hi h3 a3 (Int.toNat (0 : Int))) = x2 then 0 else 1) ∧ ((if (hi h3 a3 (Int.toNat (0 : Int))) < x2 then -1 else if (hi h3 a3 (Int.toNat (0 : Int))) = x2 then 0 else 1) = 0 →
 K 28 [some (pA a0), some (pA a1), some (pA a2), some (pA a3), some (pA a4), some (pI (i5 + 6)), some (pI x1), some (pI x2), z8] [] h3 (c + 24) (s + 1700)) ∧
((if (hi h3 a3 (Int.toNat (0 : Int))) < x2 then -1 else if (hi h3 a3 (Int.toNat (0 : Int))) = x2 then 0 else 1) ≠ 0 →
 ((0 : Int) = 0 ∨ (0 : Int) = 1) ∧ Q 0 h3)) ∧
(x1 ≠ 0 →
 K 28 [some (pA a0), some (pA a1), some (pA a2), some (pA a3), some (pA a4), some (pI (i5 + 6)), some (pI x1), some (pI x2), z8] [] h3 (c + 24) (s + 1700))) ∧
(x3 ≠ x1 →
 ((0 : Int) = 0 ∨ (0 : Int) = 1) ∧ Q 0 h3)) X) X) X) : wpc k_L_law [] call mc ms fr Q X [28, 1132] K 400 (pto 1132 k_L_law) [some (pA a0), some (pA a1), some (pA a2), some (pA a3), some (pA a4), some (pI i5), z6, z7, z8] [] h c s :=
  H

set_option maxRecDepth 100000 in
theorem v_L_law_1200 (a0 : Nat) (a1 : Nat) (a2 : Nat) (a3 : Nat) (a4 : Nat) (i5 : Int) (z6 : Option PV) (z7 : Option PV) (z8 : Option PV) (h : PH) (c s : Nat) (H : (hk h a0 = 20 ∨ hk h a0 = 26) ∧ (0 ≤ (i5 + 1) ∧ (i5 + 1) < (hl h a0 : Int)) ∧ (c + 24 ≤ mc ∧ s + 1700 ≤ ms) ∧ call m_L_whereIs [pA a1, pI (hi h a0 (Int.toNat ((i5 + 1)))), pA a3] h (fun x1 h1 =>
 (hk h1 a0 = 20 ∨ hk h1 a0 = 26) ∧ (0 ≤ (i5 + 1) ∧ (i5 + 1) < (hl h1 a0 : Int)) ∧ hk h1 a2 = 8 ∧ call m_X7_whereIs [pA a2, pI (hi h1 a0 (Int.toNat ((i5 + 1))))] h1 (fun x2 h2 =>
 hk h2 a2 = 8 ∧ call m_X7_thrown [pA a2] h2 (fun x3 h3 =>
 InR x3 ∧ InR x1 ∧ (x3 = x1 →
 InR x1 ∧ (x1 = 0 →
 hk h3 a3 = 23 ∧ (0 ≤ (0 : Int) ∧ (0 : Int) < (hl h3 a3 : Int)) ∧ InR x2 ∧ InL (hi h3 a3 (Int.toNat (0 : Int))) ∧ InL x2 ∧ InR (if (hi h3 a3 (Int.toNat (0 : Int))) < x2 then -1 else if (hi h3 a3 (Int.toNat (0 : Int))) = x2 then 0 else 1) ∧ ((if (hi h3 a3 (Int.toNat (0 : Int))) < x2 then -1 else if (hi h3 a3 (Int.toNat (0 : Int))) = x2 then 0 else 1) = 0 →
 K 28 [some (pA a0), some (pA a1), some (pA a2), some (pA a3), some (pA a4), some (pI (i5 + 6)), some (pI x1), some (pI x2), z8] [] h3 (c + 24) (s + 1700)) ∧
((if (hi h3 a3 (Int.toNat (0 : Int))) < x2 then -1 else if (hi h3 a3 (Int.toNat (0 : Int))) = x2 then 0 else 1) ≠ 0 →
 ((0 : Int) = 0 ∨ (0 : Int) = 1) ∧ Q 0 h3)) ∧
(x1 ≠ 0 →
 K 28 [some (pA a0), some (pA a1), some (pA a2), some (pA a3), some (pA a4), some (pI (i5 + 6)), some (pI x1), some (pI x2), z8] [] h3 (c + 24) (s + 1700))) ∧
(x3 ≠ x1 →
 ((0 : Int) = 0 ∨ (0 : Int) = 1) ∧ Q 0 h3)) X) X) X) : wpc k_L_law [] call mc ms fr Q X [28, 1200] K 400 (pto 1200 k_L_law) [some (pA a0), some (pA a1), some (pA a2), some (pA a3), some (pA a4), some (pI i5), z6, z7, z8] [] h c s :=
  H

set_option maxRecDepth 100000 in
theorem v_L_law_1256 (a0 : Nat) (a1 : Nat) (a2 : Nat) (a3 : Nat) (a4 : Nat) (i5 : Int) (z6 : Option PV) (z7 : Option PV) (z8 : Option PV) (h : PH) (c s : Nat) (H : (hk h a0 = 20 ∨ hk h a0 = 26) ∧ (0 ≤ (i5 + 1) ∧ (i5 + 1) < (hl h a0 : Int)) ∧ (c + 24 ≤ mc ∧ s + 1700 ≤ ms) ∧ call m_L_next [pA a1, pI (hi h a0 (Int.toNat ((i5 + 1)))), pA a3] h (fun x1 h1 =>
 (hk h1 a0 = 20 ∨ hk h1 a0 = 26) ∧ (0 ≤ (i5 + 1) ∧ (i5 + 1) < (hl h1 a0 : Int)) ∧ hk h1 a2 = 8 ∧ call m_X7_next [pA a2, pI (hi h1 a0 (Int.toNat ((i5 + 1))))] h1 (fun x2 h2 =>
 hk h2 a2 = 8 ∧ call m_X7_thrown [pA a2] h2 (fun x3 h3 =>
 InR x3 ∧ InR x1 ∧ (x3 = x1 →
 InR x1 ∧ (x1 = 0 →
 hk h3 a3 = 23 ∧ (0 ≤ (0 : Int) ∧ (0 : Int) < (hl h3 a3 : Int)) ∧ InR x2 ∧ InL (hi h3 a3 (Int.toNat (0 : Int))) ∧ InL x2 ∧ InR (if (hi h3 a3 (Int.toNat (0 : Int))) < x2 then -1 else if (hi h3 a3 (Int.toNat (0 : Int))) = x2 then 0 else 1) ∧ ((if (hi h3 a3 (Int.toNat (0 : Int))) < x2 then -1 else if (hi h3 a3 (Int.toNat (0 : Int))) = x2 then 0 else 1) = 0 →
 K 28 [some (pA a0), some (pA a1), some (pA a2), some (pA a3), some (pA a4), some (pI (i5 + 6)), some (pI x1), some (pI x2), z8] [] h3 (c + 24) (s + 1700)) ∧
((if (hi h3 a3 (Int.toNat (0 : Int))) < x2 then -1 else if (hi h3 a3 (Int.toNat (0 : Int))) = x2 then 0 else 1) ≠ 0 →
 ((0 : Int) = 0 ∨ (0 : Int) = 1) ∧ Q 0 h3)) ∧
(x1 ≠ 0 →
 K 28 [some (pA a0), some (pA a1), some (pA a2), some (pA a3), some (pA a4), some (pI (i5 + 6)), some (pI x1), some (pI x2), z8] [] h3 (c + 24) (s + 1700))) ∧
(x3 ≠ x1 →
 ((0 : Int) = 0 ∨ (0 : Int) = 1) ∧ Q 0 h3)) X) X) X) : wpc k_L_law [] call mc ms fr Q X [28, 1256] K 400 (pto 1256 k_L_law) [some (pA a0), some (pA a1), some (pA a2), some (pA a3), some (pA a4), some (pI i5), z6, z7, z8] [] h c s :=
  H

set_option maxRecDepth 100000 in
theorem v_L_law_1312 (a0 : Nat) (a1 : Nat) (a2 : Nat) (a3 : Nat) (a4 : Nat) (i5 : Int) (z6 : Option PV) (z7 : Option PV) (z8 : Option PV) (h : PH) (c s : Nat) (H : (c + 24 ≤ mc ∧ s + 1700 ≤ ms) ∧ call m_L_busiest [pA a1, pA a3] h (fun x1 h1 =>
 hk h1 a2 = 8 ∧ call m_X7_busiest [pA a2] h1 (fun x2 h2 =>
 hk h2 a2 = 8 ∧ call m_X7_thrown [pA a2] h2 (fun x3 h3 =>
 InR x3 ∧ InR x1 ∧ (x3 = x1 →
 InR x1 ∧ (x1 = 0 →
 hk h3 a3 = 23 ∧ (0 ≤ (0 : Int) ∧ (0 : Int) < (hl h3 a3 : Int)) ∧ InR x2 ∧ InL (hi h3 a3 (Int.toNat (0 : Int))) ∧ InL x2 ∧ InR (if (hi h3 a3 (Int.toNat (0 : Int))) < x2 then -1 else if (hi h3 a3 (Int.toNat (0 : Int))) = x2 then 0 else 1) ∧ ((if (hi h3 a3 (Int.toNat (0 : Int))) < x2 then -1 else if (hi h3 a3 (Int.toNat (0 : Int))) = x2 then 0 else 1) = 0 →
 K 28 [some (pA a0), some (pA a1), some (pA a2), some (pA a3), some (pA a4), some (pI (i5 + 6)), some (pI x1), some (pI x2), z8] [] h3 (c + 24) (s + 1700)) ∧
((if (hi h3 a3 (Int.toNat (0 : Int))) < x2 then -1 else if (hi h3 a3 (Int.toNat (0 : Int))) = x2 then 0 else 1) ≠ 0 →
 ((0 : Int) = 0 ∨ (0 : Int) = 1) ∧ Q 0 h3)) ∧
(x1 ≠ 0 →
 K 28 [some (pA a0), some (pA a1), some (pA a2), some (pA a3), some (pA a4), some (pI (i5 + 6)), some (pI x1), some (pI x2), z8] [] h3 (c + 24) (s + 1700))) ∧
(x3 ≠ x1 →
 ((0 : Int) = 0 ∨ (0 : Int) = 1) ∧ Q 0 h3)) X) X) X) : wpc k_L_law [] call mc ms fr Q X [28, 1312] K 400 (pto 1312 k_L_law) [some (pA a0), some (pA a1), some (pA a2), some (pA a3), some (pA a4), some (pI i5), z6, z7, z8] [] h c s :=
  H

set_option maxRecDepth 100000 in
theorem v_L_law_1356 (a0 : Nat) (a1 : Nat) (a2 : Nat) (a3 : Nat) (a4 : Nat) (i5 : Int) (z6 : Option PV) (z7 : Option PV) (z8 : Option PV) (h : PH) (c s : Nat) (H : (hk h a0 = 20 ∨ hk h a0 = 26) ∧ (0 ≤ (i5 + 1) ∧ (i5 + 1) < (hl h a0 : Int)) ∧ (c + 24 ≤ mc ∧ s + 1700 ≤ ms) ∧ call m_L_tiredest [pA a1, pI (hi h a0 (Int.toNat ((i5 + 1)))), pA a3] h (fun x1 h1 =>
 (hk h1 a0 = 20 ∨ hk h1 a0 = 26) ∧ (0 ≤ (i5 + 1) ∧ (i5 + 1) < (hl h1 a0 : Int)) ∧ hk h1 a2 = 8 ∧ call m_X7_tiredest [pA a2, pI (hi h1 a0 (Int.toNat ((i5 + 1))))] h1 (fun x2 h2 =>
 hk h2 a2 = 8 ∧ call m_X7_thrown [pA a2] h2 (fun x3 h3 =>
 InR x3 ∧ InR x1 ∧ (x3 = x1 →
 InR x1 ∧ (x1 = 0 →
 hk h3 a3 = 23 ∧ (0 ≤ (0 : Int) ∧ (0 : Int) < (hl h3 a3 : Int)) ∧ InR x2 ∧ InL (hi h3 a3 (Int.toNat (0 : Int))) ∧ InL x2 ∧ InR (if (hi h3 a3 (Int.toNat (0 : Int))) < x2 then -1 else if (hi h3 a3 (Int.toNat (0 : Int))) = x2 then 0 else 1) ∧ ((if (hi h3 a3 (Int.toNat (0 : Int))) < x2 then -1 else if (hi h3 a3 (Int.toNat (0 : Int))) = x2 then 0 else 1) = 0 →
 K 28 [some (pA a0), some (pA a1), some (pA a2), some (pA a3), some (pA a4), some (pI (i5 + 6)), some (pI x1), some (pI x2), z8] [] h3 (c + 24) (s + 1700)) ∧
((if (hi h3 a3 (Int.toNat (0 : Int))) < x2 then -1 else if (hi h3 a3 (Int.toNat (0 : Int))) = x2 then 0 else 1) ≠ 0 →
 ((0 : Int) = 0 ∨ (0 : Int) = 1) ∧ Q 0 h3)) ∧
(x1 ≠ 0 →
 K 28 [some (pA a0), some (pA a1), some (pA a2), some (pA a3), some (pA a4), some (pI (i5 + 6)), some (pI x1), some (pI x2), z8] [] h3 (c + 24) (s + 1700))) ∧
(x3 ≠ x1 →
 ((0 : Int) = 0 ∨ (0 : Int) = 1) ∧ Q 0 h3)) X) X) X) : wpc k_L_law [] call mc ms fr Q X [28, 1356] K 400 (pto 1356 k_L_law) [some (pA a0), some (pA a1), some (pA a2), some (pA a3), some (pA a4), some (pI i5), z6, z7, z8] [] h c s :=
  H

set_option maxRecDepth 100000 in
theorem v_L_law_1412 (a0 : Nat) (a1 : Nat) (a2 : Nat) (a3 : Nat) (a4 : Nat) (i5 : Int) (z6 : Option PV) (z7 : Option PV) (z8 : Option PV) (h : PH) (c s : Nat) (H : (c + 24 ≤ mc ∧ s + 1700 ≤ ms) ∧ call m_L_oldest [pA a1, pA a3] h (fun x1 h1 =>
 hk h1 a2 = 8 ∧ call m_X7_oldest [pA a2] h1 (fun x2 h2 =>
 hk h2 a2 = 8 ∧ call m_X7_thrown [pA a2] h2 (fun x3 h3 =>
 InR x3 ∧ InR x1 ∧ (x3 = x1 →
 InR x1 ∧ (x1 = 0 →
 hk h3 a3 = 23 ∧ (0 ≤ (0 : Int) ∧ (0 : Int) < (hl h3 a3 : Int)) ∧ InR x2 ∧ InL (hi h3 a3 (Int.toNat (0 : Int))) ∧ InL x2 ∧ InR (if (hi h3 a3 (Int.toNat (0 : Int))) < x2 then -1 else if (hi h3 a3 (Int.toNat (0 : Int))) = x2 then 0 else 1) ∧ ((if (hi h3 a3 (Int.toNat (0 : Int))) < x2 then -1 else if (hi h3 a3 (Int.toNat (0 : Int))) = x2 then 0 else 1) = 0 →
 K 28 [some (pA a0), some (pA a1), some (pA a2), some (pA a3), some (pA a4), some (pI (i5 + 6)), some (pI x1), some (pI x2), z8] [] h3 (c + 24) (s + 1700)) ∧
((if (hi h3 a3 (Int.toNat (0 : Int))) < x2 then -1 else if (hi h3 a3 (Int.toNat (0 : Int))) = x2 then 0 else 1) ≠ 0 →
 ((0 : Int) = 0 ∨ (0 : Int) = 1) ∧ Q 0 h3)) ∧
(x1 ≠ 0 →
 K 28 [some (pA a0), some (pA a1), some (pA a2), some (pA a3), some (pA a4), some (pI (i5 + 6)), some (pI x1), some (pI x2), z8] [] h3 (c + 24) (s + 1700))) ∧
(x3 ≠ x1 →
 ((0 : Int) = 0 ∨ (0 : Int) = 1) ∧ Q 0 h3)) X) X) X) : wpc k_L_law [] call mc ms fr Q X [28, 1412] K 400 (pto 1412 k_L_law) [some (pA a0), some (pA a1), some (pA a2), some (pA a3), some (pA a4), some (pI i5), z6, z7, z8] [] h c s :=
  H

set_option maxRecDepth 100000 in
theorem v_L_law_1456 (a0 : Nat) (a1 : Nat) (a2 : Nat) (a3 : Nat) (a4 : Nat) (i5 : Int) (z6 : Option PV) (z7 : Option PV) (z8 : Option PV) (h : PH) (c s : Nat) (H : (hk h a0 = 20 ∨ hk h a0 = 26) ∧ (0 ≤ (i5 + 1) ∧ (i5 + 1) < (hl h a0 : Int)) ∧ (hk h a0 = 20 ∨ hk h a0 = 26) ∧ (0 ≤ (i5 + 2) ∧ (i5 + 2) < (hl h a0 : Int)) ∧ (c + 24 ≤ mc ∧ s + 1700 ≤ ms) ∧ call m_L_loser [pA a1, pI (hi h a0 (Int.toNat ((i5 + 1)))), pI (hi h a0 (Int.toNat ((i5 + 2)))), pA a3] h (fun x1 h1 =>
 (hk h1 a0 = 20 ∨ hk h1 a0 = 26) ∧ (0 ≤ (i5 + 1) ∧ (i5 + 1) < (hl h1 a0 : Int)) ∧ (hk h1 a0 = 20 ∨ hk h1 a0 = 26) ∧ (0 ≤ (i5 + 2) ∧ (i5 + 2) < (hl h1 a0 : Int)) ∧ hk h1 a2 = 8 ∧ call m_X7_loser [pA a2, pI (hi h1 a0 (Int.toNat ((i5 + 1)))), pI (hi h1 a0 (Int.toNat ((i5 + 2))))] h1 (fun x2 h2 =>
 hk h2 a2 = 8 ∧ call m_X7_thrown [pA a2] h2 (fun x3 h3 =>
 InR x3 ∧ InR x1 ∧ (x3 = x1 →
 InR x1 ∧ (x1 = 0 →
 hk h3 a3 = 23 ∧ (0 ≤ (0 : Int) ∧ (0 : Int) < (hl h3 a3 : Int)) ∧ InR x2 ∧ InL (hi h3 a3 (Int.toNat (0 : Int))) ∧ InL x2 ∧ InR (if (hi h3 a3 (Int.toNat (0 : Int))) < x2 then -1 else if (hi h3 a3 (Int.toNat (0 : Int))) = x2 then 0 else 1) ∧ ((if (hi h3 a3 (Int.toNat (0 : Int))) < x2 then -1 else if (hi h3 a3 (Int.toNat (0 : Int))) = x2 then 0 else 1) = 0 →
 K 28 [some (pA a0), some (pA a1), some (pA a2), some (pA a3), some (pA a4), some (pI (i5 + 6)), some (pI x1), some (pI x2), z8] [] h3 (c + 24) (s + 1700)) ∧
((if (hi h3 a3 (Int.toNat (0 : Int))) < x2 then -1 else if (hi h3 a3 (Int.toNat (0 : Int))) = x2 then 0 else 1) ≠ 0 →
 ((0 : Int) = 0 ∨ (0 : Int) = 1) ∧ Q 0 h3)) ∧
(x1 ≠ 0 →
 K 28 [some (pA a0), some (pA a1), some (pA a2), some (pA a3), some (pA a4), some (pI (i5 + 6)), some (pI x1), some (pI x2), z8] [] h3 (c + 24) (s + 1700))) ∧
(x3 ≠ x1 →
 ((0 : Int) = 0 ∨ (0 : Int) = 1) ∧ Q 0 h3)) X) X) X) : wpc k_L_law [] call mc ms fr Q X [28, 1456] K 400 (pto 1456 k_L_law) [some (pA a0), some (pA a1), some (pA a2), some (pA a3), some (pA a4), some (pI i5), z6, z7, z8] [] h c s :=
  H

set_option maxRecDepth 100000 in
theorem v_L_law_1655 (a0 : Nat) (a1 : Nat) (a2 : Nat) (a3 : Nat) (a4 : Nat) (i5 : Int) (z6 : Option PV) (z7 : Option PV) (z8 : Option PV) (h : PH) (c s : Nat) (H : (hk h a0 = 20 ∨ hk h a0 = 26) ∧ (0 ≤ (i5 + 1) ∧ (i5 + 1) < (hl h a0 : Int)) ∧ (c + 24 ≤ mc ∧ s + 1700 ≤ ms) ∧ call m_L_raisers [pA a1, pI (hi h a0 (Int.toNat ((i5 + 1)))), pA a3] h (fun x1 h1 =>
 (hk h1 a0 = 20 ∨ hk h1 a0 = 26) ∧ (0 ≤ (i5 + 1) ∧ (i5 + 1) < (hl h1 a0 : Int)) ∧ hk h1 a2 = 8 ∧ call m_X7_raisers [pA a2, pI (hi h1 a0 (Int.toNat ((i5 + 1))))] h1 (fun x2 h2 =>
 hk h2 a2 = 8 ∧ call m_X7_thrown [pA a2] h2 (fun x3 h3 =>
 InR x3 ∧ InR x1 ∧ (x3 = x1 →
 InR x1 ∧ (x1 = 0 →
 hk h3 a3 = 23 ∧ (0 ≤ (0 : Int) ∧ (0 : Int) < (hl h3 a3 : Int)) ∧ InR x2 ∧ InL (hi h3 a3 (Int.toNat (0 : Int))) ∧ InL x2 ∧ InR (if (hi h3 a3 (Int.toNat (0 : Int))) < x2 then -1 else if (hi h3 a3 (Int.toNat (0 : Int))) = x2 then 0 else 1) ∧ ((if (hi h3 a3 (Int.toNat (0 : Int))) < x2 then -1 else if (hi h3 a3 (Int.toNat (0 : Int))) = x2 then 0 else 1) = 0 →
 K 28 [some (pA a0), some (pA a1), some (pA a2), some (pA a3), some (pA a4), some (pI (i5 + 6)), some (pI x1), some (pI x2), z8] [] h3 (c + 24) (s + 1700)) ∧
((if (hi h3 a3 (Int.toNat (0 : Int))) < x2 then -1 else if (hi h3 a3 (Int.toNat (0 : Int))) = x2 then 0 else 1) ≠ 0 →
 ((0 : Int) = 0 ∨ (0 : Int) = 1) ∧ Q 0 h3)) ∧
(x1 ≠ 0 →
 K 28 [some (pA a0), some (pA a1), some (pA a2), some (pA a3), some (pA a4), some (pI (i5 + 6)), some (pI x1), some (pI x2), z8] [] h3 (c + 24) (s + 1700))) ∧
(x3 ≠ x1 →
 ((0 : Int) = 0 ∨ (0 : Int) = 1) ∧ Q 0 h3)) X) X) X) : wpc k_L_law [] call mc ms fr Q X [28, 1655] K 400 (pto 1655 k_L_law) [some (pA a0), some (pA a1), some (pA a2), some (pA a3), some (pA a4), some (pI i5), z6, z7, z8] [] h c s :=
  H

set_option maxRecDepth 100000 in
theorem v_L_law_1711 (a0 : Nat) (a1 : Nat) (a2 : Nat) (a3 : Nat) (a4 : Nat) (i5 : Int) (z6 : Option PV) (z7 : Option PV) (z8 : Option PV) (h : PH) (c s : Nat) (H : (hk h a0 = 20 ∨ hk h a0 = 26) ∧ (0 ≤ (i5 + 1) ∧ (i5 + 1) < (hl h a0 : Int)) ∧ (c + 24 ≤ mc ∧ s + 1700 ≤ ms) ∧ call m_L_idleIn [pA a1, pI (hi h a0 (Int.toNat ((i5 + 1)))), pA a3] h (fun x1 h1 =>
 (hk h1 a0 = 20 ∨ hk h1 a0 = 26) ∧ (0 ≤ (i5 + 1) ∧ (i5 + 1) < (hl h1 a0 : Int)) ∧ hk h1 a2 = 8 ∧ call m_X7_idleIn [pA a2, pI (hi h1 a0 (Int.toNat ((i5 + 1))))] h1 (fun x2 h2 =>
 hk h2 a2 = 8 ∧ call m_X7_thrown [pA a2] h2 (fun x3 h3 =>
 InR x3 ∧ InR x1 ∧ (x3 = x1 →
 InR x1 ∧ (x1 = 0 →
 hk h3 a3 = 23 ∧ (0 ≤ (0 : Int) ∧ (0 : Int) < (hl h3 a3 : Int)) ∧ InR x2 ∧ InL (hi h3 a3 (Int.toNat (0 : Int))) ∧ InL x2 ∧ InR (if (hi h3 a3 (Int.toNat (0 : Int))) < x2 then -1 else if (hi h3 a3 (Int.toNat (0 : Int))) = x2 then 0 else 1) ∧ ((if (hi h3 a3 (Int.toNat (0 : Int))) < x2 then -1 else if (hi h3 a3 (Int.toNat (0 : Int))) = x2 then 0 else 1) = 0 →
 K 28 [some (pA a0), some (pA a1), some (pA a2), some (pA a3), some (pA a4), some (pI (i5 + 6)), some (pI x1), some (pI x2), z8] [] h3 (c + 24) (s + 1700)) ∧
((if (hi h3 a3 (Int.toNat (0 : Int))) < x2 then -1 else if (hi h3 a3 (Int.toNat (0 : Int))) = x2 then 0 else 1) ≠ 0 →
 ((0 : Int) = 0 ∨ (0 : Int) = 1) ∧ Q 0 h3)) ∧
(x1 ≠ 0 →
 K 28 [some (pA a0), some (pA a1), some (pA a2), some (pA a3), some (pA a4), some (pI (i5 + 6)), some (pI x1), some (pI x2), z8] [] h3 (c + 24) (s + 1700))) ∧
(x3 ≠ x1 →
 ((0 : Int) = 0 ∨ (0 : Int) = 1) ∧ Q 0 h3)) X) X) X) : wpc k_L_law [] call mc ms fr Q X [28, 1711] K 400 (pto 1711 k_L_law) [some (pA a0), some (pA a1), some (pA a2), some (pA a3), some (pA a4), some (pI i5), z6, z7, z8] [] h c s :=
  H

set_option maxRecDepth 100000 in
theorem v_L_law_1767 (a0 : Nat) (a1 : Nat) (a2 : Nat) (a3 : Nat) (a4 : Nat) (i5 : Int) (z6 : Option PV) (z7 : Option PV) (z8 : Option PV) (h : PH) (c s : Nat) (H : (c + 24 ≤ mc ∧ s + 1700 ≤ ms) ∧ call m_L_calmIn [pA a1, pA a3] h (fun x1 h1 =>
 hk h1 a2 = 8 ∧ call m_X7_calmIn [pA a2] h1 (fun x2 h2 =>
 hk h2 a2 = 8 ∧ call m_X7_thrown [pA a2] h2 (fun x3 h3 =>
 InR x3 ∧ InR x1 ∧ (x3 = x1 →
 InR x1 ∧ (x1 = 0 →
 hk h3 a3 = 23 ∧ (0 ≤ (0 : Int) ∧ (0 : Int) < (hl h3 a3 : Int)) ∧ InR x2 ∧ InL (hi h3 a3 (Int.toNat (0 : Int))) ∧ InL x2 ∧ InR (if (hi h3 a3 (Int.toNat (0 : Int))) < x2 then -1 else if (hi h3 a3 (Int.toNat (0 : Int))) = x2 then 0 else 1) ∧ ((if (hi h3 a3 (Int.toNat (0 : Int))) < x2 then -1 else if (hi h3 a3 (Int.toNat (0 : Int))) = x2 then 0 else 1) = 0 →
 K 28 [some (pA a0), some (pA a1), some (pA a2), some (pA a3), some (pA a4), some (pI (i5 + 6)), some (pI x1), some (pI x2), z8] [] h3 (c + 24) (s + 1700)) ∧
((if (hi h3 a3 (Int.toNat (0 : Int))) < x2 then -1 else if (hi h3 a3 (Int.toNat (0 : Int))) = x2 then 0 else 1) ≠ 0 →
 ((0 : Int) = 0 ∨ (0 : Int) = 1) ∧ Q 0 h3)) ∧
(x1 ≠ 0 →
 K 28 [some (pA a0), some (pA a1), some (pA a2), some (pA a3), some (pA a4), some (pI (i5 + 6)), some (pI x1), some (pI x2), z8] [] h3 (c + 24) (s + 1700))) ∧
(x3 ≠ x1 →
 ((0 : Int) = 0 ∨ (0 : Int) = 1) ∧ Q 0 h3)) X) X) X) : wpc k_L_law [] call mc ms fr Q X [28, 1767] K 400 (pto 1767 k_L_law) [some (pA a0), some (pA a1), some (pA a2), some (pA a3), some (pA a4), some (pI i5), z6, z7, z8] [] h c s :=
  H

set_option maxRecDepth 100000 in
theorem v_L_law_1811 (a0 : Nat) (a1 : Nat) (a2 : Nat) (a3 : Nat) (a4 : Nat) (i5 : Int) (z6 : Option PV) (z7 : Option PV) (z8 : Option PV) (h : PH) (c s : Nat) (H : (hk h a0 = 20 ∨ hk h a0 = 26) ∧ (0 ≤ (i5 + 1) ∧ (i5 + 1) < (hl h a0 : Int)) ∧ (c + 24 ≤ mc ∧ s + 1700 ≤ ms) ∧ call m_L_endIn [pA a1, pI (hi h a0 (Int.toNat ((i5 + 1)))), pA a3] h (fun x1 h1 =>
 (hk h1 a0 = 20 ∨ hk h1 a0 = 26) ∧ (0 ≤ (i5 + 1) ∧ (i5 + 1) < (hl h1 a0 : Int)) ∧ hk h1 a2 = 8 ∧ call m_X7_endIn [pA a2, pI (hi h1 a0 (Int.toNat ((i5 + 1))))] h1 (fun x2 h2 =>
 hk h2 a2 = 8 ∧ call m_X7_thrown [pA a2] h2 (fun x3 h3 =>
 InR x3 ∧ InR x1 ∧ (x3 = x1 →
 InR x1 ∧ (x1 = 0 →
 hk h3 a3 = 23 ∧ (0 ≤ (0 : Int) ∧ (0 : Int) < (hl h3 a3 : Int)) ∧ InR x2 ∧ InL (hi h3 a3 (Int.toNat (0 : Int))) ∧ InL x2 ∧ InR (if (hi h3 a3 (Int.toNat (0 : Int))) < x2 then -1 else if (hi h3 a3 (Int.toNat (0 : Int))) = x2 then 0 else 1) ∧ ((if (hi h3 a3 (Int.toNat (0 : Int))) < x2 then -1 else if (hi h3 a3 (Int.toNat (0 : Int))) = x2 then 0 else 1) = 0 →
 K 28 [some (pA a0), some (pA a1), some (pA a2), some (pA a3), some (pA a4), some (pI (i5 + 6)), some (pI x1), some (pI x2), z8] [] h3 (c + 24) (s + 1700)) ∧
((if (hi h3 a3 (Int.toNat (0 : Int))) < x2 then -1 else if (hi h3 a3 (Int.toNat (0 : Int))) = x2 then 0 else 1) ≠ 0 →
 ((0 : Int) = 0 ∨ (0 : Int) = 1) ∧ Q 0 h3)) ∧
(x1 ≠ 0 →
 K 28 [some (pA a0), some (pA a1), some (pA a2), some (pA a3), some (pA a4), some (pI (i5 + 6)), some (pI x1), some (pI x2), z8] [] h3 (c + 24) (s + 1700))) ∧
(x3 ≠ x1 →
 ((0 : Int) = 0 ∨ (0 : Int) = 1) ∧ Q 0 h3)) X) X) X) : wpc k_L_law [] call mc ms fr Q X [28, 1811] K 400 (pto 1811 k_L_law) [some (pA a0), some (pA a1), some (pA a2), some (pA a3), some (pA a4), some (pI i5), z6, z7, z8] [] h c s :=
  H

set_option maxRecDepth 100000 in
theorem v_L_law_1867 (a0 : Nat) (a1 : Nat) (a2 : Nat) (a3 : Nat) (a4 : Nat) (i5 : Int) (z6 : Option PV) (z7 : Option PV) (z8 : Option PV) (h : PH) (c s : Nat) (H : (hk h a0 = 20 ∨ hk h a0 = 26) ∧ (0 ≤ (i5 + 1) ∧ (i5 + 1) < (hl h a0 : Int)) ∧ (c + 24 ≤ mc ∧ s + 1700 ≤ ms) ∧ call m_L_endOf [pA a1, pI (hi h a0 (Int.toNat ((i5 + 1)))), pA a3] h (fun x1 h1 =>
 (hk h1 a0 = 20 ∨ hk h1 a0 = 26) ∧ (0 ≤ (i5 + 1) ∧ (i5 + 1) < (hl h1 a0 : Int)) ∧ hk h1 a2 = 8 ∧ call m_X7_endOf [pA a2, pI (hi h1 a0 (Int.toNat ((i5 + 1))))] h1 (fun x2 h2 =>
 hk h2 a2 = 8 ∧ call m_X7_thrown [pA a2] h2 (fun x3 h3 =>
 InR x3 ∧ InR x1 ∧ (x3 = x1 →
 InR x1 ∧ (x1 = 0 →
 hk h3 a3 = 23 ∧ (0 ≤ (0 : Int) ∧ (0 : Int) < (hl h3 a3 : Int)) ∧ InR x2 ∧ InL (hi h3 a3 (Int.toNat (0 : Int))) ∧ InL x2 ∧ InR (if (hi h3 a3 (Int.toNat (0 : Int))) < x2 then -1 else if (hi h3 a3 (Int.toNat (0 : Int))) = x2 then 0 else 1) ∧ ((if (hi h3 a3 (Int.toNat (0 : Int))) < x2 then -1 else if (hi h3 a3 (Int.toNat (0 : Int))) = x2 then 0 else 1) = 0 →
 K 28 [some (pA a0), some (pA a1), some (pA a2), some (pA a3), some (pA a4), some (pI (i5 + 6)), some (pI x1), some (pI x2), z8] [] h3 (c + 24) (s + 1700)) ∧
((if (hi h3 a3 (Int.toNat (0 : Int))) < x2 then -1 else if (hi h3 a3 (Int.toNat (0 : Int))) = x2 then 0 else 1) ≠ 0 →
 ((0 : Int) = 0 ∨ (0 : Int) = 1) ∧ Q 0 h3)) ∧
(x1 ≠ 0 →
 K 28 [some (pA a0), some (pA a1), some (pA a2), some (pA a3), some (pA a4), some (pI (i5 + 6)), some (pI x1), some (pI x2), z8] [] h3 (c + 24) (s + 1700))) ∧
(x3 ≠ x1 →
 ((0 : Int) = 0 ∨ (0 : Int) = 1) ∧ Q 0 h3)) X) X) X) : wpc k_L_law [] call mc ms fr Q X [28, 1867] K 400 (pto 1867 k_L_law) [some (pA a0), some (pA a1), some (pA a2), some (pA a3), some (pA a4), some (pI i5), z6, z7, z8] [] h c s :=
  H

set_option maxRecDepth 100000 in
theorem v_L_law_1923 (a0 : Nat) (a1 : Nat) (a2 : Nat) (a3 : Nat) (a4 : Nat) (i5 : Int) (z6 : Option PV) (z7 : Option PV) (z8 : Option PV) (h : PH) (c s : Nat) (H : (hk h a0 = 20 ∨ hk h a0 = 26) ∧ (0 ≤ (i5 + 1) ∧ (i5 + 1) < (hl h a0 : Int)) ∧ (hk h a0 = 20 ∨ hk h a0 = 26) ∧ (0 ≤ (i5 + 2) ∧ (i5 + 2) < (hl h a0 : Int)) ∧ (c + 24 ≤ mc ∧ s + 1700 ≤ ms) ∧ call m_L_endsIn [pA a1, pI (hi h a0 (Int.toNat ((i5 + 1)))), pI (hi h a0 (Int.toNat ((i5 + 2)))), pA a3] h (fun x1 h1 =>
 (hk h1 a0 = 20 ∨ hk h1 a0 = 26) ∧ (0 ≤ (i5 + 1) ∧ (i5 + 1) < (hl h1 a0 : Int)) ∧ (hk h1 a0 = 20 ∨ hk h1 a0 = 26) ∧ (0 ≤ (i5 + 2) ∧ (i5 + 2) < (hl h1 a0 : Int)) ∧ hk h1 a2 = 8 ∧ call m_X7_endsIn [pA a2, pI (hi h1 a0 (Int.toNat ((i5 + 1)))), pI (hi h1 a0 (Int.toNat ((i5 + 2))))] h1 (fun x2 h2 =>
 hk h2 a2 = 8 ∧ call m_X7_thrown [pA a2] h2 (fun x3 h3 =>
 InR x3 ∧ InR x1 ∧ (x3 = x1 →
 InR x1 ∧ (x1 = 0 →
 hk h3 a3 = 23 ∧ (0 ≤ (0 : Int) ∧ (0 : Int) < (hl h3 a3 : Int)) ∧ InR x2 ∧ InL (hi h3 a3 (Int.toNat (0 : Int))) ∧ InL x2 ∧ InR (if (hi h3 a3 (Int.toNat (0 : Int))) < x2 then -1 else if (hi h3 a3 (Int.toNat (0 : Int))) = x2 then 0 else 1) ∧ ((if (hi h3 a3 (Int.toNat (0 : Int))) < x2 then -1 else if (hi h3 a3 (Int.toNat (0 : Int))) = x2 then 0 else 1) = 0 →
 K 28 [some (pA a0), some (pA a1), some (pA a2), some (pA a3), some (pA a4), some (pI (i5 + 6)), some (pI x1), some (pI x2), z8] [] h3 (c + 24) (s + 1700)) ∧
((if (hi h3 a3 (Int.toNat (0 : Int))) < x2 then -1 else if (hi h3 a3 (Int.toNat (0 : Int))) = x2 then 0 else 1) ≠ 0 →
 ((0 : Int) = 0 ∨ (0 : Int) = 1) ∧ Q 0 h3)) ∧
(x1 ≠ 0 →
 K 28 [some (pA a0), some (pA a1), some (pA a2), some (pA a3), some (pA a4), some (pI (i5 + 6)), some (pI x1), some (pI x2), z8] [] h3 (c + 24) (s + 1700))) ∧
(x3 ≠ x1 →
 ((0 : Int) = 0 ∨ (0 : Int) = 1) ∧ Q 0 h3)) X) X) X) : wpc k_L_law [] call mc ms fr Q X [28, 1923] K 400 (pto 1923 k_L_law) [some (pA a0), some (pA a1), some (pA a2), some (pA a3), some (pA a4), some (pI i5), z6, z7, z8] [] h c s :=
  H

set_option maxRecDepth 100000 in
theorem v_L_law_1991 (a0 : Nat) (a1 : Nat) (a2 : Nat) (a3 : Nat) (a4 : Nat) (i5 : Int) (z6 : Option PV) (z7 : Option PV) (z8 : Option PV) (h : PH) (c s : Nat) (H : (hk h a0 = 20 ∨ hk h a0 = 26) ∧ (0 ≤ (i5 + 1) ∧ (i5 + 1) < (hl h a0 : Int)) ∧ (hk h a0 = 20 ∨ hk h a0 = 26) ∧ (0 ≤ (i5 + 2) ∧ (i5 + 2) < (hl h a0 : Int)) ∧ (hk h a0 = 20 ∨ hk h a0 = 26) ∧ (0 ≤ (i5 + 3) ∧ (i5 + 3) < (hl h a0 : Int)) ∧ (c + 24 ≤ mc ∧ s + 1700 ≤ ms) ∧ call m_L_urgencyIn [pA a1, pI (hi h a0 (Int.toNat ((i5 + 1)))), pI (hi h a0 (Int.toNat ((i5 + 2)))), pI (hi h a0 (Int.toNat ((i5 + 3)))), pA a3] h (fun x1 h1 =>
 (hk h1 a0 = 20 ∨ hk h1 a0 = 26) ∧ (0 ≤ (i5 + 1) ∧ (i5 + 1) < (hl h1 a0 : Int)) ∧ (hk h1 a0 = 20 ∨ hk h1 a0 = 26) ∧ (0 ≤ (i5 + 2) ∧ (i5 + 2) < (hl h1 a0 : Int)) ∧ (hk h1 a0 = 20 ∨ hk h1 a0 = 26) ∧ (0 ≤ (i5 + 3) ∧ (i5 + 3) < (hl h1 a0 : Int)) ∧ hk h1 a2 = 8 ∧ call m_X7_urgencyIn [pA a2, pI (hi h1 a0 (Int.toNat ((i5 + 1)))), pI (hi h1 a0 (Int.toNat ((i5 + 2)))), pI (hi h1 a0 (Int.toNat ((i5 + 3))))] h1 (fun x2 h2 =>
 hk h2 a2 = 8 ∧ call m_X7_thrown [pA a2] h2 (fun x3 h3 =>
 InR x3 ∧ InR x1 ∧ (x3 = x1 →
 InR x1 ∧ (x1 = 0 →
 hk h3 a3 = 23 ∧ (0 ≤ (0 : Int) ∧ (0 : Int) < (hl h3 a3 : Int)) ∧ InR x2 ∧ InL (hi h3 a3 (Int.toNat (0 : Int))) ∧ InL x2 ∧ InR (if (hi h3 a3 (Int.toNat (0 : Int))) < x2 then -1 else if (hi h3 a3 (Int.toNat (0 : Int))) = x2 then 0 else 1) ∧ ((if (hi h3 a3 (Int.toNat (0 : Int))) < x2 then -1 else if (hi h3 a3 (Int.toNat (0 : Int))) = x2 then 0 else 1) = 0 →
 K 28 [some (pA a0), some (pA a1), some (pA a2), some (pA a3), some (pA a4), some (pI (i5 + 6)), some (pI x1), some (pI x2), z8] [] h3 (c + 24) (s + 1700)) ∧
((if (hi h3 a3 (Int.toNat (0 : Int))) < x2 then -1 else if (hi h3 a3 (Int.toNat (0 : Int))) = x2 then 0 else 1) ≠ 0 →
 ((0 : Int) = 0 ∨ (0 : Int) = 1) ∧ Q 0 h3)) ∧
(x1 ≠ 0 →
 K 28 [some (pA a0), some (pA a1), some (pA a2), some (pA a3), some (pA a4), some (pI (i5 + 6)), some (pI x1), some (pI x2), z8] [] h3 (c + 24) (s + 1700))) ∧
(x3 ≠ x1 →
 ((0 : Int) = 0 ∨ (0 : Int) = 1) ∧ Q 0 h3)) X) X) X) : wpc k_L_law [] call mc ms fr Q X [28, 1991] K 400 (pto 1991 k_L_law) [some (pA a0), some (pA a1), some (pA a2), some (pA a3), some (pA a4), some (pI i5), z6, z7, z8] [] h c s :=
  H

set_option maxRecDepth 100000 in
theorem v_L_law_2071 (a0 : Nat) (a1 : Nat) (a2 : Nat) (a3 : Nat) (a4 : Nat) (i5 : Int) (z6 : Option PV) (z7 : Option PV) (z8 : Option PV) (h : PH) (c s : Nat) (H : (hk h a0 = 20 ∨ hk h a0 = 26) ∧ (0 ≤ (i5 + 1) ∧ (i5 + 1) < (hl h a0 : Int)) ∧ (c + 24 ≤ mc ∧ s + 1700 ≤ ms) ∧ call m_L_sentIn [pA a1, pI (hi h a0 (Int.toNat ((i5 + 1)))), pA a3] h (fun x1 h1 =>
 (hk h1 a0 = 20 ∨ hk h1 a0 = 26) ∧ (0 ≤ (i5 + 1) ∧ (i5 + 1) < (hl h1 a0 : Int)) ∧ hk h1 a2 = 8 ∧ call m_X7_sentIn [pA a2, pI (hi h1 a0 (Int.toNat ((i5 + 1))))] h1 (fun x2 h2 =>
 hk h2 a2 = 8 ∧ call m_X7_thrown [pA a2] h2 (fun x3 h3 =>
 InR x3 ∧ InR x1 ∧ (x3 = x1 →
 InR x1 ∧ (x1 = 0 →
 hk h3 a3 = 23 ∧ (0 ≤ (0 : Int) ∧ (0 : Int) < (hl h3 a3 : Int)) ∧ InR x2 ∧ InL (hi h3 a3 (Int.toNat (0 : Int))) ∧ InL x2 ∧ InR (if (hi h3 a3 (Int.toNat (0 : Int))) < x2 then -1 else if (hi h3 a3 (Int.toNat (0 : Int))) = x2 then 0 else 1) ∧ ((if (hi h3 a3 (Int.toNat (0 : Int))) < x2 then -1 else if (hi h3 a3 (Int.toNat (0 : Int))) = x2 then 0 else 1) = 0 →
 K 28 [some (pA a0), some (pA a1), some (pA a2), some (pA a3), some (pA a4), some (pI (i5 + 6)), some (pI x1), some (pI x2), z8] [] h3 (c + 24) (s + 1700)) ∧
((if (hi h3 a3 (Int.toNat (0 : Int))) < x2 then -1 else if (hi h3 a3 (Int.toNat (0 : Int))) = x2 then 0 else 1) ≠ 0 →
 ((0 : Int) = 0 ∨ (0 : Int) = 1) ∧ Q 0 h3)) ∧
(x1 ≠ 0 →
 K 28 [some (pA a0), some (pA a1), some (pA a2), some (pA a3), some (pA a4), some (pI (i5 + 6)), some (pI x1), some (pI x2), z8] [] h3 (c + 24) (s + 1700))) ∧
(x3 ≠ x1 →
 ((0 : Int) = 0 ∨ (0 : Int) = 1) ∧ Q 0 h3)) X) X) X) : wpc k_L_law [] call mc ms fr Q X [28, 2071] K 400 (pto 2071 k_L_law) [some (pA a0), some (pA a1), some (pA a2), some (pA a3), some (pA a4), some (pI i5), z6, z7, z8] [] h c s :=
  H

set_option maxRecDepth 100000 in
theorem v_L_law_2127 (a0 : Nat) (a1 : Nat) (a2 : Nat) (a3 : Nat) (a4 : Nat) (i5 : Int) (z6 : Option PV) (z7 : Option PV) (z8 : Option PV) (h : PH) (c s : Nat) (H : (hk h a0 = 20 ∨ hk h a0 = 26) ∧ (0 ≤ (i5 + 1) ∧ (i5 + 1) < (hl h a0 : Int)) ∧ (c + 24 ≤ mc ∧ s + 1700 ≤ ms) ∧ call m_L_bestMask [pA a1, pI (hi h a0 (Int.toNat ((i5 + 1)))), pA a3] h (fun x1 h1 =>
 (hk h1 a0 = 20 ∨ hk h1 a0 = 26) ∧ (0 ≤ (i5 + 1) ∧ (i5 + 1) < (hl h1 a0 : Int)) ∧ hk h1 a2 = 8 ∧ call m_X7_bestMask [pA a2, pI (hi h1 a0 (Int.toNat ((i5 + 1))))] h1 (fun x2 h2 =>
 hk h2 a2 = 8 ∧ call m_X7_thrown [pA a2] h2 (fun x3 h3 =>
 InR x3 ∧ InR x1 ∧ (x3 = x1 →
 InR x1 ∧ (x1 = 0 →
 hk h3 a3 = 23 ∧ (0 ≤ (0 : Int) ∧ (0 : Int) < (hl h3 a3 : Int)) ∧ InR x2 ∧ InL (hi h3 a3 (Int.toNat (0 : Int))) ∧ InL x2 ∧ InR (if (hi h3 a3 (Int.toNat (0 : Int))) < x2 then -1 else if (hi h3 a3 (Int.toNat (0 : Int))) = x2 then 0 else 1) ∧ ((if (hi h3 a3 (Int.toNat (0 : Int))) < x2 then -1 else if (hi h3 a3 (Int.toNat (0 : Int))) = x2 then 0 else 1) = 0 →
 K 28 [some (pA a0), some (pA a1), some (pA a2), some (pA a3), some (pA a4), some (pI (i5 + 6)), some (pI x1), some (pI x2), z8] [] h3 (c + 24) (s + 1700)) ∧
((if (hi h3 a3 (Int.toNat (0 : Int))) < x2 then -1 else if (hi h3 a3 (Int.toNat (0 : Int))) = x2 then 0 else 1) ≠ 0 →
 ((0 : Int) = 0 ∨ (0 : Int) = 1) ∧ Q 0 h3)) ∧
(x1 ≠ 0 →
 K 28 [some (pA a0), some (pA a1), some (pA a2), some (pA a3), some (pA a4), some (pI (i5 + 6)), some (pI x1), some (pI x2), z8] [] h3 (c + 24) (s + 1700))) ∧
(x3 ≠ x1 →
 ((0 : Int) = 0 ∨ (0 : Int) = 1) ∧ Q 0 h3)) X) X) X) : wpc k_L_law [] call mc ms fr Q X [28, 2127] K 400 (pto 2127 k_L_law) [some (pA a0), some (pA a1), some (pA a2), some (pA a3), some (pA a4), some (pI i5), z6, z7, z8] [] h c s :=
  H

set_option maxRecDepth 100000 in
theorem v_L_law_2183 (a0 : Nat) (a1 : Nat) (a2 : Nat) (a3 : Nat) (a4 : Nat) (i5 : Int) (z6 : Option PV) (z7 : Option PV) (z8 : Option PV) (h : PH) (c s : Nat) (H : (hk h a0 = 20 ∨ hk h a0 = 26) ∧ (0 ≤ (i5 + 1) ∧ (i5 + 1) < (hl h a0 : Int)) ∧ (c + 24 ≤ mc ∧ s + 1700 ≤ ms) ∧ call m_L_writeQueue [pA a1, pI (hi h a0 (Int.toNat ((i5 + 1)))), pA a3] h (fun x1 h1 =>
 (hk h1 a0 = 20 ∨ hk h1 a0 = 26) ∧ (0 ≤ (i5 + 1) ∧ (i5 + 1) < (hl h1 a0 : Int)) ∧ hk h1 a2 = 8 ∧ call m_X7_writeQueue [pA a2, pI (hi h1 a0 (Int.toNat ((i5 + 1))))] h1 (fun x2 h2 =>
 hk h2 a2 = 8 ∧ call m_X7_thrown [pA a2] h2 (fun x3 h3 =>
 InR x3 ∧ InR x1 ∧ (x3 = x1 →
 InR x1 ∧ (x1 = 0 →
 hk h3 a3 = 23 ∧ (0 ≤ (0 : Int) ∧ (0 : Int) < (hl h3 a3 : Int)) ∧ InR x2 ∧ InL (hi h3 a3 (Int.toNat (0 : Int))) ∧ InL x2 ∧ InR (if (hi h3 a3 (Int.toNat (0 : Int))) < x2 then -1 else if (hi h3 a3 (Int.toNat (0 : Int))) = x2 then 0 else 1) ∧ ((if (hi h3 a3 (Int.toNat (0 : Int))) < x2 then -1 else if (hi h3 a3 (Int.toNat (0 : Int))) = x2 then 0 else 1) = 0 →
 K 28 [some (pA a0), some (pA a1), some (pA a2), some (pA a3), some (pA a4), some (pI (i5 + 6)), some (pI x1), some (pI x2), z8] [] h3 (c + 24) (s + 1700)) ∧
((if (hi h3 a3 (Int.toNat (0 : Int))) < x2 then -1 else if (hi h3 a3 (Int.toNat (0 : Int))) = x2 then 0 else 1) ≠ 0 →
 ((0 : Int) = 0 ∨ (0 : Int) = 1) ∧ Q 0 h3)) ∧
(x1 ≠ 0 →
 K 28 [some (pA a0), some (pA a1), some (pA a2), some (pA a3), some (pA a4), some (pI (i5 + 6)), some (pI x1), some (pI x2), z8] [] h3 (c + 24) (s + 1700))) ∧
(x3 ≠ x1 →
 ((0 : Int) = 0 ∨ (0 : Int) = 1) ∧ Q 0 h3)) X) X) X) : wpc k_L_law [] call mc ms fr Q X [28, 2183] K 400 (pto 2183 k_L_law) [some (pA a0), some (pA a1), some (pA a2), some (pA a3), some (pA a4), some (pI i5), z6, z7, z8] [] h c s :=
  H

set_option maxRecDepth 100000 in
theorem v_L_law_2239 (a0 : Nat) (a1 : Nat) (a2 : Nat) (a3 : Nat) (a4 : Nat) (i5 : Int) (z6 : Option PV) (z7 : Option PV) (z8 : Option PV) (h : PH) (c s : Nat) (H : (hk h a0 = 20 ∨ hk h a0 = 26) ∧ (0 ≤ (i5 + 1) ∧ (i5 + 1) < (hl h a0 : Int)) ∧ (c + 24 ≤ mc ∧ s + 1700 ≤ ms) ∧ call m_L_writeStack [pA a1, pI (hi h a0 (Int.toNat ((i5 + 1)))), pA a3] h (fun x1 h1 =>
 (hk h1 a0 = 20 ∨ hk h1 a0 = 26) ∧ (0 ≤ (i5 + 1) ∧ (i5 + 1) < (hl h1 a0 : Int)) ∧ hk h1 a2 = 8 ∧ call m_X7_writeStack [pA a2, pI (hi h1 a0 (Int.toNat ((i5 + 1))))] h1 (fun x2 h2 =>
 hk h2 a2 = 8 ∧ call m_X7_thrown [pA a2] h2 (fun x3 h3 =>
 InR x3 ∧ InR x1 ∧ (x3 = x1 →
 InR x1 ∧ (x1 = 0 →
 hk h3 a3 = 23 ∧ (0 ≤ (0 : Int) ∧ (0 : Int) < (hl h3 a3 : Int)) ∧ InR x2 ∧ InL (hi h3 a3 (Int.toNat (0 : Int))) ∧ InL x2 ∧ InR (if (hi h3 a3 (Int.toNat (0 : Int))) < x2 then -1 else if (hi h3 a3 (Int.toNat (0 : Int))) = x2 then 0 else 1) ∧ ((if (hi h3 a3 (Int.toNat (0 : Int))) < x2 then -1 else if (hi h3 a3 (Int.toNat (0 : Int))) = x2 then 0 else 1) = 0 →
 K 28 [some (pA a0), some (pA a1), some (pA a2), some (pA a3), some (pA a4), some (pI (i5 + 6)), some (pI x1), some (pI x2), z8] [] h3 (c + 24) (s + 1700)) ∧
((if (hi h3 a3 (Int.toNat (0 : Int))) < x2 then -1 else if (hi h3 a3 (Int.toNat (0 : Int))) = x2 then 0 else 1) ≠ 0 →
 ((0 : Int) = 0 ∨ (0 : Int) = 1) ∧ Q 0 h3)) ∧
(x1 ≠ 0 →
 K 28 [some (pA a0), some (pA a1), some (pA a2), some (pA a3), some (pA a4), some (pI (i5 + 6)), some (pI x1), some (pI x2), z8] [] h3 (c + 24) (s + 1700))) ∧
(x3 ≠ x1 →
 ((0 : Int) = 0 ∨ (0 : Int) = 1) ∧ Q 0 h3)) X) X) X) : wpc k_L_law [] call mc ms fr Q X [28, 2239] K 400 (pto 2239 k_L_law) [some (pA a0), some (pA a1), some (pA a2), some (pA a3), some (pA a4), some (pI i5), z6, z7, z8] [] h c s :=
  H

set_option maxRecDepth 100000 in
theorem v_L_law_2295 (a0 : Nat) (a1 : Nat) (a2 : Nat) (a3 : Nat) (a4 : Nat) (i5 : Int) (z6 : Option PV) (z7 : Option PV) (z8 : Option PV) (h : PH) (c s : Nat) (H : (c + 24 ≤ mc ∧ s + 1700 ≤ ms) ∧ call m_L_writeEnds [pA a1, pA a3] h (fun x1 h1 =>
 hk h1 a2 = 8 ∧ call m_X7_writeEnds [pA a2] h1 (fun x2 h2 =>
 hk h2 a2 = 8 ∧ call m_X7_thrown [pA a2] h2 (fun x3 h3 =>
 InR x3 ∧ InR x1 ∧ (x3 = x1 →
 InR x1 ∧ (x1 = 0 →
 hk h3 a3 = 23 ∧ (0 ≤ (0 : Int) ∧ (0 : Int) < (hl h3 a3 : Int)) ∧ InR x2 ∧ InL (hi h3 a3 (Int.toNat (0 : Int))) ∧ InL x2 ∧ InR (if (hi h3 a3 (Int.toNat (0 : Int))) < x2 then -1 else if (hi h3 a3 (Int.toNat (0 : Int))) = x2 then 0 else 1) ∧ ((if (hi h3 a3 (Int.toNat (0 : Int))) < x2 then -1 else if (hi h3 a3 (Int.toNat (0 : Int))) = x2 then 0 else 1) = 0 →
 K 28 [some (pA a0), some (pA a1), some (pA a2), some (pA a3), some (pA a4), some (pI (i5 + 6)), some (pI x1), some (pI x2), z8] [] h3 (c + 24) (s + 1700)) ∧
((if (hi h3 a3 (Int.toNat (0 : Int))) < x2 then -1 else if (hi h3 a3 (Int.toNat (0 : Int))) = x2 then 0 else 1) ≠ 0 →
 ((0 : Int) = 0 ∨ (0 : Int) = 1) ∧ Q 0 h3)) ∧
(x1 ≠ 0 →
 K 28 [some (pA a0), some (pA a1), some (pA a2), some (pA a3), some (pA a4), some (pI (i5 + 6)), some (pI x1), some (pI x2), z8] [] h3 (c + 24) (s + 1700))) ∧
(x3 ≠ x1 →
 ((0 : Int) = 0 ∨ (0 : Int) = 1) ∧ Q 0 h3)) X) X) X) : wpc k_L_law [] call mc ms fr Q X [28, 2295] K 400 (pto 2295 k_L_law) [some (pA a0), some (pA a1), some (pA a2), some (pA a3), some (pA a4), some (pI i5), z6, z7, z8] [] h c s :=
  H

set_option maxRecDepth 100000 in
theorem v_L_law_2339 (a0 : Nat) (a1 : Nat) (a2 : Nat) (a3 : Nat) (a4 : Nat) (i5 : Int) (z6 : Option PV) (z7 : Option PV) (z8 : Option PV) (h : PH) (c s : Nat) (H : (hk h a0 = 20 ∨ hk h a0 = 26) ∧ (0 ≤ (i5 + 1) ∧ (i5 + 1) < (hl h a0 : Int)) ∧ (c + 24 ≤ mc ∧ s + 1700 ≤ ms) ∧ call m_L_textByte [pA a1, pI (hi h a0 (Int.toNat ((i5 + 1)))), pA a3] h (fun x1 h1 =>
 (hk h1 a0 = 20 ∨ hk h1 a0 = 26) ∧ (0 ≤ (i5 + 1) ∧ (i5 + 1) < (hl h1 a0 : Int)) ∧ hk h1 a2 = 8 ∧ call m_X7_textByte [pA a2, pI (hi h1 a0 (Int.toNat ((i5 + 1))))] h1 (fun x2 h2 =>
 hk h2 a2 = 8 ∧ call m_X7_thrown [pA a2] h2 (fun x3 h3 =>
 InR x3 ∧ InR x1 ∧ (x3 = x1 →
 InR x1 ∧ (x1 = 0 →
 hk h3 a3 = 23 ∧ (0 ≤ (0 : Int) ∧ (0 : Int) < (hl h3 a3 : Int)) ∧ InR x2 ∧ InL (hi h3 a3 (Int.toNat (0 : Int))) ∧ InL x2 ∧ InR (if (hi h3 a3 (Int.toNat (0 : Int))) < x2 then -1 else if (hi h3 a3 (Int.toNat (0 : Int))) = x2 then 0 else 1) ∧ ((if (hi h3 a3 (Int.toNat (0 : Int))) < x2 then -1 else if (hi h3 a3 (Int.toNat (0 : Int))) = x2 then 0 else 1) = 0 →
 K 28 [some (pA a0), some (pA a1), some (pA a2), some (pA a3), some (pA a4), some (pI (i5 + 6)), some (pI x1), some (pI x2), z8] [] h3 (c + 24) (s + 1700)) ∧
((if (hi h3 a3 (Int.toNat (0 : Int))) < x2 then -1 else if (hi h3 a3 (Int.toNat (0 : Int))) = x2 then 0 else 1) ≠ 0 →
 ((0 : Int) = 0 ∨ (0 : Int) = 1) ∧ Q 0 h3)) ∧
(x1 ≠ 0 →
 K 28 [some (pA a0), some (pA a1), some (pA a2), some (pA a3), some (pA a4), some (pI (i5 + 6)), some (pI x1), some (pI x2), z8] [] h3 (c + 24) (s + 1700))) ∧
(x3 ≠ x1 →
 ((0 : Int) = 0 ∨ (0 : Int) = 1) ∧ Q 0 h3)) X) X) X) : wpc k_L_law [] call mc ms fr Q X [28, 2339] K 400 (pto 2339 k_L_law) [some (pA a0), some (pA a1), some (pA a2), some (pA a3), some (pA a4), some (pI i5), z6, z7, z8] [] h c s :=
  H

set_option maxRecDepth 100000 in
theorem v_L_law_2395 (a0 : Nat) (a1 : Nat) (a2 : Nat) (a3 : Nat) (a4 : Nat) (i5 : Int) (z6 : Option PV) (z7 : Option PV) (z8 : Option PV) (h : PH) (c s : Nat) (H : (hk h a0 = 20 ∨ hk h a0 = 26) ∧ (0 ≤ (i5 + 1) ∧ (i5 + 1) < (hl h a0 : Int)) ∧ (c + 24 ≤ mc ∧ s + 1700 ≤ ms) ∧ call m_L_tick [pA a1, pI (hi h a0 (Int.toNat ((i5 + 1)))), pA a3] h (fun x1 h1 =>
 (hk h1 a0 = 20 ∨ hk h1 a0 = 26) ∧ (0 ≤ (i5 + 1) ∧ (i5 + 1) < (hl h1 a0 : Int)) ∧ hk h1 a2 = 8 ∧ call m_X7_tick [pA a2, pI (hi h1 a0 (Int.toNat ((i5 + 1))))] h1 (fun x2 h2 =>
 hk h2 a2 = 8 ∧ call m_X7_thrown [pA a2] h2 (fun x3 h3 =>
 InR x3 ∧ InR x1 ∧ (x3 = x1 →
 InR x1 ∧ (x1 = 0 →
 hk h3 a3 = 23 ∧ (0 ≤ (0 : Int) ∧ (0 : Int) < (hl h3 a3 : Int)) ∧ InR x2 ∧ InL (hi h3 a3 (Int.toNat (0 : Int))) ∧ InL x2 ∧ InR (if (hi h3 a3 (Int.toNat (0 : Int))) < x2 then -1 else if (hi h3 a3 (Int.toNat (0 : Int))) = x2 then 0 else 1) ∧ ((if (hi h3 a3 (Int.toNat (0 : Int))) < x2 then -1 else if (hi h3 a3 (Int.toNat (0 : Int))) = x2 then 0 else 1) = 0 →
 K 28 [some (pA a0), some (pA a1), some (pA a2), some (pA a3), some (pA a4), some (pI (i5 + 6)), some (pI x1), some (pI x2), z8] [] h3 (c + 24) (s + 1700)) ∧
((if (hi h3 a3 (Int.toNat (0 : Int))) < x2 then -1 else if (hi h3 a3 (Int.toNat (0 : Int))) = x2 then 0 else 1) ≠ 0 →
 ((0 : Int) = 0 ∨ (0 : Int) = 1) ∧ Q 0 h3)) ∧
(x1 ≠ 0 →
 K 28 [some (pA a0), some (pA a1), some (pA a2), some (pA a3), some (pA a4), some (pI (i5 + 6)), some (pI x1), some (pI x2), z8] [] h3 (c + 24) (s + 1700))) ∧
(x3 ≠ x1 →
 ((0 : Int) = 0 ∨ (0 : Int) = 1) ∧ Q 0 h3)) X) X) X) : wpc k_L_law [] call mc ms fr Q X [28, 2395] K 400 (pto 2395 k_L_law) [some (pA a0), some (pA a1), some (pA a2), some (pA a3), some (pA a4), some (pI i5), z6, z7, z8] [] h c s :=
  H

set_option maxRecDepth 100000 in
theorem v_L_law_2451 (a0 : Nat) (a1 : Nat) (a2 : Nat) (a3 : Nat) (a4 : Nat) (i5 : Int) (z6 : Option PV) (z7 : Option PV) (z8 : Option PV) (h : PH) (c s : Nat) (H : (hk h a0 = 20 ∨ hk h a0 = 26) ∧ (0 ≤ (i5 + 1) ∧ (i5 + 1) < (hl h a0 : Int)) ∧ (hk h a0 = 20 ∨ hk h a0 = 26) ∧ (0 ≤ (i5 + 2) ∧ (i5 + 2) < (hl h a0 : Int)) ∧ (hk h a0 = 20 ∨ hk h a0 = 26) ∧ (0 ≤ (i5 + 3) ∧ (i5 + 3) < (hl h a0 : Int)) ∧ (c + 24 ≤ mc ∧ s + 1700 ≤ ms) ∧ call m_L_send [pA a1, pI (hi h a0 (Int.toNat ((i5 + 1)))), pI (hi h a0 (Int.toNat ((i5 + 2)))), pI (hi h a0 (Int.toNat ((i5 + 3)))), pA a3] h (fun x1 h1 =>
 (hk h1 a0 = 20 ∨ hk h1 a0 = 26) ∧ (0 ≤ (i5 + 1) ∧ (i5 + 1) < (hl h1 a0 : Int)) ∧ (hk h1 a0 = 20 ∨ hk h1 a0 = 26) ∧ (0 ≤ (i5 + 2) ∧ (i5 + 2) < (hl h1 a0 : Int)) ∧ (hk h1 a0 = 20 ∨ hk h1 a0 = 26) ∧ (0 ≤ (i5 + 3) ∧ (i5 + 3) < (hl h1 a0 : Int)) ∧ hk h1 a2 = 8 ∧ call m_X7_send [pA a2, pI (hi h1 a0 (Int.toNat ((i5 + 1)))), pI (hi h1 a0 (Int.toNat ((i5 + 2)))), pI (hi h1 a0 (Int.toNat ((i5 + 3))))] h1 (fun x2 h2 =>
 hk h2 a2 = 8 ∧ call m_X7_thrown [pA a2] h2 (fun x3 h3 =>
 InR x3 ∧ InR x1 ∧ (x3 = x1 →
 InR x1 ∧ (x1 = 0 →
 hk h3 a3 = 23 ∧ (0 ≤ (0 : Int) ∧ (0 : Int) < (hl h3 a3 : Int)) ∧ InR x2 ∧ InL (hi h3 a3 (Int.toNat (0 : Int))) ∧ InL x2 ∧ InR (if (hi h3 a3 (Int.toNat (0 : Int))) < x2 then -1 else if (hi h3 a3 (Int.toNat (0 : Int))) = x2 then 0 else 1) ∧ ((if (hi h3 a3 (Int.toNat (0 : Int))) < x2 then -1 else if (hi h3 a3 (Int.toNat (0 : Int))) = x2 then 0 else 1) = 0 →
 K 28 [some (pA a0), some (pA a1), some (pA a2), some (pA a3), some (pA a4), some (pI (i5 + 6)), some (pI x1), some (pI x2), z8] [] h3 (c + 24) (s + 1700)) ∧
((if (hi h3 a3 (Int.toNat (0 : Int))) < x2 then -1 else if (hi h3 a3 (Int.toNat (0 : Int))) = x2 then 0 else 1) ≠ 0 →
 ((0 : Int) = 0 ∨ (0 : Int) = 1) ∧ Q 0 h3)) ∧
(x1 ≠ 0 →
 K 28 [some (pA a0), some (pA a1), some (pA a2), some (pA a3), some (pA a4), some (pI (i5 + 6)), some (pI x1), some (pI x2), z8] [] h3 (c + 24) (s + 1700))) ∧
(x3 ≠ x1 →
 ((0 : Int) = 0 ∨ (0 : Int) = 1) ∧ Q 0 h3)) X) X) X) : wpc k_L_law [] call mc ms fr Q X [28, 2451] K 400 (pto 2451 k_L_law) [some (pA a0), some (pA a1), some (pA a2), some (pA a3), some (pA a4), some (pI i5), z6, z7, z8] [] h c s :=
  H

set_option maxRecDepth 100000 in
theorem v_L_law_2634 (a0 : Nat) (a1 : Nat) (a2 : Nat) (a3 : Nat) (a4 : Nat) (i5 : Int) (z6 : Option PV) (z7 : Option PV) (z8 : Option PV) (h : PH) (c s : Nat) (H : (hk h a0 = 20 ∨ hk h a0 = 26) ∧ (0 ≤ (i5 + 1) ∧ (i5 + 1) < (hl h a0 : Int)) ∧ (c + 24 ≤ mc ∧ s + 1700 ≤ ms) ∧ call m_L_drop [pA a1, pI (hi h a0 (Int.toNat ((i5 + 1)))), pA a3] h (fun x1 h1 =>
 (hk h1 a0 = 20 ∨ hk h1 a0 = 26) ∧ (0 ≤ (i5 + 1) ∧ (i5 + 1) < (hl h1 a0 : Int)) ∧ hk h1 a2 = 8 ∧ call m_X7_drop [pA a2, pI (hi h1 a0 (Int.toNat ((i5 + 1))))] h1 (fun x2 h2 =>
 hk h2 a2 = 8 ∧ call m_X7_thrown [pA a2] h2 (fun x3 h3 =>
 InR x3 ∧ InR x1 ∧ (x3 = x1 →
 InR x1 ∧ (x1 = 0 →
 hk h3 a3 = 23 ∧ (0 ≤ (0 : Int) ∧ (0 : Int) < (hl h3 a3 : Int)) ∧ InR x2 ∧ InL (hi h3 a3 (Int.toNat (0 : Int))) ∧ InL x2 ∧ InR (if (hi h3 a3 (Int.toNat (0 : Int))) < x2 then -1 else if (hi h3 a3 (Int.toNat (0 : Int))) = x2 then 0 else 1) ∧ ((if (hi h3 a3 (Int.toNat (0 : Int))) < x2 then -1 else if (hi h3 a3 (Int.toNat (0 : Int))) = x2 then 0 else 1) = 0 →
 K 28 [some (pA a0), some (pA a1), some (pA a2), some (pA a3), some (pA a4), some (pI (i5 + 6)), some (pI x1), some (pI x2), z8] [] h3 (c + 24) (s + 1700)) ∧
((if (hi h3 a3 (Int.toNat (0 : Int))) < x2 then -1 else if (hi h3 a3 (Int.toNat (0 : Int))) = x2 then 0 else 1) ≠ 0 →
 ((0 : Int) = 0 ∨ (0 : Int) = 1) ∧ Q 0 h3)) ∧
(x1 ≠ 0 →
 K 28 [some (pA a0), some (pA a1), some (pA a2), some (pA a3), some (pA a4), some (pI (i5 + 6)), some (pI x1), some (pI x2), z8] [] h3 (c + 24) (s + 1700))) ∧
(x3 ≠ x1 →
 ((0 : Int) = 0 ∨ (0 : Int) = 1) ∧ Q 0 h3)) X) X) X) : wpc k_L_law [] call mc ms fr Q X [28, 2634] K 400 (pto 2634 k_L_law) [some (pA a0), some (pA a1), some (pA a2), some (pA a3), some (pA a4), some (pI i5), z6, z7, z8] [] h c s :=
  H

set_option maxRecDepth 100000 in
theorem v_L_law_2690 (a0 : Nat) (a1 : Nat) (a2 : Nat) (a3 : Nat) (a4 : Nat) (i5 : Int) (z6 : Option PV) (z7 : Option PV) (z8 : Option PV) (h : PH) (c s : Nat) (H : (hk h a0 = 20 ∨ hk h a0 = 26) ∧ (0 ≤ (i5 + 1) ∧ (i5 + 1) < (hl h a0 : Int)) ∧ (c + 24 ≤ mc ∧ s + 1700 ≤ ms) ∧ call m_L_clear [pA a1, pI (hi h a0 (Int.toNat ((i5 + 1)))), pA a3] h (fun x1 h1 =>
 (hk h1 a0 = 20 ∨ hk h1 a0 = 26) ∧ (0 ≤ (i5 + 1) ∧ (i5 + 1) < (hl h1 a0 : Int)) ∧ hk h1 a2 = 8 ∧ call m_X7_clear [pA a2, pI (hi h1 a0 (Int.toNat ((i5 + 1))))] h1 (fun x2 h2 =>
 hk h2 a2 = 8 ∧ call m_X7_thrown [pA a2] h2 (fun x3 h3 =>
 InR x3 ∧ InR x1 ∧ (x3 = x1 →
 InR x1 ∧ (x1 = 0 →
 hk h3 a3 = 23 ∧ (0 ≤ (0 : Int) ∧ (0 : Int) < (hl h3 a3 : Int)) ∧ InR x2 ∧ InL (hi h3 a3 (Int.toNat (0 : Int))) ∧ InL x2 ∧ InR (if (hi h3 a3 (Int.toNat (0 : Int))) < x2 then -1 else if (hi h3 a3 (Int.toNat (0 : Int))) = x2 then 0 else 1) ∧ ((if (hi h3 a3 (Int.toNat (0 : Int))) < x2 then -1 else if (hi h3 a3 (Int.toNat (0 : Int))) = x2 then 0 else 1) = 0 →
 K 28 [some (pA a0), some (pA a1), some (pA a2), some (pA a3), some (pA a4), some (pI (i5 + 6)), some (pI x1), some (pI x2), z8] [] h3 (c + 24) (s + 1700)) ∧
((if (hi h3 a3 (Int.toNat (0 : Int))) < x2 then -1 else if (hi h3 a3 (Int.toNat (0 : Int))) = x2 then 0 else 1) ≠ 0 →
 ((0 : Int) = 0 ∨ (0 : Int) = 1) ∧ Q 0 h3)) ∧
(x1 ≠ 0 →
 K 28 [some (pA a0), some (pA a1), some (pA a2), some (pA a3), some (pA a4), some (pI (i5 + 6)), some (pI x1), some (pI x2), z8] [] h3 (c + 24) (s + 1700))) ∧
(x3 ≠ x1 →
 ((0 : Int) = 0 ∨ (0 : Int) = 1) ∧ Q 0 h3)) X) X) X) : wpc k_L_law [] call mc ms fr Q X [28, 2690] K 400 (pto 2690 k_L_law) [some (pA a0), some (pA a1), some (pA a2), some (pA a3), some (pA a4), some (pI i5), z6, z7, z8] [] h c s :=
  H

set_option maxRecDepth 100000 in
theorem v_L_law_2746 (a0 : Nat) (a1 : Nat) (a2 : Nat) (a3 : Nat) (a4 : Nat) (i5 : Int) (z6 : Option PV) (z7 : Option PV) (z8 : Option PV) (h : PH) (c s : Nat) (H : (hk h a0 = 20 ∨ hk h a0 = 26) ∧ (0 ≤ (i5 + 1) ∧ (i5 + 1) < (hl h a0 : Int)) ∧ (c + 24 ≤ mc ∧ s + 1700 ≤ ms) ∧ call m_L_refresh [pA a1, pI (hi h a0 (Int.toNat ((i5 + 1)))), pA a3] h (fun x1 h1 =>
 (hk h1 a0 = 20 ∨ hk h1 a0 = 26) ∧ (0 ≤ (i5 + 1) ∧ (i5 + 1) < (hl h1 a0 : Int)) ∧ hk h1 a2 = 8 ∧ call m_X7_refresh [pA a2, pI (hi h1 a0 (Int.toNat ((i5 + 1))))] h1 (fun x2 h2 =>
 hk h2 a2 = 8 ∧ call m_X7_thrown [pA a2] h2 (fun x3 h3 =>
 InR x3 ∧ InR x1 ∧ (x3 = x1 →
 InR x1 ∧ (x1 = 0 →
 hk h3 a3 = 23 ∧ (0 ≤ (0 : Int) ∧ (0 : Int) < (hl h3 a3 : Int)) ∧ InR x2 ∧ InL (hi h3 a3 (Int.toNat (0 : Int))) ∧ InL x2 ∧ InR (if (hi h3 a3 (Int.toNat (0 : Int))) < x2 then -1 else if (hi h3 a3 (Int.toNat (0 : Int))) = x2 then 0 else 1) ∧ ((if (hi h3 a3 (Int.toNat (0 : Int))) < x2 then -1 else if (hi h3 a3 (Int.toNat (0 : Int))) = x2 then 0 else 1) = 0 →
 K 28 [some (pA a0), some (pA a1), some (pA a2), some (pA a3), some (pA a4), some (pI (i5 + 6)), some (pI x1), some (pI x2), z8] [] h3 (c + 24) (s + 1700)) ∧
((if (hi h3 a3 (Int.toNat (0 : Int))) < x2 then -1 else if (hi h3 a3 (Int.toNat (0 : Int))) = x2 then 0 else 1) ≠ 0 →
 ((0 : Int) = 0 ∨ (0 : Int) = 1) ∧ Q 0 h3)) ∧
(x1 ≠ 0 →
 K 28 [some (pA a0), some (pA a1), some (pA a2), some (pA a3), some (pA a4), some (pI (i5 + 6)), some (pI x1), some (pI x2), z8] [] h3 (c + 24) (s + 1700))) ∧
(x3 ≠ x1 →
 ((0 : Int) = 0 ∨ (0 : Int) = 1) ∧ Q 0 h3)) X) X) X) : wpc k_L_law [] call mc ms fr Q X [28, 2746] K 400 (pto 2746 k_L_law) [some (pA a0), some (pA a1), some (pA a2), some (pA a3), some (pA a4), some (pI i5), z6, z7, z8] [] h c s :=
  H

set_option maxRecDepth 100000 in
theorem v_L_law_2802 (a0 : Nat) (a1 : Nat) (a2 : Nat) (a3 : Nat) (a4 : Nat) (i5 : Int) (z6 : Option PV) (z7 : Option PV) (z8 : Option PV) (h : PH) (c s : Nat) (H : (hk h a0 = 20 ∨ hk h a0 = 26) ∧ (0 ≤ (i5 + 1) ∧ (i5 + 1) < (hl h a0 : Int)) ∧ (hk h a0 = 20 ∨ hk h a0 = 26) ∧ (0 ≤ (i5 + 2) ∧ (i5 + 2) < (hl h a0 : Int)) ∧ (hk h a0 = 20 ∨ hk h a0 = 26) ∧ (0 ≤ (i5 + 3) ∧ (i5 + 3) < (hl h a0 : Int)) ∧ (c + 24 ≤ mc ∧ s + 1700 ≤ ms) ∧ call m_L_setKind [pA a1, pI (hi h a0 (Int.toNat ((i5 + 1)))), pI (hi h a0 (Int.toNat ((i5 + 2)))), pI (hi h a0 (Int.toNat ((i5 + 3)))), pA a3] h (fun x1 h1 =>
 (hk h1 a0 = 20 ∨ hk h1 a0 = 26) ∧ (0 ≤ (i5 + 1) ∧ (i5 + 1) < (hl h1 a0 : Int)) ∧ (hk h1 a0 = 20 ∨ hk h1 a0 = 26) ∧ (0 ≤ (i5 + 2) ∧ (i5 + 2) < (hl h1 a0 : Int)) ∧ (hk h1 a0 = 20 ∨ hk h1 a0 = 26) ∧ (0 ≤ (i5 + 3) ∧ (i5 + 3) < (hl h1 a0 : Int)) ∧ hk h1 a2 = 8 ∧ call m_X7_setKind [pA a2, pI (hi h1 a0 (Int.toNat ((i5 + 1)))), pI (hi h1 a0 (Int.toNat ((i5 + 2)))), pI (hi h1 a0 (Int.toNat ((i5 + 3))))] h1 (fun x2 h2 =>
 hk h2 a2 = 8 ∧ call m_X7_thrown [pA a2] h2 (fun x3 h3 =>
 InR x3 ∧ InR x1 ∧ (x3 = x1 →
 InR x1 ∧ (x1 = 0 →
 hk h3 a3 = 23 ∧ (0 ≤ (0 : Int) ∧ (0 : Int) < (hl h3 a3 : Int)) ∧ InR x2 ∧ InL (hi h3 a3 (Int.toNat (0 : Int))) ∧ InL x2 ∧ InR (if (hi h3 a3 (Int.toNat (0 : Int))) < x2 then -1 else if (hi h3 a3 (Int.toNat (0 : Int))) = x2 then 0 else 1) ∧ ((if (hi h3 a3 (Int.toNat (0 : Int))) < x2 then -1 else if (hi h3 a3 (Int.toNat (0 : Int))) = x2 then 0 else 1) = 0 →
 K 28 [some (pA a0), some (pA a1), some (pA a2), some (pA a3), some (pA a4), some (pI (i5 + 6)), some (pI x1), some (pI x2), z8] [] h3 (c + 24) (s + 1700)) ∧
((if (hi h3 a3 (Int.toNat (0 : Int))) < x2 then -1 else if (hi h3 a3 (Int.toNat (0 : Int))) = x2 then 0 else 1) ≠ 0 →
 ((0 : Int) = 0 ∨ (0 : Int) = 1) ∧ Q 0 h3)) ∧
(x1 ≠ 0 →
 K 28 [some (pA a0), some (pA a1), some (pA a2), some (pA a3), some (pA a4), some (pI (i5 + 6)), some (pI x1), some (pI x2), z8] [] h3 (c + 24) (s + 1700))) ∧
(x3 ≠ x1 →
 ((0 : Int) = 0 ∨ (0 : Int) = 1) ∧ Q 0 h3)) X) X) X) : wpc k_L_law [] call mc ms fr Q X [28, 2802] K 400 (pto 2802 k_L_law) [some (pA a0), some (pA a1), some (pA a2), some (pA a3), some (pA a4), some (pI i5), z6, z7, z8] [] h c s :=
  H

set_option maxRecDepth 100000 in
theorem v_L_law_2882 (a0 : Nat) (a1 : Nat) (a2 : Nat) (a3 : Nat) (a4 : Nat) (i5 : Int) (z6 : Option PV) (z7 : Option PV) (z8 : Option PV) (h : PH) (c s : Nat) (H : (hk h a0 = 20 ∨ hk h a0 = 26) ∧ (0 ≤ (i5 + 1) ∧ (i5 + 1) < (hl h a0 : Int)) ∧ (hk h a0 = 20 ∨ hk h a0 = 26) ∧ (0 ≤ (i5 + 2) ∧ (i5 + 2) < (hl h a0 : Int)) ∧ (c + 24 ≤ mc ∧ s + 1700 ≤ ms) ∧ call m_L_set [pA a1, pI (hi h a0 (Int.toNat ((i5 + 1)))), pI (hi h a0 (Int.toNat ((i5 + 2)))), pA a3] h (fun x1 h1 =>
 (hk h1 a0 = 20 ∨ hk h1 a0 = 26) ∧ (0 ≤ (i5 + 1) ∧ (i5 + 1) < (hl h1 a0 : Int)) ∧ (hk h1 a0 = 20 ∨ hk h1 a0 = 26) ∧ (0 ≤ (i5 + 2) ∧ (i5 + 2) < (hl h1 a0 : Int)) ∧ hk h1 a2 = 8 ∧ call m_X7_set [pA a2, pI (hi h1 a0 (Int.toNat ((i5 + 1)))), pI (hi h1 a0 (Int.toNat ((i5 + 2))))] h1 (fun x2 h2 =>
 hk h2 a2 = 8 ∧ call m_X7_thrown [pA a2] h2 (fun x3 h3 =>
 InR x3 ∧ InR x1 ∧ (x3 = x1 →
 InR x1 ∧ (x1 = 0 →
 hk h3 a3 = 23 ∧ (0 ≤ (0 : Int) ∧ (0 : Int) < (hl h3 a3 : Int)) ∧ InR x2 ∧ InL (hi h3 a3 (Int.toNat (0 : Int))) ∧ InL x2 ∧ InR (if (hi h3 a3 (Int.toNat (0 : Int))) < x2 then -1 else if (hi h3 a3 (Int.toNat (0 : Int))) = x2 then 0 else 1) ∧ ((if (hi h3 a3 (Int.toNat (0 : Int))) < x2 then -1 else if (hi h3 a3 (Int.toNat (0 : Int))) = x2 then 0 else 1) = 0 →
 K 28 [some (pA a0), some (pA a1), some (pA a2), some (pA a3), some (pA a4), some (pI (i5 + 6)), some (pI x1), some (pI x2), z8] [] h3 (c + 24) (s + 1700)) ∧
((if (hi h3 a3 (Int.toNat (0 : Int))) < x2 then -1 else if (hi h3 a3 (Int.toNat (0 : Int))) = x2 then 0 else 1) ≠ 0 →
 ((0 : Int) = 0 ∨ (0 : Int) = 1) ∧ Q 0 h3)) ∧
(x1 ≠ 0 →
 K 28 [some (pA a0), some (pA a1), some (pA a2), some (pA a3), some (pA a4), some (pI (i5 + 6)), some (pI x1), some (pI x2), z8] [] h3 (c + 24) (s + 1700))) ∧
(x3 ≠ x1 →
 ((0 : Int) = 0 ∨ (0 : Int) = 1) ∧ Q 0 h3)) X) X) X) : wpc k_L_law [] call mc ms fr Q X [28, 2882] K 400 (pto 2882 k_L_law) [some (pA a0), some (pA a1), some (pA a2), some (pA a3), some (pA a4), some (pI i5), z6, z7, z8] [] h c s :=
  H

set_option maxRecDepth 100000 in
theorem v_L_law_2950 (a0 : Nat) (a1 : Nat) (a2 : Nat) (a3 : Nat) (a4 : Nat) (i5 : Int) (z6 : Option PV) (z7 : Option PV) (z8 : Option PV) (h : PH) (c s : Nat) (H : (c + 24 ≤ mc ∧ s + 1700 ≤ ms) ∧ call m_L_undo [pA a1, pA a3] h (fun x1 h1 =>
 hk h1 a2 = 8 ∧ call m_X7_undo [pA a2] h1 (fun x2 h2 =>
 hk h2 a2 = 8 ∧ call m_X7_thrown [pA a2] h2 (fun x3 h3 =>
 InR x3 ∧ InR x1 ∧ (x3 = x1 →
 InR x1 ∧ (x1 = 0 →
 hk h3 a3 = 23 ∧ (0 ≤ (0 : Int) ∧ (0 : Int) < (hl h3 a3 : Int)) ∧ InR x2 ∧ InL (hi h3 a3 (Int.toNat (0 : Int))) ∧ InL x2 ∧ InR (if (hi h3 a3 (Int.toNat (0 : Int))) < x2 then -1 else if (hi h3 a3 (Int.toNat (0 : Int))) = x2 then 0 else 1) ∧ ((if (hi h3 a3 (Int.toNat (0 : Int))) < x2 then -1 else if (hi h3 a3 (Int.toNat (0 : Int))) = x2 then 0 else 1) = 0 →
 K 28 [some (pA a0), some (pA a1), some (pA a2), some (pA a3), some (pA a4), some (pI (i5 + 6)), some (pI x1), some (pI x2), z8] [] h3 (c + 24) (s + 1700)) ∧
((if (hi h3 a3 (Int.toNat (0 : Int))) < x2 then -1 else if (hi h3 a3 (Int.toNat (0 : Int))) = x2 then 0 else 1) ≠ 0 →
 ((0 : Int) = 0 ∨ (0 : Int) = 1) ∧ Q 0 h3)) ∧
(x1 ≠ 0 →
 K 28 [some (pA a0), some (pA a1), some (pA a2), some (pA a3), some (pA a4), some (pI (i5 + 6)), some (pI x1), some (pI x2), z8] [] h3 (c + 24) (s + 1700))) ∧
(x3 ≠ x1 →
 ((0 : Int) = 0 ∨ (0 : Int) = 1) ∧ Q 0 h3)) X) X) X) : wpc k_L_law [] call mc ms fr Q X [28, 2950] K 400 (pto 2950 k_L_law) [some (pA a0), some (pA a1), some (pA a2), some (pA a3), some (pA a4), some (pI i5), z6, z7, z8] [] h c s :=
  H

set_option maxRecDepth 100000 in
theorem v_L_law_3007 (a0 : Nat) (a1 : Nat) (a2 : Nat) (a3 : Nat) (a4 : Nat) (i5 : Int) (z6 : Option PV) (z7 : Option PV) (z8 : Option PV) (h : PH) (c s : Nat) (H : (hk h a0 = 20 ∨ hk h a0 = 26) ∧ (0 ≤ (i5 + 1) ∧ (i5 + 1) < (hl h a0 : Int)) ∧ (c + 24 ≤ mc ∧ s + 1700 ≤ ms) ∧ call m_L_save [pA a1, pI (hi h a0 (Int.toNat ((i5 + 1)))), pA a3] h (fun x1 h1 =>
 (hk h1 a0 = 20 ∨ hk h1 a0 = 26) ∧ (0 ≤ (i5 + 1) ∧ (i5 + 1) < (hl h1 a0 : Int)) ∧ hk h1 a2 = 8 ∧ call m_X7_save [pA a2, pI (hi h1 a0 (Int.toNat ((i5 + 1))))] h1 (fun x2 h2 =>
 hk h2 a2 = 8 ∧ call m_X7_thrown [pA a2] h2 (fun x3 h3 =>
 InR x3 ∧ InR x1 ∧ (x3 = x1 →
 InR x1 ∧ (x1 = 0 →
 hk h3 a3 = 23 ∧ (0 ≤ (0 : Int) ∧ (0 : Int) < (hl h3 a3 : Int)) ∧ InR x2 ∧ InL (hi h3 a3 (Int.toNat (0 : Int))) ∧ InL x2 ∧ InR (if (hi h3 a3 (Int.toNat (0 : Int))) < x2 then -1 else if (hi h3 a3 (Int.toNat (0 : Int))) = x2 then 0 else 1) ∧ ((if (hi h3 a3 (Int.toNat (0 : Int))) < x2 then -1 else if (hi h3 a3 (Int.toNat (0 : Int))) = x2 then 0 else 1) = 0 →
 K 28 [some (pA a0), some (pA a1), some (pA a2), some (pA a3), some (pA a4), some (pI (i5 + 6)), some (pI x1), some (pI x2), z8] [] h3 (c + 24) (s + 1700)) ∧
((if (hi h3 a3 (Int.toNat (0 : Int))) < x2 then -1 else if (hi h3 a3 (Int.toNat (0 : Int))) = x2 then 0 else 1) ≠ 0 →
 ((0 : Int) = 0 ∨ (0 : Int) = 1) ∧ Q 0 h3)) ∧
(x1 ≠ 0 →
 K 28 [some (pA a0), some (pA a1), some (pA a2), some (pA a3), some (pA a4), some (pI (i5 + 6)), some (pI x1), some (pI x2), z8] [] h3 (c + 24) (s + 1700))) ∧
(x3 ≠ x1 →
 ((0 : Int) = 0 ∨ (0 : Int) = 1) ∧ Q 0 h3)) X) X) X) : wpc k_L_law [] call mc ms fr Q X [28, 3007] K 400 (pto 3007 k_L_law) [some (pA a0), some (pA a1), some (pA a2), some (pA a3), some (pA a4), some (pI i5), z6, z7, z8] [] h c s :=
  H

set_option maxRecDepth 100000 in
theorem v_L_law_3063 (a0 : Nat) (a1 : Nat) (a2 : Nat) (a3 : Nat) (a4 : Nat) (i5 : Int) (z6 : Option PV) (z7 : Option PV) (z8 : Option PV) (h : PH) (c s : Nat) (H : (hk h a0 = 20 ∨ hk h a0 = 26) ∧ (0 ≤ (i5 + 1) ∧ (i5 + 1) < (hl h a0 : Int)) ∧ (c + 24 ≤ mc ∧ s + 1700 ≤ ms) ∧ call m_L_restore [pA a1, pI (hi h a0 (Int.toNat ((i5 + 1)))), pA a3] h (fun x1 h1 =>
 (hk h1 a0 = 20 ∨ hk h1 a0 = 26) ∧ (0 ≤ (i5 + 1) ∧ (i5 + 1) < (hl h1 a0 : Int)) ∧ hk h1 a2 = 8 ∧ call m_X7_restore [pA a2, pI (hi h1 a0 (Int.toNat ((i5 + 1))))] h1 (fun x2 h2 =>
 hk h2 a2 = 8 ∧ call m_X7_thrown [pA a2] h2 (fun x3 h3 =>
 InR x3 ∧ InR x1 ∧ (x3 = x1 →
 InR x1 ∧ (x1 = 0 →
 hk h3 a3 = 23 ∧ (0 ≤ (0 : Int) ∧ (0 : Int) < (hl h3 a3 : Int)) ∧ InR x2 ∧ InL (hi h3 a3 (Int.toNat (0 : Int))) ∧ InL x2 ∧ InR (if (hi h3 a3 (Int.toNat (0 : Int))) < x2 then -1 else if (hi h3 a3 (Int.toNat (0 : Int))) = x2 then 0 else 1) ∧ ((if (hi h3 a3 (Int.toNat (0 : Int))) < x2 then -1 else if (hi h3 a3 (Int.toNat (0 : Int))) = x2 then 0 else 1) = 0 →
 K 28 [some (pA a0), some (pA a1), some (pA a2), some (pA a3), some (pA a4), some (pI (i5 + 6)), some (pI x1), some (pI x2), z8] [] h3 (c + 24) (s + 1700)) ∧
((if (hi h3 a3 (Int.toNat (0 : Int))) < x2 then -1 else if (hi h3 a3 (Int.toNat (0 : Int))) = x2 then 0 else 1) ≠ 0 →
 ((0 : Int) = 0 ∨ (0 : Int) = 1) ∧ Q 0 h3)) ∧
(x1 ≠ 0 →
 K 28 [some (pA a0), some (pA a1), some (pA a2), some (pA a3), some (pA a4), some (pI (i5 + 6)), some (pI x1), some (pI x2), z8] [] h3 (c + 24) (s + 1700))) ∧
(x3 ≠ x1 →
 ((0 : Int) = 0 ∨ (0 : Int) = 1) ∧ Q 0 h3)) X) X) X) : wpc k_L_law [] call mc ms fr Q X [28, 3063] K 400 (pto 3063 k_L_law) [some (pA a0), some (pA a1), some (pA a2), some (pA a3), some (pA a4), some (pI i5), z6, z7, z8] [] h c s :=
  H

set_option maxRecDepth 100000 in
theorem v_L_law_385 (a0 : Nat) (a1 : Nat) (a2 : Nat) (a3 : Nat) (a4 : Nat) (i5 : Int) (z6 : Option PV) (z7 : Option PV) (z8 : Option PV) (h : PH) (c s : Nat) (H : hk h a1 = 7 ∧ call m_X6_parseError [pA a1] h (fun x1 h1 =>
 hk h1 a2 = 8 ∧ call m_X7_parseError [pA a2] h1 (fun x2 h2 =>
 InR x1 ∧ InR x2 ∧ (x1 = x2 →
 K 28 [some (pA a0), some (pA a1), some (pA a2), some (pA a3), some (pA a4), some (pI (i5 + 6)), z6, z7, z8] [] h2 c s) ∧
(x1 ≠ x2 →
 ((0 : Int) = 0 ∨ (0 : Int) = 1) ∧ Q 0 h2)) X) X) : wpc k_L_law [] call mc ms fr Q X [28, 385] K 400 (pto 385 k_L_law) [some (pA a0), some (pA a1), some (pA a2), some (pA a3), some (pA a4), some (pI i5), z6, z7, z8] [] h c s :=
  H

set_option maxRecDepth 100000 in
theorem v_L_law_398 (a0 : Nat) (a1 : Nat) (a2 : Nat) (a3 : Nat) (a4 : Nat) (i5 : Int) (z6 : Option PV) (z7 : Option PV) (z8 : Option PV) (h : PH) (c s : Nat) (H : hk h a1 = 7 ∧ call m_X6_errorPosition [pA a1] h (fun x1 h1 =>
 hk h1 a2 = 8 ∧ call m_X7_errorPosition [pA a2] h1 (fun x2 h2 =>
 InR x1 ∧ InR x2 ∧ (x1 = x2 →
 K 28 [some (pA a0), some (pA a1), some (pA a2), some (pA a3), some (pA a4), some (pI (i5 + 6)), z6, z7, z8] [] h2 c s) ∧
(x1 ≠ x2 →
 ((0 : Int) = 0 ∨ (0 : Int) = 1) ∧ Q 0 h2)) X) X) : wpc k_L_law [] call mc ms fr Q X [28, 398] K 400 (pto 398 k_L_law) [some (pA a0), some (pA a1), some (pA a2), some (pA a3), some (pA a4), some (pI i5), z6, z7, z8] [] h c s :=
  H

set_option maxRecDepth 100000 in
theorem v_L_law_411 (a0 : Nat) (a1 : Nat) (a2 : Nat) (a3 : Nat) (a4 : Nat) (i5 : Int) (z6 : Option PV) (z7 : Option PV) (z8 : Option PV) (h : PH) (c s : Nat) (H : hk h a1 = 7 ∧ call m_X6_buffered [pA a1] h (fun x1 h1 =>
 hk h1 a2 = 8 ∧ call m_X7_buffered [pA a2] h1 (fun x2 h2 =>
 InR x1 ∧ InR x2 ∧ (x1 = x2 →
 K 28 [some (pA a0), some (pA a1), some (pA a2), some (pA a3), some (pA a4), some (pI (i5 + 6)), z6, z7, z8] [] h2 c s) ∧
(x1 ≠ x2 →
 ((0 : Int) = 0 ∨ (0 : Int) = 1) ∧ Q 0 h2)) X) X) : wpc k_L_law [] call mc ms fr Q X [28, 411] K 400 (pto 411 k_L_law) [some (pA a0), some (pA a1), some (pA a2), some (pA a3), some (pA a4), some (pI i5), z6, z7, z8] [] h c s :=
  H

set_option maxRecDepth 100000 in
theorem v_L_law_2994 (a0 : Nat) (a1 : Nat) (a2 : Nat) (a3 : Nat) (a4 : Nat) (i5 : Int) (z6 : Option PV) (z7 : Option PV) (z8 : Option PV) (h : PH) (c s : Nat) (H : hk h a1 = 7 ∧ call m_X6_undoable [pA a1] h (fun x1 h1 =>
 hk h1 a2 = 8 ∧ call m_X7_undoable [pA a2] h1 (fun x2 h2 =>
 InR x1 ∧ InR x2 ∧ (x1 = x2 →
 K 28 [some (pA a0), some (pA a1), some (pA a2), some (pA a3), some (pA a4), some (pI (i5 + 6)), z6, z7, z8] [] h2 c s) ∧
(x1 ≠ x2 →
 ((0 : Int) = 0 ∨ (0 : Int) = 1) ∧ Q 0 h2)) X) X) : wpc k_L_law [] call mc ms fr Q X [28, 2994] K 400 (pto 2994 k_L_law) [some (pA a0), some (pA a1), some (pA a2), some (pA a3), some (pA a4), some (pI i5), z6, z7, z8] [] h c s :=
  H

set_option maxRecDepth 100000 in
theorem v_L_law_329 (a0 : Nat) (a1 : Nat) (a2 : Nat) (a3 : Nat) (a4 : Nat) (i5 : Int) (z6 : Option PV) (z7 : Option PV) (z8 : Option PV) (h : PH) (c s : Nat) (H : (hk h a0 = 20 ∨ hk h a0 = 26) ∧ (0 ≤ (i5 + 1) ∧ (i5 + 1) < (hl h a0 : Int)) ∧ (c + 24 ≤ mc ∧ s + 1700 ≤ ms) ∧ call m_L_load [pA a1, pI (hi h a0 (Int.toNat ((i5 + 1)))), pA a3] h (fun x1 h1 =>
 (hk h1 a0 = 20 ∨ hk h1 a0 = 26) ∧ (0 ≤ (i5 + 1) ∧ (i5 + 1) < (hl h1 a0 : Int)) ∧ hk h1 a2 = 8 ∧ call m_X7_load [pA a2, pI (hi h1 a0 (Int.toNat ((i5 + 1))))] h1 (fun x2 h2 =>
 hk h2 a2 = 8 ∧ call m_X7_thrown [pA a2] h2 (fun x3 h3 =>
 InR x3 ∧ InR x1 ∧ (x3 = x1 →
 InR x1 ∧ (x1 = 0 →
 hk h3 a3 = 23 ∧ (0 ≤ (0 : Int) ∧ (0 : Int) < (hl h3 a3 : Int)) ∧ InR x2 ∧ InL (hi h3 a3 (Int.toNat (0 : Int))) ∧ InL x2 ∧ InR (if (hi h3 a3 (Int.toNat (0 : Int))) < x2 then -1 else if (hi h3 a3 (Int.toNat (0 : Int))) = x2 then 0 else 1) ∧ ((if (hi h3 a3 (Int.toNat (0 : Int))) < x2 then -1 else if (hi h3 a3 (Int.toNat (0 : Int))) = x2 then 0 else 1) = 0 →
 K 28 [some (pA a0), some (pA a1), some (pA a2), some (pA a3), some (pA a4), some (pI (i5 + 6)), some (pI x1), some (pI x2), z8] [] h3 (c + 24) (s + 1700)) ∧
((if (hi h3 a3 (Int.toNat (0 : Int))) < x2 then -1 else if (hi h3 a3 (Int.toNat (0 : Int))) = x2 then 0 else 1) ≠ 0 →
 ((0 : Int) = 0 ∨ (0 : Int) = 1) ∧ Q 0 h3)) ∧
(x1 ≠ 0 →
 K 28 [some (pA a0), some (pA a1), some (pA a2), some (pA a3), some (pA a4), some (pI (i5 + 6)), some (pI x1), some (pI x2), z8] [] h3 (c + 24) (s + 1700))) ∧
(x3 ≠ x1 →
 ((0 : Int) = 0 ∨ (0 : Int) = 1) ∧ Q 0 h3)) X) X) X) : wpc k_L_law [] call mc ms fr Q X [28, 329] K 400 (pto 329 k_L_law) [some (pA a0), some (pA a1), some (pA a2), some (pA a3), some (pA a4), some (pI i5), z6, z7, z8] [] h c s :=
  H

set_option maxRecDepth 100000 in
theorem v_L_law_256 (a0 : Nat) (a1 : Nat) (a2 : Nat) (a3 : Nat) (a4 : Nat) (i5 : Int) (z6 : Option PV) (z7 : Option PV) (z8 : Option PV) (h : PH) (c s : Nat) (H : (hk h a0 = 20 ∨ hk h a0 = 26) ∧ (0 ≤ (i5 + 1) ∧ (i5 + 1) < (hl h a0 : Int)) ∧ (hk h a0 = 20 ∨ hk h a0 = 26) ∧ (0 ≤ (i5 + 2) ∧ (i5 + 2) < (hl h a0 : Int)) ∧ (hk h a0 = 20 ∨ hk h a0 = 26) ∧ (0 ≤ (i5 + 3) ∧ (i5 + 3) < (hl h a0 : Int)) ∧ (hk h a0 = 20 ∨ hk h a0 = 26) ∧ (0 ≤ (i5 + 4) ∧ (i5 + 4) < (hl h a0 : Int)) ∧ (hk h a0 = 20 ∨ hk h a0 = 26) ∧ (0 ≤ (i5 + 5) ∧ (i5 + 5) < (hl h a0 : Int)) ∧ hk h a1 = 7 ∧ call m_X6_append [pA a1, pI (hi h a0 (Int.toNat ((i5 + 1)))), pI (hi h a0 (Int.toNat ((i5 + 2)))), pI (hi h a0 (Int.toNat ((i5 + 3)))), pI (hi h a0 (Int.toNat ((i5 + 4)))), pI (hi h a0 (Int.toNat ((i5 + 5))))] h (fun x1 h1 =>
 (hk h1 a0 = 20 ∨ hk h1 a0 = 26) ∧ (0 ≤ (i5 + 1) ∧ (i5 + 1) < (hl h1 a0 : Int)) ∧ (hk h1 a0 = 20 ∨ hk h1 a0 = 26) ∧ (0 ≤ (i5 + 2) ∧ (i5 + 2) < (hl h1 a0 : Int)) ∧ (hk h1 a0 = 20 ∨ hk h1 a0 = 26) ∧ (0 ≤ (i5 + 3) ∧ (i5 + 3) < (hl h1 a0 : Int)) ∧ (hk h1 a0 = 20 ∨ hk h1 a0 = 26) ∧ (0 ≤ (i5 + 4) ∧ (i5 + 4) < (hl h1 a0 : Int)) ∧ (hk h1 a0 = 20 ∨ hk h1 a0 = 26) ∧ (0 ≤ (i5 + 5) ∧ (i5 + 5) < (hl h1 a0 : Int)) ∧ hk h1 a2 = 8 ∧ call m_X7_append [pA a2, pI (hi h1 a0 (Int.toNat ((i5 + 1)))), pI (hi h1 a0 (Int.toNat ((i5 + 2)))), pI (hi h1 a0 (Int.toNat ((i5 + 3)))), pI (hi h1 a0 (Int.toNat ((i5 + 4)))), pI (hi h1 a0 (Int.toNat ((i5 + 5))))] h1 (fun x2 h2 =>
 InR x1 ∧ InR x2 ∧ (x1 = x2 →
 K 28 [some (pA a0), some (pA a1), some (pA a2), some (pA a3), some (pA a4), some (pI (i5 + 6)), z6, z7, z8] [] h2 c s) ∧
(x1 ≠ x2 →
 ((0 : Int) = 0 ∨ (0 : Int) = 1) ∧ Q 0 h2)) X) X) : wpc k_L_law [] call mc ms fr Q X [28, 256] K 400 (pto 256 k_L_law) [some (pA a0), some (pA a1), some (pA a2), some (pA a3), some (pA a4), some (pI i5), z6, z7, z8] [] h c s :=
  H
end LCV
set_option maxRecDepth 100000 in
theorem cl_count {L : Nat} {xs : Nat → Int32} {i N : Int} {h : PH} {c s : Nat} {z6 z7 z8 : Option PV} (Z : LT h L xs N) (hi0 : 0 ≤ i) (hL : i + 6 ≤ L) (hN : N + 97000 ≤ 99999999) (hc : c + 24 ≤ 601024) (hs : s + 1700 ≤ 7293034) (HK : HKL L xs i N c s) : WPL 508 [some (pA 1), some (pA 64), some (pA 119), some (pA 139), some (pA 140), some (pI i), z6, z7, z8] [] h c s := by
  obtain ⟨D, sr, t, C, G, M, o, sp⟩ := Z
  refine WP.of (RUN.mono GQ _) (cuts := [28, 508]) (n := 400) (v_L_law_508 _ _ _ _ _ _ _ _ _ _ _ _ ?_)
  refine ⟨Or.inr sp.1, ⟨by omega, by rw [sp.2.1]; omega⟩, ⟨hc, hs⟩, ?_⟩
  refine L_count C G o (sp.ir _) (by omega) C.h5 (N' := N + 97000) (by omega) (fun kr h1 e1 v g1 C1 => ?_)
  have o1 := o.cg g1
  have sp1 := sp.cg g1
  have M1 := M.cg g1
  have ee := sp.eq sp1
  refine ⟨Or.inr sp1.1, ⟨by omega, by rw [sp1.2.1]; omega⟩, M1.k0, ?_⟩
  rw [ee]
  refine S_X7_count M1 G.W (sp.ir _) (fun x2 h2 v2 M2 => ⟨M2.k0, S_X7_thrown M2 (fun x3 e3 => ?_)⟩)
  have i2 : hi h2 139 0 = hi h1 139 0 := M2.sa.2.2.2 139 0 (by omega)
  exact law_cmp e1 e3 ((ck_ir (tL_ir D) (ir (by omega) (by omega)))) (fun tt => ⟨⟨i2.trans (v tt).1, (v tt).2⟩, v2 tt⟩) (M2.sa.os o1) (HK _ _ _ _ _ _ (LT.mk C1 (G.mono (by omega) (by omega)) M2 o1 sp1) (by omega) (by omega))
set_option maxRecDepth 100000 in
theorem cl_setting {L : Nat} {xs : Nat → Int32} {i N : Int} {h : PH} {c s : Nat} {z6 z7 z8 : Option PV} (Z : LT h L xs N) (hi0 : 0 ≤ i) (hL : i + 6 ≤ L) (hN : N + 97000 ≤ 99999999) (hc : c + 24 ≤ 601024) (hs : s + 1700 ≤ 7293034) (HK : HKL L xs i N c s) : WPL 564 [some (pA 1), some (pA 64), some (pA 119), some (pA 139), some (pA 140), some (pI i), z6, z7, z8] [] h c s := by
  obtain ⟨D, sr, t, C, G, M, o, sp⟩ := Z
  refine WP.of (RUN.mono GQ _) (cuts := [28, 564]) (n := 400) (v_L_law_564 _ _ _ _ _ _ _ _ _ _ _ _ ?_)
  refine ⟨Or.inr sp.1, ⟨by omega, by rw [sp.2.1]; omega⟩, ⟨hc, hs⟩, ?_⟩
  refine L_setting C G o (sp.ir _) (N' := N + 97000) (by omega) (fun kr h1 e1 v g1 C1 => ?_)
  have o1 := o.cg g1
  have sp1 := sp.cg g1
  have M1 := M.cg g1
  have ee := sp.eq sp1
  refine ⟨Or.inr sp1.1, ⟨by omega, by rw [sp1.2.1]; omega⟩, M1.k0, ?_⟩
  rw [ee]
  refine S_X7_setting M1 G.W (sp.ir _) (fun x2 h2 v2 M2 => ⟨M2.k0, S_X7_thrown M2 (fun x3 e3 => ?_)⟩)
  have i2 : hi h2 139 0 = hi h1 139 0 := M2.sa.2.2.2 139 0 (by omega)
  exact law_cmp e1 e3 ((ck_ir (tL_ir D) (ir (by omega) (by omega)))) (fun tt => ⟨⟨i2.trans (v tt).1, (v tt).2⟩, v2 tt⟩) (M2.sa.os o1) (HK _ _ _ _ _ _ (LT.mk C1 (G.mono (by omega) (by omega)) M2 o1 sp1) (by omega) (by omega))
set_option maxRecDepth 100000 in
theorem cl_kind {L : Nat} {xs : Nat → Int32} {i N : Int} {h : PH} {c s : Nat} {z6 z7 z8 : Option PV} (Z : LT h L xs N) (hi0 : 0 ≤ i) (hL : i + 6 ≤ L) (hN : N + 97000 ≤ 99999999) (hc : c + 24 ≤ 601024) (hs : s + 1700 ≤ 7293034) (HK : HKL L xs i N c s) : WPL 620 [some (pA 1), some (pA 64), some (pA 119), some (pA 139), some (pA 140), some (pI i), z6, z7, z8] [] h c s := by
  obtain ⟨D, sr, t, C, G, M, o, sp⟩ := Z
  refine WP.of (RUN.mono GQ _) (cuts := [28, 620]) (n := 400) (v_L_law_620 _ _ _ _ _ _ _ _ _ _ _ _ ?_)
  refine ⟨Or.inr sp.1, ⟨by omega, by rw [sp.2.1]; omega⟩, Or.inr sp.1, ⟨by omega, by rw [sp.2.1]; omega⟩, ⟨hc, hs⟩, ?_⟩
  refine L_kind C G o (sp.ir _) (sp.ir _) (N' := N + 97000) (by omega) (fun kr h1 e1 v g1 C1 => ?_)
  have o1 := o.cg g1
  have sp1 := sp.cg g1
  have M1 := M.cg g1
  have ee := sp.eq sp1
  refine ⟨Or.inr sp1.1, ⟨by omega, by rw [sp1.2.1]; omega⟩, Or.inr sp1.1, ⟨by omega, by rw [sp1.2.1]; omega⟩, M1.k0, ?_⟩
  rw [ee, ee]
  refine S_X7_kind M1 G.W (sp.ir _) (sp.ir _) (fun x2 h2 v2 M2 => ⟨M2.k0, S_X7_thrown M2 (fun x3 e3 => ?_)⟩)
  have i2 : hi h2 139 0 = hi h1 139 0 := M2.sa.2.2.2 139 0 (by omega)
  exact law_cmp e1 e3 ((ck_ir (ck_ir (tL_ir D) (ir (by omega) (by omega))) (ir (by omega) (by omega)))) (fun tt => ⟨⟨i2.trans (v tt).1, (v tt).2⟩, v2 tt⟩) (M2.sa.os o1) (HK _ _ _ _ _ _ (LT.mk C1 (G.mono (by omega) (by omega)) M2 o1 sp1) (by omega) (by omega))
set_option maxRecDepth 100000 in
theorem cl_program {L : Nat} {xs : Nat → Int32} {i N : Int} {h : PH} {c s : Nat} {z6 z7 z8 : Option PV} (Z : LT h L xs N) (hi0 : 0 ≤ i) (hL : i + 6 ≤ L) (hN : N + 97000 ≤ 99999999) (hc : c + 24 ≤ 601024) (hs : s + 1700 ≤ 7293034) (HK : HKL L xs i N c s) : WPL 688 [some (pA 1), some (pA 64), some (pA 119), some (pA 139), some (pA 140), some (pI i), z6, z7, z8] [] h c s := by
  obtain ⟨D, sr, t, C, G, M, o, sp⟩ := Z
  refine WP.of (RUN.mono GQ _) (cuts := [28, 688]) (n := 400) (v_L_law_688 _ _ _ _ _ _ _ _ _ _ _ _ ?_)
  refine ⟨Or.inr sp.1, ⟨by omega, by rw [sp.2.1]; omega⟩, Or.inr sp.1, ⟨by omega, by rw [sp.2.1]; omega⟩, ⟨hc, hs⟩, ?_⟩
  refine L_program C G o (sp.ir _) (sp.ir _) (by omega) (N' := N + 97000) (by omega) (fun kr h1 e1 v g1 C1 => ?_)
  have o1 := o.cg g1
  have sp1 := sp.cg g1
  have M1 := M.cg g1
  have ee := sp.eq sp1
  refine ⟨Or.inr sp1.1, ⟨by omega, by rw [sp1.2.1]; omega⟩, Or.inr sp1.1, ⟨by omega, by rw [sp1.2.1]; omega⟩, M1.k0, ?_⟩
  rw [ee, ee]
  refine S_X7_program M1 G.W (sp.ir _) (sp.ir _) (fun x2 h2 v2 M2 => ⟨M2.k0, S_X7_thrown M2 (fun x3 e3 => ?_)⟩)
  have i2 : hi h2 139 0 = hi h1 139 0 := M2.sa.2.2.2 139 0 (by omega)
  exact law_cmp e1 e3 ((ck_ir (ck_ir (tL_ir D) (ir (by omega) (by omega))) (ir (by omega) (by omega)))) (fun tt => ⟨⟨i2.trans (v tt).1, (v tt).2⟩, v2 tt⟩) (M2.sa.os o1) (HK _ _ _ _ _ _ (LT.mk C1 (G.mono (by omega) (by omega)) M2 o1 sp1) (by omega) (by omega))
set_option maxRecDepth 100000 in
theorem cl_handler {L : Nat} {xs : Nat → Int32} {i N : Int} {h : PH} {c s : Nat} {z6 z7 z8 : Option PV} (Z : LT h L xs N) (hi0 : 0 ≤ i) (hL : i + 6 ≤ L) (hN : N + 97000 ≤ 99999999) (hc : c + 24 ≤ 601024) (hs : s + 1700 ≤ 7293034) (HK : HKL L xs i N c s) : WPL 756 [some (pA 1), some (pA 64), some (pA 119), some (pA 139), some (pA 140), some (pI i), z6, z7, z8] [] h c s := by
  obtain ⟨D, sr, t, C, G, M, o, sp⟩ := Z
  refine WP.of (RUN.mono GQ _) (cuts := [28, 756]) (n := 400) (v_L_law_756 _ _ _ _ _ _ _ _ _ _ _ _ ?_)
  refine ⟨Or.inr sp.1, ⟨by omega, by rw [sp.2.1]; omega⟩, Or.inr sp.1, ⟨by omega, by rw [sp.2.1]; omega⟩, Or.inr sp.1, ⟨by omega, by rw [sp.2.1]; omega⟩, ⟨hc, hs⟩, ?_⟩
  refine L_handler C G o (sp.ir _) (sp.ir _) (sp.ir _) (N' := N + 97000) (by omega) (fun kr h1 e1 v g1 C1 => ?_)
  have o1 := o.cg g1
  have sp1 := sp.cg g1
  have M1 := M.cg g1
  have ee := sp.eq sp1
  refine ⟨Or.inr sp1.1, ⟨by omega, by rw [sp1.2.1]; omega⟩, Or.inr sp1.1, ⟨by omega, by rw [sp1.2.1]; omega⟩, Or.inr sp1.1, ⟨by omega, by rw [sp1.2.1]; omega⟩, M1.k0, ?_⟩
  rw [ee, ee, ee]
  refine S_X7_handler M1 G.W (sp.ir _) (sp.ir _) (sp.ir _) (fun x2 h2 v2 M2 => ⟨M2.k0, S_X7_thrown M2 (fun x3 e3 => ?_)⟩)
  have i2 : hi h2 139 0 = hi h1 139 0 := M2.sa.2.2.2 139 0 (by omega)
  exact law_cmp e1 e3 ((ck_ir (ck_ir (ck_ir (tL_ir D) (ir (by omega) (by omega))) (ir (by omega) (by omega))) (ir (by omega) (by omega)))) (fun tt => ⟨⟨i2.trans (v tt).1, (v tt).2⟩, v2 tt⟩) (M2.sa.os o1) (HK _ _ _ _ _ _ (LT.mk C1 (G.mono (by omega) (by omega)) M2 o1 sp1) (by omega) (by omega))
set_option maxRecDepth 100000 in
theorem cl_urgency {L : Nat} {xs : Nat → Int32} {i N : Int} {h : PH} {c s : Nat} {z6 z7 z8 : Option PV} (Z : LT h L xs N) (hi0 : 0 ≤ i) (hL : i + 6 ≤ L) (hN : N + 97000 ≤ 99999999) (hc : c + 24 ≤ 601024) (hs : s + 1700 ≤ 7293034) (HK : HKL L xs i N c s) : WPL 836 [some (pA 1), some (pA 64), some (pA 119), some (pA 139), some (pA 140), some (pI i), z6, z7, z8] [] h c s := by
  obtain ⟨D, sr, t, C, G, M, o, sp⟩ := Z
  refine WP.of (RUN.mono GQ _) (cuts := [28, 836]) (n := 400) (v_L_law_836 _ _ _ _ _ _ _ _ _ _ _ _ ?_)
  refine ⟨Or.inr sp.1, ⟨by omega, by rw [sp.2.1]; omega⟩, Or.inr sp.1, ⟨by omega, by rw [sp.2.1]; omega⟩, ⟨hc, hs⟩, ?_⟩
  refine L_urgency C G o (sp.ir _) (sp.ir _) (N' := N + 97000) (by omega) (fun kr h1 e1 v g1 C1 => ?_)
  have o1 := o.cg g1
  have sp1 := sp.cg g1
  have M1 := M.cg g1
  have ee := sp.eq sp1
  refine ⟨Or.inr sp1.1, ⟨by omega, by rw [sp1.2.1]; omega⟩, Or.inr sp1.1, ⟨by omega, by rw [sp1.2.1]; omega⟩, M1.k0, ?_⟩
  rw [ee, ee]
  refine S_X7_urgency M1 G.W (sp.ir _) (sp.ir _) (fun x2 h2 v2 M2 => ⟨M2.k0, S_X7_thrown M2 (fun x3 e3 => ?_)⟩)
  have i2 : hi h2 139 0 = hi h1 139 0 := M2.sa.2.2.2 139 0 (by omega)
  exact law_cmp e1 e3 ((ck_ir (ck_ir (tL_ir D) (ir (by omega) (by omega))) (ir (by omega) (by omega)))) (fun tt => ⟨⟨i2.trans (v tt).1, (v tt).2⟩, v2 tt⟩) (M2.sa.os o1) (HK _ _ _ _ _ _ (LT.mk C1 (G.mono (by omega) (by omega)) M2 o1 sp1) (by omega) (by omega))
set_option maxRecDepth 100000 in
theorem cl_tiredness {L : Nat} {xs : Nat → Int32} {i N : Int} {h : PH} {c s : Nat} {z6 z7 z8 : Option PV} (Z : LT h L xs N) (hi0 : 0 ≤ i) (hL : i + 6 ≤ L) (hN : N + 97000 ≤ 99999999) (hc : c + 24 ≤ 601024) (hs : s + 1700 ≤ 7293034) (HK : HKL L xs i N c s) : WPL 904 [some (pA 1), some (pA 64), some (pA 119), some (pA 139), some (pA 140), some (pI i), z6, z7, z8] [] h c s := by
  obtain ⟨D, sr, t, C, G, M, o, sp⟩ := Z
  refine WP.of (RUN.mono GQ _) (cuts := [28, 904]) (n := 400) (v_L_law_904 _ _ _ _ _ _ _ _ _ _ _ _ ?_)
  refine ⟨Or.inr sp.1, ⟨by omega, by rw [sp.2.1]; omega⟩, Or.inr sp.1, ⟨by omega, by rw [sp.2.1]; omega⟩, ⟨hc, hs⟩, ?_⟩
  refine L_tiredness C G o (sp.ir _) (sp.ir _) (N' := N + 97000) (by omega) (fun kr h1 e1 v g1 C1 => ?_)
  have o1 := o.cg g1
  have sp1 := sp.cg g1
  have M1 := M.cg g1
  have ee := sp.eq sp1
  refine ⟨Or.inr sp1.1, ⟨by omega, by rw [sp1.2.1]; omega⟩, Or.inr sp1.1, ⟨by omega, by rw [sp1.2.1]; omega⟩, M1.k0, ?_⟩
  rw [ee, ee]
  refine S_X7_tiredness M1 G.W (sp.ir _) (sp.ir _) (fun x2 h2 v2 M2 => ⟨M2.k0, S_X7_thrown M2 (fun x3 e3 => ?_)⟩)
  have i2 : hi h2 139 0 = hi h1 139 0 := M2.sa.2.2.2 139 0 (by omega)
  exact law_cmp e1 e3 ((ck_ir (ck_ir (tL_ir D) (ir (by omega) (by omega))) (ir (by omega) (by omega)))) (fun tt => ⟨⟨i2.trans (v tt).1, (v tt).2⟩, v2 tt⟩) (M2.sa.os o1) (HK _ _ _ _ _ _ (LT.mk C1 (G.mono (by omega) (by omega)) M2 o1 sp1) (by omega) (by omega))
set_option maxRecDepth 100000 in
theorem cl_queue {L : Nat} {xs : Nat → Int32} {i N : Int} {h : PH} {c s : Nat} {z6 z7 z8 : Option PV} (Z : LT h L xs N) (hi0 : 0 ≤ i) (hL : i + 6 ≤ L) (hN : N + 97000 ≤ 99999999) (hc : c + 24 ≤ 601024) (hs : s + 1700 ≤ 7293034) (HK : HKL L xs i N c s) : WPL 972 [some (pA 1), some (pA 64), some (pA 119), some (pA 139), some (pA 140), some (pI i), z6, z7, z8] [] h c s := by
  obtain ⟨D, sr, t, C, G, M, o, sp⟩ := Z
  refine WP.of (RUN.mono GQ _) (cuts := [28, 972]) (n := 400) (v_L_law_972 _ _ _ _ _ _ _ _ _ _ _ _ ?_)
  refine ⟨Or.inr sp.1, ⟨by omega, by rw [sp.2.1]; omega⟩, Or.inr sp.1, ⟨by omega, by rw [sp.2.1]; omega⟩, Or.inr sp.1, ⟨by omega, by rw [sp.2.1]; omega⟩, ⟨hc, hs⟩, ?_⟩
  refine L_queue C G o (sp.ir _) (sp.ir _) (sp.ir _) (by omega) (N' := N + 97000) (by omega) (fun kr h1 e1 v g1 C1 => ?_)
  have o1 := o.cg g1
  have sp1 := sp.cg g1
  have M1 := M.cg g1
  have ee := sp.eq sp1
  refine ⟨Or.inr sp1.1, ⟨by omega, by rw [sp1.2.1]; omega⟩, Or.inr sp1.1, ⟨by omega, by rw [sp1.2.1]; omega⟩, Or.inr sp1.1, ⟨by omega, by rw [sp1.2.1]; omega⟩, M1.k0, ?_⟩
  rw [ee, ee, ee]
  refine S_X7_queue M1 G.W (sp.ir _) (sp.ir _) (sp.ir _) (fun x2 h2 v2 M2 => ⟨M2.k0, S_X7_thrown M2 (fun x3 e3 => ?_)⟩)
  have i2 : hi h2 139 0 = hi h1 139 0 := M2.sa.2.2.2 139 0 (by omega)
  exact law_cmp e1 e3 ((ck_ir (ck_ir (ck_ir (tL_ir D) (ir (by omega) (by omega))) (ir (by omega) (by omega))) (ir (by omega) (by omega)))) (fun tt => ⟨⟨i2.trans (v tt).1, (v tt).2⟩, v2 tt⟩) (M2.sa.os o1) (HK _ _ _ _ _ _ (LT.mk C1 (G.mono (by omega) (by omega)) M2 o1 sp1) (by omega) (by omega))
set_option maxRecDepth 100000 in
theorem cl_running {L : Nat} {xs : Nat → Int32} {i N : Int} {h : PH} {c s : Nat} {z6 z7 z8 : Option PV} (Z : LT h L xs N) (hi0 : 0 ≤ i) (hL : i + 6 ≤ L) (hN : N + 97000 ≤ 99999999) (hc : c + 24 ≤ 601024) (hs : s + 1700 ≤ 7293034) (HK : HKL L xs i N c s) : WPL 1052 [some (pA 1), some (pA 64), some (pA 119), some (pA 139), some (pA 140), some (pI i), z6, z7, z8] [] h c s := by
  obtain ⟨D, sr, t, C, G, M, o, sp⟩ := Z
  refine WP.of (RUN.mono GQ _) (cuts := [28, 1052]) (n := 400) (v_L_law_1052 _ _ _ _ _ _ _ _ _ _ _ _ ?_)
  refine ⟨Or.inr sp.1, ⟨by omega, by rw [sp.2.1]; omega⟩, Or.inr sp.1, ⟨by omega, by rw [sp.2.1]; omega⟩, Or.inr sp.1, ⟨by omega, by rw [sp.2.1]; omega⟩, ⟨hc, hs⟩, ?_⟩
  refine L_running C G o (sp.ir _) (sp.ir _) (sp.ir _) (by omega) (N' := N + 97000) (by omega) (fun kr h1 e1 v g1 C1 => ?_)
  have o1 := o.cg g1
  have sp1 := sp.cg g1
  have M1 := M.cg g1
  have ee := sp.eq sp1
  refine ⟨Or.inr sp1.1, ⟨by omega, by rw [sp1.2.1]; omega⟩, Or.inr sp1.1, ⟨by omega, by rw [sp1.2.1]; omega⟩, Or.inr sp1.1, ⟨by omega, by rw [sp1.2.1]; omega⟩, M1.k0, ?_⟩
  rw [ee, ee, ee]
  refine S_X7_running M1 G.W (sp.ir _) (sp.ir _) (sp.ir _) (fun x2 h2 v2 M2 => ⟨M2.k0, S_X7_thrown M2 (fun x3 e3 => ?_)⟩)
  have i2 : hi h2 139 0 = hi h1 139 0 := M2.sa.2.2.2 139 0 (by omega)
  exact law_cmp e1 e3 ((ck_ir (ck_ir (ck_ir (tL_ir D) (ir (by omega) (by omega))) (ir (by omega) (by omega))) (ir (by omega) (by omega)))) (fun tt => ⟨⟨i2.trans (v tt).1, (v tt).2⟩, v2 tt⟩) (M2.sa.os o1) (HK _ _ _ _ _ _ (LT.mk C1 (G.mono (by omega) (by omega)) M2 o1 sp1) (by omega) (by omega))
set_option maxRecDepth 100000 in
theorem cl_end {L : Nat} {xs : Nat → Int32} {i N : Int} {h : PH} {c s : Nat} {z6 z7 z8 : Option PV} (Z : LT h L xs N) (hi0 : 0 ≤ i) (hL : i + 6 ≤ L) (hN : N + 97000 ≤ 99999999) (hc : c + 24 ≤ 601024) (hs : s + 1700 ≤ 7293034) (HK : HKL L xs i N c s) : WPL 1132 [some (pA 1), some (pA 64), some (pA 119), some (pA 139), some (pA 140), some (pI i), z6, z7, z8] [] h c s := by
  obtain ⟨D, sr, t, C, G, M, o, sp⟩ := Z
  refine WP.of (RUN.mono GQ _) (cuts := [28, 1132]) (n := 400) (v_L_law_1132 _ _ _ _ _ _ _ _ _ _ _ _ ?_)
  refine ⟨Or.inr sp.1, ⟨by omega, by rw [sp.2.1]; omega⟩, Or.inr sp.1, ⟨by omega, by rw [sp.2.1]; omega⟩, ⟨hc, hs⟩, ?_⟩
  refine L_end C G o (sp.ir _) (sp.ir _) (by omega) (N' := N + 97000) (by omega) (fun kr h1 e1 v g1 C1 => ?_)
  have o1 := o.cg g1
  have sp1 := sp.cg g1
  have M1 := M.cg g1
  have ee := sp.eq sp1
  refine ⟨Or.inr sp1.1, ⟨by omega, by rw [sp1.2.1]; omega⟩, Or.inr sp1.1, ⟨by omega, by rw [sp1.2.1]; omega⟩, M1.k0, ?_⟩
  rw [ee, ee]
  refine S_X7_end M1 G.W (sp.ir _) (sp.ir _) (fun x2 h2 v2 M2 => ⟨M2.k0, S_X7_thrown M2 (fun x3 e3 => ?_)⟩)
  have i2 : hi h2 139 0 = hi h1 139 0 := M2.sa.2.2.2 139 0 (by omega)
  exact law_cmp e1 e3 ((ck_ir (ck_ir (tL_ir D) (ir (by omega) (by omega))) (ir (by omega) (by omega)))) (fun tt => ⟨⟨i2.trans (v tt).1, (v tt).2⟩, v2 tt⟩) (M2.sa.os o1) (HK _ _ _ _ _ _ (LT.mk C1 (G.mono (by omega) (by omega)) M2 o1 sp1) (by omega) (by omega))
set_option maxRecDepth 100000 in
theorem cl_whereIs {L : Nat} {xs : Nat → Int32} {i N : Int} {h : PH} {c s : Nat} {z6 z7 z8 : Option PV} (Z : LT h L xs N) (hi0 : 0 ≤ i) (hL : i + 6 ≤ L) (hN : N + 97000 ≤ 99999999) (hc : c + 24 ≤ 601024) (hs : s + 1700 ≤ 7293034) (HK : HKL L xs i N c s) : WPL 1200 [some (pA 1), some (pA 64), some (pA 119), some (pA 139), some (pA 140), some (pI i), z6, z7, z8] [] h c s := by
  obtain ⟨D, sr, t, C, G, M, o, sp⟩ := Z
  refine WP.of (RUN.mono GQ _) (cuts := [28, 1200]) (n := 400) (v_L_law_1200 _ _ _ _ _ _ _ _ _ _ _ _ ?_)
  refine ⟨Or.inr sp.1, ⟨by omega, by rw [sp.2.1]; omega⟩, ⟨hc, hs⟩, ?_⟩
  refine L_whereIs C G o (sp.ir _) (N' := N + 97000) (by omega) (fun kr h1 e1 v g1 C1 => ?_)
  have o1 := o.cg g1
  have sp1 := sp.cg g1
  have M1 := M.cg g1
  have ee := sp.eq sp1
  refine ⟨Or.inr sp1.1, ⟨by omega, by rw [sp1.2.1]; omega⟩, M1.k0, ?_⟩
  rw [ee]
  refine S_X7_whereIs M1 G.W (sp.ir _) (fun x2 h2 v2 M2 => ⟨M2.k0, S_X7_thrown M2 (fun x3 e3 => ?_)⟩)
  have i2 : hi h2 139 0 = hi h1 139 0 := M2.sa.2.2.2 139 0 (by omega)
  exact law_cmp e1 e3 ((ck_ir (tL_ir D) (ir (by omega) (by omega)))) (fun tt => ⟨⟨i2.trans (v tt).1, (v tt).2⟩, v2 tt⟩) (M2.sa.os o1) (HK _ _ _ _ _ _ (LT.mk C1 (G.mono (by omega) (by omega)) M2 o1 sp1) (by omega) (by omega))
set_option maxRecDepth 100000 in
theorem cl_next {L : Nat} {xs : Nat → Int32} {i N : Int} {h : PH} {c s : Nat} {z6 z7 z8 : Option PV} (Z : LT h L xs N) (hi0 : 0 ≤ i) (hL : i + 6 ≤ L) (hN : N + 97000 ≤ 99999999) (hc : c + 24 ≤ 601024) (hs : s + 1700 ≤ 7293034) (HK : HKL L xs i N c s) : WPL 1256 [some (pA 1), some (pA 64), some (pA 119), some (pA 139), some (pA 140), some (pI i), z6, z7, z8] [] h c s := by
  obtain ⟨D, sr, t, C, G, M, o, sp⟩ := Z
  refine WP.of (RUN.mono GQ _) (cuts := [28, 1256]) (n := 400) (v_L_law_1256 _ _ _ _ _ _ _ _ _ _ _ _ ?_)
  refine ⟨Or.inr sp.1, ⟨by omega, by rw [sp.2.1]; omega⟩, ⟨hc, hs⟩, ?_⟩
  refine L_next C G o (sp.ir _) (by omega) (N' := N + 97000) (by omega) (fun kr h1 e1 v g1 C1 => ?_)
  have o1 := o.cg g1
  have sp1 := sp.cg g1
  have M1 := M.cg g1
  have ee := sp.eq sp1
  refine ⟨Or.inr sp1.1, ⟨by omega, by rw [sp1.2.1]; omega⟩, M1.k0, ?_⟩
  rw [ee]
  refine S_X7_next M1 G.W (sp.ir _) (fun x2 h2 v2 M2 => ⟨M2.k0, S_X7_thrown M2 (fun x3 e3 => ?_)⟩)
  have i2 : hi h2 139 0 = hi h1 139 0 := M2.sa.2.2.2 139 0 (by omega)
  exact law_cmp e1 e3 ((ck_ir (tL_ir D) (ir (by omega) (by omega)))) (fun tt => ⟨⟨i2.trans (v tt).1, (v tt).2⟩, v2 tt⟩) (M2.sa.os o1) (HK _ _ _ _ _ _ (LT.mk C1 (G.mono (by omega) (by omega)) M2 o1 sp1) (by omega) (by omega))
set_option maxRecDepth 100000 in
theorem cl_busiest {L : Nat} {xs : Nat → Int32} {i N : Int} {h : PH} {c s : Nat} {z6 z7 z8 : Option PV} (Z : LT h L xs N) (hi0 : 0 ≤ i) (hL : i + 6 ≤ L) (hN : N + 97000 ≤ 99999999) (hc : c + 24 ≤ 601024) (hs : s + 1700 ≤ 7293034) (HK : HKL L xs i N c s) : WPL 1312 [some (pA 1), some (pA 64), some (pA 119), some (pA 139), some (pA 140), some (pI i), z6, z7, z8] [] h c s := by
  obtain ⟨D, sr, t, C, G, M, o, sp⟩ := Z
  refine WP.of (RUN.mono GQ _) (cuts := [28, 1312]) (n := 400) (v_L_law_1312 _ _ _ _ _ _ _ _ _ _ _ _ ?_)
  refine ⟨⟨hc, hs⟩, ?_⟩
  refine L_busiest C G o  (N' := N + 97000) (by omega) (fun kr h1 e1 v g1 C1 => ?_)
  have o1 := o.cg g1
  have sp1 := sp.cg g1
  have M1 := M.cg g1
  have ee := sp.eq sp1
  refine ⟨M1.k0, ?_⟩
  refine S_X7_busiest M1 G.W (fun x2 h2 v2 M2 => ⟨M2.k0, S_X7_thrown M2 (fun x3 e3 => ?_)⟩)
  have i2 : hi h2 139 0 = hi h1 139 0 := M2.sa.2.2.2 139 0 (by omega)
  exact law_cmp e1 e3 ((tL_ir D)) (fun tt => ⟨⟨i2.trans (v tt).1, (v tt).2⟩, v2 tt⟩) (M2.sa.os o1) (HK _ _ _ _ _ _ (LT.mk C1 (G.mono (by omega) (by omega)) M2 o1 sp1) (by omega) (by omega))
set_option maxRecDepth 100000 in
theorem cl_tiredest {L : Nat} {xs : Nat → Int32} {i N : Int} {h : PH} {c s : Nat} {z6 z7 z8 : Option PV} (Z : LT h L xs N) (hi0 : 0 ≤ i) (hL : i + 6 ≤ L) (hN : N + 97000 ≤ 99999999) (hc : c + 24 ≤ 601024) (hs : s + 1700 ≤ 7293034) (HK : HKL L xs i N c s) : WPL 1356 [some (pA 1), some (pA 64), some (pA 119), some (pA 139), some (pA 140), some (pI i), z6, z7, z8] [] h c s := by
  obtain ⟨D, sr, t, C, G, M, o, sp⟩ := Z
  refine WP.of (RUN.mono GQ _) (cuts := [28, 1356]) (n := 400) (v_L_law_1356 _ _ _ _ _ _ _ _ _ _ _ _ ?_)
  refine ⟨Or.inr sp.1, ⟨by omega, by rw [sp.2.1]; omega⟩, ⟨hc, hs⟩, ?_⟩
  refine L_tiredest C G o (sp.ir _) (N' := N + 97000) (by omega) (fun kr h1 e1 v g1 C1 => ?_)
  have o1 := o.cg g1
  have sp1 := sp.cg g1
  have M1 := M.cg g1
  have ee := sp.eq sp1
  refine ⟨Or.inr sp1.1, ⟨by omega, by rw [sp1.2.1]; omega⟩, M1.k0, ?_⟩
  rw [ee]
  refine S_X7_tiredest M1 G.W (sp.ir _) (fun x2 h2 v2 M2 => ⟨M2.k0, S_X7_thrown M2 (fun x3 e3 => ?_)⟩)
  have i2 : hi h2 139 0 = hi h1 139 0 := M2.sa.2.2.2 139 0 (by omega)
  exact law_cmp e1 e3 ((ck_ir (tL_ir D) (ir (by omega) (by omega)))) (fun tt => ⟨⟨i2.trans (v tt).1, (v tt).2⟩, v2 tt⟩) (M2.sa.os o1) (HK _ _ _ _ _ _ (LT.mk C1 (G.mono (by omega) (by omega)) M2 o1 sp1) (by omega) (by omega))
set_option maxRecDepth 100000 in
theorem cl_oldest {L : Nat} {xs : Nat → Int32} {i N : Int} {h : PH} {c s : Nat} {z6 z7 z8 : Option PV} (Z : LT h L xs N) (hi0 : 0 ≤ i) (hL : i + 6 ≤ L) (hN : N + 97000 ≤ 99999999) (hc : c + 24 ≤ 601024) (hs : s + 1700 ≤ 7293034) (HK : HKL L xs i N c s) : WPL 1412 [some (pA 1), some (pA 64), some (pA 119), some (pA 139), some (pA 140), some (pI i), z6, z7, z8] [] h c s := by
  obtain ⟨D, sr, t, C, G, M, o, sp⟩ := Z
  refine WP.of (RUN.mono GQ _) (cuts := [28, 1412]) (n := 400) (v_L_law_1412 _ _ _ _ _ _ _ _ _ _ _ _ ?_)
  refine ⟨⟨hc, hs⟩, ?_⟩
  refine L_oldest C G o  (by omega) (N' := N + 97000) (by omega) (fun kr h1 e1 v g1 C1 => ?_)
  have o1 := o.cg g1
  have sp1 := sp.cg g1
  have M1 := M.cg g1
  have ee := sp.eq sp1
  refine ⟨M1.k0, ?_⟩
  refine S_X7_oldest M1 G.W (fun x2 h2 v2 M2 => ⟨M2.k0, S_X7_thrown M2 (fun x3 e3 => ?_)⟩)
  have i2 : hi h2 139 0 = hi h1 139 0 := M2.sa.2.2.2 139 0 (by omega)
  exact law_cmp e1 e3 ((tL_ir D)) (fun tt => ⟨⟨i2.trans (v tt).1, (v tt).2⟩, v2 tt⟩) (M2.sa.os o1) (HK _ _ _ _ _ _ (LT.mk C1 (G.mono (by omega) (by omega)) M2 o1 sp1) (by omega) (by omega))
set_option maxRecDepth 100000 in
theorem cl_loser {L : Nat} {xs : Nat → Int32} {i N : Int} {h : PH} {c s : Nat} {z6 z7 z8 : Option PV} (Z : LT h L xs N) (hi0 : 0 ≤ i) (hL : i + 6 ≤ L) (hN : N + 97000 ≤ 99999999) (hc : c + 24 ≤ 601024) (hs : s + 1700 ≤ 7293034) (HK : HKL L xs i N c s) : WPL 1456 [some (pA 1), some (pA 64), some (pA 119), some (pA 139), some (pA 140), some (pI i), z6, z7, z8] [] h c s := by
  obtain ⟨D, sr, t, C, G, M, o, sp⟩ := Z
  refine WP.of (RUN.mono GQ _) (cuts := [28, 1456]) (n := 400) (v_L_law_1456 _ _ _ _ _ _ _ _ _ _ _ _ ?_)
  refine ⟨Or.inr sp.1, ⟨by omega, by rw [sp.2.1]; omega⟩, Or.inr sp.1, ⟨by omega, by rw [sp.2.1]; omega⟩, ⟨hc, hs⟩, ?_⟩
  refine L_loser C G o (sp.ir _) (sp.ir _) (by omega) (N' := N + 97000) (by omega) (fun kr h1 e1 v g1 C1 => ?_)
  have o1 := o.cg g1
  have sp1 := sp.cg g1
  have M1 := M.cg g1
  have ee := sp.eq sp1
  refine ⟨Or.inr sp1.1, ⟨by omega, by rw [sp1.2.1]; omega⟩, Or.inr sp1.1, ⟨by omega, by rw [sp1.2.1]; omega⟩, M1.k0, ?_⟩
  rw [ee, ee]
  refine S_X7_loser M1 G.W (sp.ir _) (sp.ir _) (fun x2 h2 v2 M2 => ⟨M2.k0, S_X7_thrown M2 (fun x3 e3 => ?_)⟩)
  have i2 : hi h2 139 0 = hi h1 139 0 := M2.sa.2.2.2 139 0 (by omega)
  exact law_cmp e1 e3 ((ck_ir (ck_ir (tL_ir D) (ir (by omega) (by omega))) (ir (by omega) (by omega)))) (fun tt => ⟨⟨i2.trans (v tt).1, (v tt).2⟩, v2 tt⟩) (M2.sa.os o1) (HK _ _ _ _ _ _ (LT.mk C1 (G.mono (by omega) (by omega)) M2 o1 sp1) (by omega) (by omega))
set_option maxRecDepth 100000 in
theorem cl_raisers {L : Nat} {xs : Nat → Int32} {i N : Int} {h : PH} {c s : Nat} {z6 z7 z8 : Option PV} (Z : LT h L xs N) (hi0 : 0 ≤ i) (hL : i + 6 ≤ L) (hN : N + 97000 ≤ 99999999) (hc : c + 24 ≤ 601024) (hs : s + 1700 ≤ 7293034) (HK : HKL L xs i N c s) : WPL 1655 [some (pA 1), some (pA 64), some (pA 119), some (pA 139), some (pA 140), some (pI i), z6, z7, z8] [] h c s := by
  obtain ⟨D, sr, t, C, G, M, o, sp⟩ := Z
  refine WP.of (RUN.mono GQ _) (cuts := [28, 1655]) (n := 400) (v_L_law_1655 _ _ _ _ _ _ _ _ _ _ _ _ ?_)
  refine ⟨Or.inr sp.1, ⟨by omega, by rw [sp.2.1]; omega⟩, ⟨hc, hs⟩, ?_⟩
  refine L_raisers C G o (sp.ir _) (N' := N + 97000) (by omega) (fun kr h1 e1 v g1 C1 => ?_)
  have o1 := o.cg g1
  have sp1 := sp.cg g1
  have M1 := M.cg g1
  have ee := sp.eq sp1
  refine ⟨Or.inr sp1.1, ⟨by omega, by rw [sp1.2.1]; omega⟩, M1.k0, ?_⟩
  rw [ee]
  refine S_X7_raisers M1 G.W (sp.ir _) (fun x2 h2 v2 M2 => ⟨M2.k0, S_X7_thrown M2 (fun x3 e3 => ?_)⟩)
  have i2 : hi h2 139 0 = hi h1 139 0 := M2.sa.2.2.2 139 0 (by omega)
  exact law_cmp e1 e3 ((ck_ir (tL_ir D) (ir (by omega) (by omega)))) (fun tt => ⟨⟨i2.trans (v tt).1, (v tt).2⟩, v2 tt⟩) (M2.sa.os o1) (HK _ _ _ _ _ _ (LT.mk C1 (G.mono (by omega) (by omega)) M2 o1 sp1) (by omega) (by omega))
set_option maxRecDepth 100000 in
theorem cl_idleIn {L : Nat} {xs : Nat → Int32} {i N : Int} {h : PH} {c s : Nat} {z6 z7 z8 : Option PV} (Z : LT h L xs N) (hi0 : 0 ≤ i) (hL : i + 6 ≤ L) (hN : N + 97000 ≤ 99999999) (hc : c + 24 ≤ 601024) (hs : s + 1700 ≤ 7293034) (HK : HKL L xs i N c s) : WPL 1711 [some (pA 1), some (pA 64), some (pA 119), some (pA 139), some (pA 140), some (pI i), z6, z7, z8] [] h c s := by
  obtain ⟨D, sr, t, C, G, M, o, sp⟩ := Z
  refine WP.of (RUN.mono GQ _) (cuts := [28, 1711]) (n := 400) (v_L_law_1711 _ _ _ _ _ _ _ _ _ _ _ _ ?_)
  refine ⟨Or.inr sp.1, ⟨by omega, by rw [sp.2.1]; omega⟩, ⟨hc, hs⟩, ?_⟩
  refine L_idleIn C G o (sp.ir _) (N' := N + 97000) (by omega) (fun kr h1 e1 v g1 C1 => ?_)
  have o1 := o.cg g1
  have sp1 := sp.cg g1
  have M1 := M.cg g1
  have ee := sp.eq sp1
  refine ⟨Or.inr sp1.1, ⟨by omega, by rw [sp1.2.1]; omega⟩, M1.k0, ?_⟩
  rw [ee]
  refine S_X7_idleIn M1 G.W (sp.ir _) (fun x2 h2 D2 v2 w2 M2 => ⟨M2.k0, S_X7_thrown M2 (fun x3 e3 => ?_)⟩)
  have i2 : hi h2 139 0 = hi h1 139 0 := M2.sa.2.2.2 139 0 (by omega)
  have q2 : ∀ j, j ≠ 7 → D2 j = D j := by
    by_cases tt : kr = 0
    · exact (v2 (e1.symm.trans tt)).2
    · intro j _
      rw [w2 (fun z => tt (e1.trans z))]
  exact law_cmp e1 e3 ((ck_ir (tL_ir D) (ir (by omega) (by omega)))) (fun tt => ⟨⟨i2.trans (v tt).1, (v tt).2⟩, (v2 tt).1⟩) (M2.sa.os o1) (HK _ _ _ _ _ _ (LT.mk (C1.eq q2) ((G.mono (by omega) (by omega)).eq q2) M2 o1 sp1) (by omega) (by omega))
set_option maxRecDepth 100000 in
theorem cl_calmIn {L : Nat} {xs : Nat → Int32} {i N : Int} {h : PH} {c s : Nat} {z6 z7 z8 : Option PV} (Z : LT h L xs N) (hi0 : 0 ≤ i) (hL : i + 6 ≤ L) (hN : N + 97000 ≤ 99999999) (hc : c + 24 ≤ 601024) (hs : s + 1700 ≤ 7293034) (HK : HKL L xs i N c s) : WPL 1767 [some (pA 1), some (pA 64), some (pA 119), some (pA 139), some (pA 140), some (pI i), z6, z7, z8] [] h c s := by
  obtain ⟨D, sr, t, C, G, M, o, sp⟩ := Z
  refine WP.of (RUN.mono GQ _) (cuts := [28, 1767]) (n := 400) (v_L_law_1767 _ _ _ _ _ _ _ _ _ _ _ _ ?_)
  refine ⟨⟨hc, hs⟩, ?_⟩
  refine L_calmIn C G o  (N' := N + 97000) (by omega) (fun kr h1 e1 v g1 C1 => ?_)
  have o1 := o.cg g1
  have sp1 := sp.cg g1
  have M1 := M.cg g1
  have ee := sp.eq sp1
  refine ⟨M1.k0, ?_⟩
  refine S_X7_calmIn M1 G.W (fun x2 h2 D2 v2 w2 M2 => ⟨M2.k0, S_X7_thrown M2 (fun x3 e3 => ?_)⟩)
  have i2 : hi h2 139 0 = hi h1 139 0 := M2.sa.2.2.2 139 0 (by omega)
  have q2 : ∀ j, j ≠ 7 → D2 j = D j := by
    by_cases tt : kr = 0
    · exact (v2 (e1.symm.trans tt)).2
    · intro j _
      rw [w2 (fun z => tt (e1.trans z))]
  exact law_cmp e1 e3 ((tL_ir D)) (fun tt => ⟨⟨i2.trans (v tt).1, (v tt).2⟩, (v2 tt).1⟩) (M2.sa.os o1) (HK _ _ _ _ _ _ (LT.mk (C1.eq q2) ((G.mono (by omega) (by omega)).eq q2) M2 o1 sp1) (by omega) (by omega))
set_option maxRecDepth 100000 in
theorem cl_endIn {L : Nat} {xs : Nat → Int32} {i N : Int} {h : PH} {c s : Nat} {z6 z7 z8 : Option PV} (Z : LT h L xs N) (hi0 : 0 ≤ i) (hL : i + 6 ≤ L) (hN : N + 97000 ≤ 99999999) (hc : c + 24 ≤ 601024) (hs : s + 1700 ≤ 7293034) (HK : HKL L xs i N c s) : WPL 1811 [some (pA 1), some (pA 64), some (pA 119), some (pA 139), some (pA 140), some (pI i), z6, z7, z8] [] h c s := by
  obtain ⟨D, sr, t, C, G, M, o, sp⟩ := Z
  refine WP.of (RUN.mono GQ _) (cuts := [28, 1811]) (n := 400) (v_L_law_1811 _ _ _ _ _ _ _ _ _ _ _ _ ?_)
  refine ⟨Or.inr sp.1, ⟨by omega, by rw [sp.2.1]; omega⟩, ⟨hc, hs⟩, ?_⟩
  refine L_endIn C G o (sp.ir _) (N' := N + 97000) (by omega) (fun kr h1 e1 v g1 C1 => ?_)
  have o1 := o.cg g1
  have sp1 := sp.cg g1
  have M1 := M.cg g1
  have ee := sp.eq sp1
  refine ⟨Or.inr sp1.1, ⟨by omega, by rw [sp1.2.1]; omega⟩, M1.k0, ?_⟩
  rw [ee]
  refine S_X7_endIn M1 G.W (sp.ir _) (fun x2 h2 D2 s2 v2 w2 M2 => ⟨M2.k0, S_X7_thrown M2 (fun x3 e3 => ?_)⟩)
  have i2 : hi h2 139 0 = hi h1 139 0 := M2.sa.2.2.2 139 0 (by omega)
  have F2 : CP h1 D2 s2 (N + 97000) ∧ CD D2 s2 (N + 97000) := by
    have G2 := G.mono (N' := N + 97000) (by omega) (by omega)
    by_cases tt : kr = 0
    · have tz := e1.symm.trans tt
      obtain ⟨_, y1, y2⟩ := v2 tz
      have u := G.u (tL_n (ck_t tz))
      have sq := seq_w (s := sr) (eov_rng (g := hi h 1 (Int.toNat (i + 1))) u.1 u.2.1 (sp.ir _))
      rw [y2]
      exact ⟨(C1.eq y1).seq (G2.eq y1) sq, (G2.eq y1).seq sq⟩
    · have tz := fun z => tt (e1.trans z)
      obtain ⟨y1, y2⟩ := w2 tz
      rw [y1, y2]
      exact ⟨C1, G2⟩
  exact law_cmp e1 e3 ((ck_ir (tL_ir D) (ir (by omega) (by omega)))) (fun tt => ⟨⟨i2.trans (v tt).1, (v tt).2⟩, (v2 tt).1⟩) (M2.sa.os o1) (HK _ _ _ _ _ _ (LT.mk F2.1 F2.2 M2 o1 sp1) (by omega) (by omega))
set_option maxRecDepth 100000 in
theorem cl_endOf {L : Nat} {xs : Nat → Int32} {i N : Int} {h : PH} {c s : Nat} {z6 z7 z8 : Option PV} (Z : LT h L xs N) (hi0 : 0 ≤ i) (hL : i + 6 ≤ L) (hN : N + 97000 ≤ 99999999) (hc : c + 24 ≤ 601024) (hs : s + 1700 ≤ 7293034) (HK : HKL L xs i N c s) : WPL 1867 [some (pA 1), some (pA 64), some (pA 119), some (pA 139), some (pA 140), some (pI i), z6, z7, z8] [] h c s := by
  obtain ⟨D, sr, t, C, G, M, o, sp⟩ := Z
  refine WP.of (RUN.mono GQ _) (cuts := [28, 1867]) (n := 400) (v_L_law_1867 _ _ _ _ _ _ _ _ _ _ _ _ ?_)
  refine ⟨Or.inr sp.1, ⟨by omega, by rw [sp.2.1]; omega⟩, ⟨hc, hs⟩, ?_⟩
  refine L_endOf C G o (sp.ir _) (N' := N + 97000) (by omega) (fun kr h1 e1 v g1 C1 => ?_)
  have o1 := o.cg g1
  have sp1 := sp.cg g1
  have M1 := M.cg g1
  have ee := sp.eq sp1
  refine ⟨Or.inr sp1.1, ⟨by omega, by rw [sp1.2.1]; omega⟩, M1.k0, ?_⟩
  rw [ee]
  refine S_X7_endOf M1 G.W (sp.ir _) (fun x2 h2 D2 s2 v2 w2 M2 => ⟨M2.k0, S_X7_thrown M2 (fun x3 e3 => ?_)⟩)
  have i2 : hi h2 139 0 = hi h1 139 0 := M2.sa.2.2.2 139 0 (by omega)
  have F2 : CP h1 D2 s2 (N + 97000) ∧ CD D2 s2 (N + 97000) := by
    have G2 := G.mono (N' := N + 97000) (by omega) (by omega)
    by_cases tt : kr = 0
    · have tz := e1.symm.trans tt
      obtain ⟨_, y1, y2⟩ := v2 tz
      have u := G.u (tL_n (ck_t tz))
      have sq := seq_w (s := sr) (eov_rng (g := hi h 1 (Int.toNat (i + 1))) u.1 u.2.1 (sp.ir _))
      rw [y2]
      exact ⟨(C1.eq y1).seq (G2.eq y1) sq, (G2.eq y1).seq sq⟩
    · have tz := fun z => tt (e1.trans z)
      obtain ⟨y1, y2⟩ := w2 tz
      rw [y1, y2]
      exact ⟨C1, G2⟩
  exact law_cmp e1 e3 ((ck_ir (tL_ir D) (ir (by omega) (by omega)))) (fun tt => ⟨⟨i2.trans (v tt).1, (v tt).2⟩, (v2 tt).1⟩) (M2.sa.os o1) (HK _ _ _ _ _ _ (LT.mk F2.1 F2.2 M2 o1 sp1) (by omega) (by omega))
set_option maxRecDepth 100000 in
theorem cl_endsIn {L : Nat} {xs : Nat → Int32} {i N : Int} {h : PH} {c s : Nat} {z6 z7 z8 : Option PV} (Z : LT h L xs N) (hi0 : 0 ≤ i) (hL : i + 6 ≤ L) (hN : N + 97000 ≤ 99999999) (hc : c + 24 ≤ 601024) (hs : s + 1700 ≤ 7293034) (HK : HKL L xs i N c s) : WPL 1923 [some (pA 1), some (pA 64), some (pA 119), some (pA 139), some (pA 140), some (pI i), z6, z7, z8] [] h c s := by
  obtain ⟨D, sr, t, C, G, M, o, sp⟩ := Z
  refine WP.of (RUN.mono GQ _) (cuts := [28, 1923]) (n := 400) (v_L_law_1923 _ _ _ _ _ _ _ _ _ _ _ _ ?_)
  refine ⟨Or.inr sp.1, ⟨by omega, by rw [sp.2.1]; omega⟩, Or.inr sp.1, ⟨by omega, by rw [sp.2.1]; omega⟩, ⟨hc, hs⟩, ?_⟩
  refine L_endsIn C G o (sp.ir _) (sp.ir _) (by omega) (N' := N + 97000) (by omega) (fun kr h1 e1 v g1 C1 => ?_)
  have o1 := o.cg g1
  have sp1 := sp.cg g1
  have M1 := M.cg g1
  have ee := sp.eq sp1
  refine ⟨Or.inr sp1.1, ⟨by omega, by rw [sp1.2.1]; omega⟩, Or.inr sp1.1, ⟨by omega, by rw [sp1.2.1]; omega⟩, M1.k0, ?_⟩
  rw [ee, ee]
  refine S_X7_endsIn M1 G.W (sp.ir _) (sp.ir _) (fun x2 h2 D2 v2 w2 M2 => ⟨M2.k0, S_X7_thrown M2 (fun x3 e3 => ?_)⟩)
  have i2 : hi h2 139 0 = hi h1 139 0 := M2.sa.2.2.2 139 0 (by omega)
  have q2 : ∀ j, j ≠ 7 → D2 j = D j := by
    by_cases tt : kr = 0
    · exact (v2 (e1.symm.trans tt)).2
    · intro j _
      rw [w2 (fun z => tt (e1.trans z))]
  exact law_cmp e1 e3 ((ck_ir (ck_ir (tL_ir D) (ir (by omega) (by omega))) (ir (by omega) (by omega)))) (fun tt => ⟨⟨i2.trans (v tt).1, (v tt).2⟩, (v2 tt).1⟩) (M2.sa.os o1) (HK _ _ _ _ _ _ (LT.mk (C1.eq q2) ((G.mono (by omega) (by omega)).eq q2) M2 o1 sp1) (by omega) (by omega))
set_option maxRecDepth 100000 in
theorem cl_urgencyIn {L : Nat} {xs : Nat → Int32} {i N : Int} {h : PH} {c s : Nat} {z6 z7 z8 : Option PV} (Z : LT h L xs N) (hi0 : 0 ≤ i) (hL : i + 6 ≤ L) (hN : N + 97000 ≤ 99999999) (hc : c + 24 ≤ 601024) (hs : s + 1700 ≤ 7293034) (HK : HKL L xs i N c s) : WPL 1991 [some (pA 1), some (pA 64), some (pA 119), some (pA 139), some (pA 140), some (pI i), z6, z7, z8] [] h c s := by
  obtain ⟨D, sr, t, C, G, M, o, sp⟩ := Z
  refine WP.of (RUN.mono GQ _) (cuts := [28, 1991]) (n := 400) (v_L_law_1991 _ _ _ _ _ _ _ _ _ _ _ _ ?_)
  refine ⟨Or.inr sp.1, ⟨by omega, by rw [sp.2.1]; omega⟩, Or.inr sp.1, ⟨by omega, by rw [sp.2.1]; omega⟩, Or.inr sp.1, ⟨by omega, by rw [sp.2.1]; omega⟩, ⟨hc, hs⟩, ?_⟩
  refine L_urgencyIn C G o (sp.ir _) (sp.ir _) (sp.ir _) (N' := N + 97000) (by omega) (fun kr h1 e1 v g1 C1 => ?_)
  have o1 := o.cg g1
  have sp1 := sp.cg g1
  have M1 := M.cg g1
  have ee := sp.eq sp1
  refine ⟨Or.inr sp1.1, ⟨by omega, by rw [sp1.2.1]; omega⟩, Or.inr sp1.1, ⟨by omega, by rw [sp1.2.1]; omega⟩, Or.inr sp1.1, ⟨by omega, by rw [sp1.2.1]; omega⟩, M1.k0, ?_⟩
  rw [ee, ee, ee]
  refine S_X7_urgencyIn M1 G.W (sp.ir _) (sp.ir _) (sp.ir _) (fun x2 h2 D2 v2 w2 M2 => ⟨M2.k0, S_X7_thrown M2 (fun x3 e3 => ?_)⟩)
  have i2 : hi h2 139 0 = hi h1 139 0 := M2.sa.2.2.2 139 0 (by omega)
  have q2 : ∀ j, j ≠ 7 → D2 j = D j := by
    by_cases tt : kr = 0
    · exact (v2 (e1.symm.trans tt)).2
    · intro j _
      rw [w2 (fun z => tt (e1.trans z))]
  exact law_cmp e1 e3 ((ck_ir (ck_ir (ck_ir (tL_ir D) (ir (by omega) (by omega))) (ir (by omega) (by omega))) (ir (by omega) (by omega)))) (fun tt => ⟨⟨i2.trans (v tt).1, (v tt).2⟩, (v2 tt).1⟩) (M2.sa.os o1) (HK _ _ _ _ _ _ (LT.mk (C1.eq q2) ((G.mono (by omega) (by omega)).eq q2) M2 o1 sp1) (by omega) (by omega))
set_option maxRecDepth 100000 in
theorem cl_sentIn {L : Nat} {xs : Nat → Int32} {i N : Int} {h : PH} {c s : Nat} {z6 z7 z8 : Option PV} (Z : LT h L xs N) (hi0 : 0 ≤ i) (hL : i + 6 ≤ L) (hN : N + 97000 ≤ 99999999) (hc : c + 24 ≤ 601024) (hs : s + 1700 ≤ 7293034) (HK : HKL L xs i N c s) : WPL 2071 [some (pA 1), some (pA 64), some (pA 119), some (pA 139), some (pA 140), some (pI i), z6, z7, z8] [] h c s := by
  obtain ⟨D, sr, t, C, G, M, o, sp⟩ := Z
  refine WP.of (RUN.mono GQ _) (cuts := [28, 2071]) (n := 400) (v_L_law_2071 _ _ _ _ _ _ _ _ _ _ _ _ ?_)
  refine ⟨Or.inr sp.1, ⟨by omega, by rw [sp.2.1]; omega⟩, ⟨hc, hs⟩, ?_⟩
  refine L_sentIn C G o (sp.ir _) (by omega) (N' := N + 97000) (by omega) (fun kr h1 e1 v g1 C1 => ?_)
  have o1 := o.cg g1
  have sp1 := sp.cg g1
  have M1 := M.cg g1
  have ee := sp.eq sp1
  refine ⟨Or.inr sp1.1, ⟨by omega, by rw [sp1.2.1]; omega⟩, M1.k0, ?_⟩
  rw [ee]
  refine S_X7_sentIn M1 G.W (sp.ir _) (fun x2 h2 D2 v2 w2 M2 => ⟨M2.k0, S_X7_thrown M2 (fun x3 e3 => ?_)⟩)
  have i2 : hi h2 139 0 = hi h1 139 0 := M2.sa.2.2.2 139 0 (by omega)
  have q2 : ∀ j, j ≠ 7 → D2 j = D j := by
    by_cases tt : kr = 0
    · exact (v2 (e1.symm.trans tt)).2
    · intro j _
      rw [w2 (fun z => tt (e1.trans z))]
  exact law_cmp e1 e3 ((ck_ir (tL_ir D) (ir (by omega) (by omega)))) (fun tt => ⟨⟨i2.trans (v tt).1, (v tt).2⟩, (v2 tt).1⟩) (M2.sa.os o1) (HK _ _ _ _ _ _ (LT.mk (C1.eq q2) ((G.mono (by omega) (by omega)).eq q2) M2 o1 sp1) (by omega) (by omega))
set_option maxRecDepth 100000 in
theorem cl_bestMask {L : Nat} {xs : Nat → Int32} {i N : Int} {h : PH} {c s : Nat} {z6 z7 z8 : Option PV} (Z : LT h L xs N) (hi0 : 0 ≤ i) (hL : i + 6 ≤ L) (hN : N + 97000 ≤ 99999999) (hc : c + 24 ≤ 601024) (hs : s + 1700 ≤ 7293034) (HK : HKL L xs i N c s) : WPL 2127 [some (pA 1), some (pA 64), some (pA 119), some (pA 139), some (pA 140), some (pI i), z6, z7, z8] [] h c s := by
  obtain ⟨D, sr, t, C, G, M, o, sp⟩ := Z
  refine WP.of (RUN.mono GQ _) (cuts := [28, 2127]) (n := 400) (v_L_law_2127 _ _ _ _ _ _ _ _ _ _ _ _ ?_)
  refine ⟨Or.inr sp.1, ⟨by omega, by rw [sp.2.1]; omega⟩, ⟨hc, hs⟩, ?_⟩
  refine L_bestMask C G o (sp.ir _) (N' := N + 97000) (by omega) (fun kr h1 e1 v g1 C1 => ?_)
  have o1 := o.cg g1
  have sp1 := sp.cg g1
  have M1 := M.cg g1
  have ee := sp.eq sp1
  refine ⟨Or.inr sp1.1, ⟨by omega, by rw [sp1.2.1]; omega⟩, M1.k0, ?_⟩
  rw [ee]
  refine S_X7_bestMask M1 G.W (sp.ir _) (fun x2 h2 D2 v2 w2 M2 => ⟨M2.k0, S_X7_thrown M2 (fun x3 e3 => ?_)⟩)
  have i2 : hi h2 139 0 = hi h1 139 0 := M2.sa.2.2.2 139 0 (by omega)
  have q2 : ∀ j, j ≠ 7 → D2 j = D j := by
    by_cases tt : kr = 0
    · exact (v2 (e1.symm.trans tt)).2
    · intro j _
      rw [w2 (fun z => tt (e1.trans z))]
  exact law_cmp e1 e3 ((ck_ir (tL_ir D) (ir (by omega) (by omega)))) (fun tt => ⟨⟨i2.trans (v tt).1, (v tt).2⟩, (v2 tt).1⟩) (M2.sa.os o1) (HK _ _ _ _ _ _ (LT.mk (C1.eq q2) ((G.mono (by omega) (by omega)).eq q2) M2 o1 sp1) (by omega) (by omega))
set_option maxRecDepth 100000 in
theorem cl_writeQueue {L : Nat} {xs : Nat → Int32} {i N : Int} {h : PH} {c s : Nat} {z6 z7 z8 : Option PV} (Z : LT h L xs N) (hi0 : 0 ≤ i) (hL : i + 6 ≤ L) (hN : N + 97000 ≤ 99999999) (hc : c + 24 ≤ 601024) (hs : s + 1700 ≤ 7293034) (HK : HKL L xs i N c s) : WPL 2183 [some (pA 1), some (pA 64), some (pA 119), some (pA 139), some (pA 140), some (pI i), z6, z7, z8] [] h c s := by
  obtain ⟨D, sr, t, C, G, M, o, sp⟩ := Z
  refine WP.of (RUN.mono GQ _) (cuts := [28, 2183]) (n := 400) (v_L_law_2183 _ _ _ _ _ _ _ _ _ _ _ _ ?_)
  refine ⟨Or.inr sp.1, ⟨by omega, by rw [sp.2.1]; omega⟩, ⟨hc, hs⟩, ?_⟩
  refine L_writeQueue C G o (sp.ir _) (by omega) (N' := N + 97000) (by omega) (fun kr h1 e1 v g1 C1 => ?_)
  have o1 := o.cg g1
  have sp1 := sp.cg g1
  have M1 := M.cg g1
  have ee := sp.eq sp1
  refine ⟨Or.inr sp1.1, ⟨by omega, by rw [sp1.2.1]; omega⟩, M1.k0, ?_⟩
  rw [ee]
  refine S_X7_writeQueue M1 G.W (sp.ir _) (by omega) G.nm (fun x2 h2 D2 v2 w2 M2 => ⟨M2.k0, S_X7_thrown M2 (fun x3 e3 => ?_)⟩)
  have i2 : hi h2 139 0 = hi h1 139 0 := M2.sa.2.2.2 139 0 (by omega)
  have F2 : CP h1 D2 sr (N + 97000) ∧ CD D2 sr (N + 97000) := by
    by_cases tt : kr = 0
    · have tz := e1.symm.trans tt
      exact ⟨C1.1 tz D2 (v2 tz).2, G.text (v2 tz).2 (wq_400 G tz).1 (wq_400 G tz).2 (by omega) (by omega)⟩
    · have tz := fun z => tt (e1.trans z)
      rw [w2 tz]
      exact ⟨C1.2 tz, G.mono (by omega) (by omega)⟩
  exact law_cmp e1 e3 ((ck_ir (tL_ir D) (ir (by omega) (by omega)))) (fun tt => ⟨⟨i2.trans (v tt).1, (v tt).2⟩, (v2 tt).1⟩) (M2.sa.os o1) (HK _ _ _ _ _ _ (LT.mk F2.1 F2.2 M2 o1 sp1) (by omega) (by omega))
set_option maxRecDepth 100000 in
theorem cl_writeStack {L : Nat} {xs : Nat → Int32} {i N : Int} {h : PH} {c s : Nat} {z6 z7 z8 : Option PV} (Z : LT h L xs N) (hi0 : 0 ≤ i) (hL : i + 6 ≤ L) (hN : N + 97000 ≤ 99999999) (hc : c + 24 ≤ 601024) (hs : s + 1700 ≤ 7293034) (HK : HKL L xs i N c s) : WPL 2239 [some (pA 1), some (pA 64), some (pA 119), some (pA 139), some (pA 140), some (pI i), z6, z7, z8] [] h c s := by
  obtain ⟨D, sr, t, C, G, M, o, sp⟩ := Z
  refine WP.of (RUN.mono GQ _) (cuts := [28, 2239]) (n := 400) (v_L_law_2239 _ _ _ _ _ _ _ _ _ _ _ _ ?_)
  refine ⟨Or.inr sp.1, ⟨by omega, by rw [sp.2.1]; omega⟩, ⟨hc, hs⟩, ?_⟩
  refine L_writeStack C G o (sp.ir _) (by omega) (N' := N + 97000) (by omega) (fun kr h1 e1 v g1 C1 => ?_)
  have o1 := o.cg g1
  have sp1 := sp.cg g1
  have M1 := M.cg g1
  have ee := sp.eq sp1
  refine ⟨Or.inr sp1.1, ⟨by omega, by rw [sp1.2.1]; omega⟩, M1.k0, ?_⟩
  rw [ee]
  refine S_X7_writeStack M1 G.W (sp.ir _) (by omega) G.nm (fun x2 h2 D2 v2 w2 M2 => ⟨M2.k0, S_X7_thrown M2 (fun x3 e3 => ?_)⟩)
  have i2 : hi h2 139 0 = hi h1 139 0 := M2.sa.2.2.2 139 0 (by omega)
  have F2 : CP h1 D2 sr (N + 97000) ∧ CD D2 sr (N + 97000) := by
    by_cases tt : kr = 0
    · have tz := e1.symm.trans tt
      exact ⟨C1.1 tz D2 (v2 tz).2, G.text (v2 tz).2 (ws_400 G tz).1 (ws_400 G tz).2 (by omega) (by omega)⟩
    · have tz := fun z => tt (e1.trans z)
      rw [w2 tz]
      exact ⟨C1.2 tz, G.mono (by omega) (by omega)⟩
  exact law_cmp e1 e3 ((ck_ir (tL_ir D) (ir (by omega) (by omega)))) (fun tt => ⟨⟨i2.trans (v tt).1, (v tt).2⟩, (v2 tt).1⟩) (M2.sa.os o1) (HK _ _ _ _ _ _ (LT.mk F2.1 F2.2 M2 o1 sp1) (by omega) (by omega))
set_option maxRecDepth 100000 in
theorem cl_writeEnds {L : Nat} {xs : Nat → Int32} {i N : Int} {h : PH} {c s : Nat} {z6 z7 z8 : Option PV} (Z : LT h L xs N) (hi0 : 0 ≤ i) (hL : i + 6 ≤ L) (hN : N + 97000 ≤ 99999999) (hc : c + 24 ≤ 601024) (hs : s + 1700 ≤ 7293034) (HK : HKL L xs i N c s) : WPL 2295 [some (pA 1), some (pA 64), some (pA 119), some (pA 139), some (pA 140), some (pI i), z6, z7, z8] [] h c s := by
  obtain ⟨D, sr, t, C, G, M, o, sp⟩ := Z
  refine WP.of (RUN.mono GQ _) (cuts := [28, 2295]) (n := 400) (v_L_law_2295 _ _ _ _ _ _ _ _ _ _ _ _ ?_)
  refine ⟨⟨hc, hs⟩, ?_⟩
  refine L_writeEnds C G o  (by omega) (N' := N + 97000) (by omega) (fun kr h1 e1 v g1 C1 => ?_)
  have o1 := o.cg g1
  have sp1 := sp.cg g1
  have M1 := M.cg g1
  have ee := sp.eq sp1
  refine ⟨M1.k0, ?_⟩
  refine S_X7_writeEnds M1 G.W (by omega) G.nm (fun x2 h2 D2 v2 w2 M2 => ⟨M2.k0, S_X7_thrown M2 (fun x3 e3 => ?_)⟩)
  have i2 : hi h2 139 0 = hi h1 139 0 := M2.sa.2.2.2 139 0 (by omega)
  have F2 : CP h1 D2 sr (N + 97000) ∧ CD D2 sr (N + 97000) := by
    by_cases tt : kr = 0
    · have tz := e1.symm.trans tt
      exact ⟨C1.1 tz D2 (v2 tz).2, G.text (v2 tz).2 (we_400 G (by omega) tz).1 (we_400 G (by omega) tz).2 (by omega) (by omega)⟩
    · have tz := fun z => tt (e1.trans z)
      rw [w2 tz]
      exact ⟨C1.2 tz, G.mono (by omega) (by omega)⟩
  exact law_cmp e1 e3 ((tL_ir D)) (fun tt => ⟨⟨i2.trans (v tt).1, (v tt).2⟩, (v2 tt).1⟩) (M2.sa.os o1) (HK _ _ _ _ _ _ (LT.mk F2.1 F2.2 M2 o1 sp1) (by omega) (by omega))
set_option maxRecDepth 100000 in
theorem cl_textByte {L : Nat} {xs : Nat → Int32} {i N : Int} {h : PH} {c s : Nat} {z6 z7 z8 : Option PV} (Z : LT h L xs N) (hi0 : 0 ≤ i) (hL : i + 6 ≤ L) (hN : N + 97000 ≤ 99999999) (hc : c + 24 ≤ 601024) (hs : s + 1700 ≤ 7293034) (HK : HKL L xs i N c s) : WPL 2339 [some (pA 1), some (pA 64), some (pA 119), some (pA 139), some (pA 140), some (pI i), z6, z7, z8] [] h c s := by
  obtain ⟨D, sr, t, C, G, M, o, sp⟩ := Z
  refine WP.of (RUN.mono GQ _) (cuts := [28, 2339]) (n := 400) (v_L_law_2339 _ _ _ _ _ _ _ _ _ _ _ _ ?_)
  refine ⟨Or.inr sp.1, ⟨by omega, by rw [sp.2.1]; omega⟩, ⟨hc, hs⟩, ?_⟩
  refine L_textByte C G o (sp.ir _) (N' := N + 97000) (by omega) (fun kr h1 e1 v g1 C1 => ?_)
  have o1 := o.cg g1
  have sp1 := sp.cg g1
  have M1 := M.cg g1
  have ee := sp.eq sp1
  refine ⟨Or.inr sp1.1, ⟨by omega, by rw [sp1.2.1]; omega⟩, M1.k0, ?_⟩
  rw [ee]
  refine S_X7_textByte M1 (sp.ir _) ⟨G.h46.1, by have := G.h46.2; omega⟩ G.tx (fun x2 h2 v2 M2 => ⟨M2.k0, S_X7_thrown M2 (fun x3 e3 => ?_)⟩)
  have i2 : hi h2 139 0 = hi h1 139 0 := M2.sa.2.2.2 139 0 (by omega)
  exact law_cmp e1 e3 ((ck_ir (ir (by omega) (by omega)) (ir (by omega) (by omega)))) (fun tt => ⟨⟨i2.trans (v tt).1, (v tt).2⟩, v2 tt⟩) (M2.sa.os o1) (HK _ _ _ _ _ _ (LT.mk C1 (G.mono (by omega) (by omega)) M2 o1 sp1) (by omega) (by omega))
set_option maxRecDepth 100000 in
theorem cl_tick {L : Nat} {xs : Nat → Int32} {i N : Int} {h : PH} {c s : Nat} {z6 z7 z8 : Option PV} (Z : LT h L xs N) (hi0 : 0 ≤ i) (hL : i + 6 ≤ L) (hN : N + 97000 ≤ 99999999) (hc : c + 24 ≤ 601024) (hs : s + 1700 ≤ 7293034) (HK : HKL L xs i N c s) : WPL 2395 [some (pA 1), some (pA 64), some (pA 119), some (pA 139), some (pA 140), some (pI i), z6, z7, z8] [] h c s := by
  obtain ⟨D, sr, t, C, G, M, o, sp⟩ := Z
  refine WP.of (RUN.mono GQ _) (cuts := [28, 2395]) (n := 400) (v_L_law_2395 _ _ _ _ _ _ _ _ _ _ _ _ ?_)
  refine ⟨Or.inr sp.1, ⟨by omega, by rw [sp.2.1]; omega⟩, ⟨hc, hs⟩, ?_⟩
  refine L_tick C G o (sp.ir _) (by omega) (N' := N + 97000) (by omega) (fun kr h1 e1 v g1 C1 => ?_)
  have o1 := o.cg g1
  have sp1 := sp.cg g1
  have M1 := M.cg g1
  have ee := sp.eq sp1
  refine ⟨Or.inr sp1.1, ⟨by omega, by rw [sp1.2.1]; omega⟩, M1.k0, ?_⟩
  rw [ee]
  refine S_X7_tick M1 G.W (sp.ir _) G.c (fun x2 h2 D2 s2 v2 w2 M2 => ⟨M2.k0, S_X7_thrown M2 (fun x3 e3 => ?_)⟩)
  have i2 : hi h2 139 0 = hi h1 139 0 := M2.sa.2.2.2 139 0 (by omega)
  have F2 : CP h1 D2 s2 (N + 97000) ∧ CD D2 s2 (N + 97000) := by
    by_cases tt : kr = 0
    · have tz := e1.symm.trans tt
      obtain ⟨_, y1, y2⟩ := v2 tz
      rw [y1, y2]
      exact ⟨C1.1 tz, G_tick G (by omega) tz⟩
    · have tz := fun z => tt (e1.trans z)
      obtain ⟨y1, y2⟩ := w2 tz
      rw [y1, y2]
      exact ⟨C1.2 tz, G.mono (by omega) (by omega)⟩
  exact law_cmp e1 e3 (tTk_ir D sr _) (fun tt => ⟨⟨i2.trans (v tt).1, (v tt).2⟩, (v2 tt).1⟩) (M2.sa.os o1) (HK _ _ _ _ _ _ (LT.mk F2.1 F2.2 M2 o1 sp1) (by omega) (by omega))
set_option maxRecDepth 100000 in
theorem cl_send {L : Nat} {xs : Nat → Int32} {i N : Int} {h : PH} {c s : Nat} {z6 z7 z8 : Option PV} (Z : LT h L xs N) (hi0 : 0 ≤ i) (hL : i + 6 ≤ L) (hN : N + 97000 ≤ 99999999) (hc : c + 24 ≤ 601024) (hs : s + 1700 ≤ 7293034) (HK : HKL L xs i N c s) : WPL 2451 [some (pA 1), some (pA 64), some (pA 119), some (pA 139), some (pA 140), some (pI i), z6, z7, z8] [] h c s := by
  obtain ⟨D, sr, t, C, G, M, o, sp⟩ := Z
  refine WP.of (RUN.mono GQ _) (cuts := [28, 2451]) (n := 400) (v_L_law_2451 _ _ _ _ _ _ _ _ _ _ _ _ ?_)
  refine ⟨Or.inr sp.1, ⟨by omega, by rw [sp.2.1]; omega⟩, Or.inr sp.1, ⟨by omega, by rw [sp.2.1]; omega⟩, Or.inr sp.1, ⟨by omega, by rw [sp.2.1]; omega⟩, ⟨hc, hs⟩, ?_⟩
  refine L_send C G o (sp.ir _) (sp.ir _) (sp.ir _) (by omega) (N' := N + 97000) (by omega) (fun kr h1 e1 v g1 C1 => ?_)
  have o1 := o.cg g1
  have sp1 := sp.cg g1
  have M1 := M.cg g1
  have ee := sp.eq sp1
  refine ⟨Or.inr sp1.1, ⟨by omega, by rw [sp1.2.1]; omega⟩, Or.inr sp1.1, ⟨by omega, by rw [sp1.2.1]; omega⟩, Or.inr sp1.1, ⟨by omega, by rw [sp1.2.1]; omega⟩, M1.k0, ?_⟩
  rw [ee, ee, ee]
  refine S_X7_send M1 G.W (sp.ir _) (sp.ir _) (sp.ir _) G.c (fun x2 h2 D2 s2 v2 w2 M2 => ⟨M2.k0, S_X7_thrown M2 (fun x3 e3 => ?_)⟩)
  have i2 : hi h2 139 0 = hi h1 139 0 := M2.sa.2.2.2 139 0 (by omega)
  have F2 : CP h1 D2 s2 (N + 97000) ∧ CD D2 s2 (N + 97000) := by
    by_cases tt : kr = 0
    · have tz := e1.symm.trans tt
      obtain ⟨_, y1, y2⟩ := v2 tz
      rw [y1, y2]
      exact ⟨C1.1 tz, (G_send G (by omega) tz).1⟩
    · have tz := fun z => tt (e1.trans z)
      obtain ⟨y1, y2⟩ := w2 tz
      rw [y1, y2]
      exact ⟨C1.2 tz, G.mono (by omega) (by omega)⟩
  exact law_cmp e1 e3 ((ck_ir (ck_ir (ck_ir (tL_ir D) (ir (by omega) (by omega))) (ir (by omega) (by omega))) (ir (by omega) (by omega)))) (fun tt => ⟨⟨i2.trans (v tt).1, (v tt).2⟩, (v2 tt).1.trans (G_send G (by omega) tt).2⟩) (M2.sa.os o1) (HK _ _ _ _ _ _ (LT.mk F2.1 F2.2 M2 o1 sp1) (by omega) (by omega))
set_option maxRecDepth 100000 in
theorem cl_drop {L : Nat} {xs : Nat → Int32} {i N : Int} {h : PH} {c s : Nat} {z6 z7 z8 : Option PV} (Z : LT h L xs N) (hi0 : 0 ≤ i) (hL : i + 6 ≤ L) (hN : N + 97000 ≤ 99999999) (hc : c + 24 ≤ 601024) (hs : s + 1700 ≤ 7293034) (HK : HKL L xs i N c s) : WPL 2634 [some (pA 1), some (pA 64), some (pA 119), some (pA 139), some (pA 140), some (pI i), z6, z7, z8] [] h c s := by
  obtain ⟨D, sr, t, C, G, M, o, sp⟩ := Z
  refine WP.of (RUN.mono GQ _) (cuts := [28, 2634]) (n := 400) (v_L_law_2634 _ _ _ _ _ _ _ _ _ _ _ _ ?_)
  refine ⟨Or.inr sp.1, ⟨by omega, by rw [sp.2.1]; omega⟩, ⟨hc, hs⟩, ?_⟩
  refine L_drop C G o (sp.ir _) (N' := N + 97000) (by omega) (fun kr h1 e1 v g1 C1 => ?_)
  have o1 := o.cg g1
  have sp1 := sp.cg g1
  have M1 := M.cg g1
  have ee := sp.eq sp1
  refine ⟨Or.inr sp1.1, ⟨by omega, by rw [sp1.2.1]; omega⟩, M1.k0, ?_⟩
  rw [ee]
  refine S_X7_drop M1 G.W (sp.ir _) G.c (fun x2 h2 D2 s2 v2 w2 M2 => ⟨M2.k0, S_X7_thrown M2 (fun x3 e3 => ?_)⟩)
  have i2 : hi h2 139 0 = hi h1 139 0 := M2.sa.2.2.2 139 0 (by omega)
  have F2 : CP h1 D2 s2 (N + 97000) ∧ CD D2 s2 (N + 97000) := by
    by_cases tt : kr = 0
    · have tz := e1.symm.trans tt
      obtain ⟨_, y1, y2⟩ := v2 tz
      rw [y1, y2]
      exact ⟨C1.1 tz, G_drop G (by omega) tz⟩
    · have tz := fun z => tt (e1.trans z)
      obtain ⟨y1, y2⟩ := w2 tz
      rw [y1, y2]
      exact ⟨C1.2 tz, G.mono (by omega) (by omega)⟩
  exact law_cmp e1 e3 ((ck_ir (tL_ir D) (ir (by omega) (by omega)))) (fun tt => ⟨⟨i2.trans (v tt).1, (v tt).2⟩, (v2 tt).1⟩) (M2.sa.os o1) (HK _ _ _ _ _ _ (LT.mk F2.1 F2.2 M2 o1 sp1) (by omega) (by omega))
set_option maxRecDepth 100000 in
theorem cl_clear {L : Nat} {xs : Nat → Int32} {i N : Int} {h : PH} {c s : Nat} {z6 z7 z8 : Option PV} (Z : LT h L xs N) (hi0 : 0 ≤ i) (hL : i + 6 ≤ L) (hN : N + 97000 ≤ 99999999) (hc : c + 24 ≤ 601024) (hs : s + 1700 ≤ 7293034) (HK : HKL L xs i N c s) : WPL 2690 [some (pA 1), some (pA 64), some (pA 119), some (pA 139), some (pA 140), some (pI i), z6, z7, z8] [] h c s := by
  obtain ⟨D, sr, t, C, G, M, o, sp⟩ := Z
  refine WP.of (RUN.mono GQ _) (cuts := [28, 2690]) (n := 400) (v_L_law_2690 _ _ _ _ _ _ _ _ _ _ _ _ ?_)
  refine ⟨Or.inr sp.1, ⟨by omega, by rw [sp.2.1]; omega⟩, ⟨hc, hs⟩, ?_⟩
  refine L_clear C G o (sp.ir _) (N' := N + 97000) (by omega) (fun kr h1 e1 v g1 C1 => ?_)
  have o1 := o.cg g1
  have sp1 := sp.cg g1
  have M1 := M.cg g1
  have ee := sp.eq sp1
  refine ⟨Or.inr sp1.1, ⟨by omega, by rw [sp1.2.1]; omega⟩, M1.k0, ?_⟩
  rw [ee]
  refine S_X7_clear M1 G.W (sp.ir _) G.c (fun x2 h2 D2 s2 v2 w2 M2 => ⟨M2.k0, S_X7_thrown M2 (fun x3 e3 => ?_)⟩)
  have i2 : hi h2 139 0 = hi h1 139 0 := M2.sa.2.2.2 139 0 (by omega)
  have F2 : CP h1 D2 s2 (N + 97000) ∧ CD D2 s2 (N + 97000) := by
    by_cases tt : kr = 0
    · have tz := e1.symm.trans tt
      obtain ⟨_, y1, y2⟩ := v2 tz
      rw [y1, y2]
      exact ⟨C1.1 tz, (G_clear G (by omega) tz).1⟩
    · have tz := fun z => tt (e1.trans z)
      obtain ⟨y1, y2⟩ := w2 tz
      rw [y1, y2]
      exact ⟨C1.2 tz, G.mono (by omega) (by omega)⟩
  exact law_cmp e1 e3 ((ck_ir (tL_ir D) (ir (by omega) (by omega)))) (fun tt => ⟨⟨i2.trans (v tt).1, (v tt).2⟩, (v2 tt).1.trans (G_clear G (by omega) tt).2⟩) (M2.sa.os o1) (HK _ _ _ _ _ _ (LT.mk F2.1 F2.2 M2 o1 sp1) (by omega) (by omega))
set_option maxRecDepth 100000 in
theorem cl_refresh {L : Nat} {xs : Nat → Int32} {i N : Int} {h : PH} {c s : Nat} {z6 z7 z8 : Option PV} (Z : LT h L xs N) (hi0 : 0 ≤ i) (hL : i + 6 ≤ L) (hN : N + 97000 ≤ 99999999) (hc : c + 24 ≤ 601024) (hs : s + 1700 ≤ 7293034) (HK : HKL L xs i N c s) : WPL 2746 [some (pA 1), some (pA 64), some (pA 119), some (pA 139), some (pA 140), some (pI i), z6, z7, z8] [] h c s := by
  obtain ⟨D, sr, t, C, G, M, o, sp⟩ := Z
  refine WP.of (RUN.mono GQ _) (cuts := [28, 2746]) (n := 400) (v_L_law_2746 _ _ _ _ _ _ _ _ _ _ _ _ ?_)
  refine ⟨Or.inr sp.1, ⟨by omega, by rw [sp.2.1]; omega⟩, ⟨hc, hs⟩, ?_⟩
  refine L_refresh C G o (sp.ir _) (N' := N + 97000) (by omega) (fun kr h1 e1 v g1 C1 => ?_)
  have o1 := o.cg g1
  have sp1 := sp.cg g1
  have M1 := M.cg g1
  have ee := sp.eq sp1
  refine ⟨Or.inr sp1.1, ⟨by omega, by rw [sp1.2.1]; omega⟩, M1.k0, ?_⟩
  rw [ee]
  refine S_X7_refresh M1 G.W (sp.ir _) G.c (fun x2 h2 D2 s2 v2 w2 M2 => ⟨M2.k0, S_X7_thrown M2 (fun x3 e3 => ?_)⟩)
  have i2 : hi h2 139 0 = hi h1 139 0 := M2.sa.2.2.2 139 0 (by omega)
  have F2 : CP h1 D2 s2 (N + 97000) ∧ CD D2 s2 (N + 97000) := by
    by_cases tt : kr = 0
    · have tz := e1.symm.trans tt
      obtain ⟨_, y1, y2⟩ := v2 tz
      rw [y1, y2]
      exact ⟨C1.1 tz, G_refresh G (by omega) tz⟩
    · have tz := fun z => tt (e1.trans z)
      obtain ⟨y1, y2⟩ := w2 tz
      rw [y1, y2]
      exact ⟨C1.2 tz, G.mono (by omega) (by omega)⟩
  exact law_cmp e1 e3 ((ck_ir (tL_ir D) (ir (by omega) (by omega)))) (fun tt => ⟨⟨i2.trans (v tt).1, (v tt).2⟩, (v2 tt).1⟩) (M2.sa.os o1) (HK _ _ _ _ _ _ (LT.mk F2.1 F2.2 M2 o1 sp1) (by omega) (by omega))
set_option maxRecDepth 100000 in
theorem cl_setKind {L : Nat} {xs : Nat → Int32} {i N : Int} {h : PH} {c s : Nat} {z6 z7 z8 : Option PV} (Z : LT h L xs N) (hi0 : 0 ≤ i) (hL : i + 6 ≤ L) (hN : N + 97000 ≤ 99999999) (hc : c + 24 ≤ 601024) (hs : s + 1700 ≤ 7293034) (HK : HKL L xs i N c s) : WPL 2802 [some (pA 1), some (pA 64), some (pA 119), some (pA 139), some (pA 140), some (pI i), z6, z7, z8] [] h c s := by
  obtain ⟨D, sr, t, C, G, M, o, sp⟩ := Z
  refine WP.of (RUN.mono GQ _) (cuts := [28, 2802]) (n := 400) (v_L_law_2802 _ _ _ _ _ _ _ _ _ _ _ _ ?_)
  refine ⟨Or.inr sp.1, ⟨by omega, by rw [sp.2.1]; omega⟩, Or.inr sp.1, ⟨by omega, by rw [sp.2.1]; omega⟩, Or.inr sp.1, ⟨by omega, by rw [sp.2.1]; omega⟩, ⟨hc, hs⟩, ?_⟩
  refine L_setKind C G o (sp.ir _) (sp.ir _) (sp.ir _) (N' := N + 97000) (by omega) (fun kr h1 e1 v g1 C1 => ?_)
  have o1 := o.cg g1
  have sp1 := sp.cg g1
  have M1 := M.cg g1
  have ee := sp.eq sp1
  refine ⟨Or.inr sp1.1, ⟨by omega, by rw [sp1.2.1]; omega⟩, Or.inr sp1.1, ⟨by omega, by rw [sp1.2.1]; omega⟩, Or.inr sp1.1, ⟨by omega, by rw [sp1.2.1]; omega⟩, M1.k0, ?_⟩
  rw [ee, ee, ee]
  refine S_X7_setKind M1 G.W (sp.ir _) (sp.ir _) (sp.ir _) G.c (fun x2 h2 D2 s2 v2 w2 M2 => ⟨M2.k0, S_X7_thrown M2 (fun x3 e3 => ?_)⟩)
  have i2 : hi h2 139 0 = hi h1 139 0 := M2.sa.2.2.2 139 0 (by omega)
  have F2 : CP h1 D2 s2 (N + 97000) ∧ CD D2 s2 (N + 97000) := by
    by_cases tt : kr = 0
    · have tz := e1.symm.trans tt
      obtain ⟨_, y1, y2⟩ := v2 tz
      rw [y1, y2]
      exact ⟨C1.1 tz, G_setKind G (by omega) tz⟩
    · have tz := fun z => tt (e1.trans z)
      obtain ⟨y1, y2⟩ := w2 tz
      rw [y1, y2]
      exact ⟨C1.2 tz, G.mono (by omega) (by omega)⟩
  exact law_cmp e1 e3 ((ck_ir (ck_ir (ck_ir (tL_ir D) (ir (by omega) (by omega))) (ir (by omega) (by omega))) (ir (by omega) (by omega)))) (fun tt => ⟨⟨i2.trans (v tt).1, (v tt).2⟩, (v2 tt).1⟩) (M2.sa.os o1) (HK _ _ _ _ _ _ (LT.mk F2.1 F2.2 M2 o1 sp1) (by omega) (by omega))
set_option maxRecDepth 100000 in
theorem cl_set {L : Nat} {xs : Nat → Int32} {i N : Int} {h : PH} {c s : Nat} {z6 z7 z8 : Option PV} (Z : LT h L xs N) (hi0 : 0 ≤ i) (hL : i + 6 ≤ L) (hN : N + 97000 ≤ 99999999) (hc : c + 24 ≤ 601024) (hs : s + 1700 ≤ 7293034) (HK : HKL L xs i N c s) : WPL 2882 [some (pA 1), some (pA 64), some (pA 119), some (pA 139), some (pA 140), some (pI i), z6, z7, z8] [] h c s := by
  obtain ⟨D, sr, t, C, G, M, o, sp⟩ := Z
  refine WP.of (RUN.mono GQ _) (cuts := [28, 2882]) (n := 400) (v_L_law_2882 _ _ _ _ _ _ _ _ _ _ _ _ ?_)
  refine ⟨Or.inr sp.1, ⟨by omega, by rw [sp.2.1]; omega⟩, Or.inr sp.1, ⟨by omega, by rw [sp.2.1]; omega⟩, ⟨hc, hs⟩, ?_⟩
  refine L_set C G o (sp.ir _) (sp.ir _) (N' := N + 97000) (by omega) (fun kr h1 e1 v g1 C1 => ?_)
  have o1 := o.cg g1
  have sp1 := sp.cg g1
  have M1 := M.cg g1
  have ee := sp.eq sp1
  refine ⟨Or.inr sp1.1, ⟨by omega, by rw [sp1.2.1]; omega⟩, Or.inr sp1.1, ⟨by omega, by rw [sp1.2.1]; omega⟩, M1.k0, ?_⟩
  rw [ee, ee]
  refine S_X7_set M1 G.W (sp.ir _) (sp.ir _) G.c (fun x2 h2 D2 s2 v2 w2 M2 => ⟨M2.k0, S_X7_thrown M2 (fun x3 e3 => ?_)⟩)
  have i2 : hi h2 139 0 = hi h1 139 0 := M2.sa.2.2.2 139 0 (by omega)
  have F2 : CP h1 D2 s2 (N + 97000) ∧ CD D2 s2 (N + 97000) := by
    by_cases tt : kr = 0
    · have tz := e1.symm.trans tt
      obtain ⟨_, y1, y2⟩ := v2 tz
      rw [y1, y2]
      exact ⟨C1.1 tz, G_set G (by omega) tz⟩
    · have tz := fun z => tt (e1.trans z)
      obtain ⟨y1, y2⟩ := w2 tz
      rw [y1, y2]
      exact ⟨C1.2 tz, G.mono (by omega) (by omega)⟩
  exact law_cmp e1 e3 ((ck_ir (ck_ir (tL_ir D) (ir (by omega) (by omega))) (ir (by omega) (by omega)))) (fun tt => ⟨⟨i2.trans (v tt).1, (v tt).2⟩, (v2 tt).1⟩) (M2.sa.os o1) (HK _ _ _ _ _ _ (LT.mk F2.1 F2.2 M2 o1 sp1) (by omega) (by omega))
set_option maxRecDepth 100000 in
theorem cl_undo {L : Nat} {xs : Nat → Int32} {i N : Int} {h : PH} {c s : Nat} {z6 z7 z8 : Option PV} (Z : LT h L xs N) (hi0 : 0 ≤ i) (hL : i + 6 ≤ L) (hN : N + 97000 ≤ 99999999) (hc : c + 24 ≤ 601024) (hs : s + 1700 ≤ 7293034) (HK : HKL L xs i N c s) : WPL 2950 [some (pA 1), some (pA 64), some (pA 119), some (pA 139), some (pA 140), some (pI i), z6, z7, z8] [] h c s := by
  obtain ⟨D, sr, t, C, G, M, o, sp⟩ := Z
  refine WP.of (RUN.mono GQ _) (cuts := [28, 2950]) (n := 400) (v_L_law_2950 _ _ _ _ _ _ _ _ _ _ _ _ ?_)
  refine ⟨⟨hc, hs⟩, ?_⟩
  refine L_undo C G o  (N' := N + 97000) (by omega) (fun kr h1 e1 v g1 C1 C2 => ?_)
  have o1 := o.cg g1
  have sp1 := sp.cg g1
  have M1 := M.cg g1
  have ee := sp.eq sp1
  refine ⟨M1.k0, ?_⟩
  refine S_X7_undo M1 G.c (fun x2 h2 D2 s2 v2 w2 M2 => ⟨M2.k0, S_X7_thrown M2 (fun x3 e3 => ?_)⟩)
  have i2 : hi h2 139 0 = hi h1 139 0 := M2.sa.2.2.2 139 0 (by omega)
  have F2 : CP h1 D2 s2 (N + 97000) ∧ CD D2 s2 (N + 97000) := by
    by_cases tt : kr = 0
    · have tz := e1.symm.trans tt
      obtain ⟨_, y1, y2⟩ := v2 tz
      rw [y1, y2]
      exact ⟨(C1 tz).2.1, G.back (C1 tz).2.2.1 (C1 tz).2.2.2 (by have := G.c; have := (C1 tz).1; omega) (by omega) (by omega)⟩
    · have tz := fun z => tt (e1.trans z)
      obtain ⟨y1, y2⟩ := w2 tz
      rw [y1, y2]
      exact ⟨C2 tz, G.mono (by omega) (by omega)⟩
  exact law_cmp e1 e3 (tUn_ir D) (fun tt => ⟨⟨i2.trans (v tt).1, (v tt).2⟩, (v2 tt).1⟩) (M2.sa.os o1) (HK _ _ _ _ _ _ (LT.mk F2.1 F2.2 M2 o1 sp1) (by omega) (by omega))
set_option maxRecDepth 100000 in
theorem cl_save {L : Nat} {xs : Nat → Int32} {i N : Int} {h : PH} {c s : Nat} {z6 z7 z8 : Option PV} (Z : LT h L xs N) (hi0 : 0 ≤ i) (hL : i + 6 ≤ L) (hN : N + 97000 ≤ 99999999) (hc : c + 24 ≤ 601024) (hs : s + 1700 ≤ 7293034) (HK : HKL L xs i N c s) : WPL 3007 [some (pA 1), some (pA 64), some (pA 119), some (pA 139), some (pA 140), some (pI i), z6, z7, z8] [] h c s := by
  obtain ⟨D, sr, t, C, G, M, o, sp⟩ := Z
  refine WP.of (RUN.mono GQ _) (cuts := [28, 3007]) (n := 400) (v_L_law_3007 _ _ _ _ _ _ _ _ _ _ _ _ ?_)
  refine ⟨Or.inr sp.1, ⟨by omega, by rw [sp.2.1]; omega⟩, ⟨hc, hs⟩, ?_⟩
  refine L_save C G o (sp.ir _) (by omega) (N' := N + 97000) (by omega) (fun kr h1 e1 v g1 C1 C2 => ?_)
  have o1 := o.cg g1
  have sp1 := sp.cg g1
  have M1 := M.cg g1
  have ee := sp.eq sp1
  refine ⟨Or.inr sp1.1, ⟨by omega, by rw [sp1.2.1]; omega⟩, M1.k0, ?_⟩
  rw [ee]
  refine S_X7_save M1 G.W (sp.ir _) G.c (fun x2 h2 D2 s2 v2 w2 M2 => ⟨M2.k0, S_X7_thrown M2 (fun x3 e3 => ?_)⟩)
  have i2 : hi h2 139 0 = hi h1 139 0 := M2.sa.2.2.2 139 0 (by omega)
  have F2 : CP h1 D2 s2 (N + 97000) ∧ CD D2 s2 (N + 97000) := by
    by_cases tt : kr = 0
    · have tz := e1.symm.trans tt
      obtain ⟨_, y1, y2⟩ := v2 tz
      rw [y1, y2]
      exact ⟨C1 tz, G.save (by omega) (by omega)⟩
    · have tz := fun z => tt (e1.trans z)
      obtain ⟨y1, y2⟩ := w2 tz
      rw [y1, y2]
      exact ⟨C2 tz, G.mono (by omega) (by omega)⟩
  exact law_cmp e1 e3 ((ck_ir (tL_ir D) (ir (by omega) (by omega)))) (fun tt => ⟨⟨i2.trans (v tt).1, (v tt).2⟩, (v2 tt).1⟩) (M2.sa.os o1) (HK _ _ _ _ _ _ (LT.mk F2.1 F2.2 M2 o1 sp1) (by omega) (by omega))
set_option maxRecDepth 100000 in
theorem cl_restore {L : Nat} {xs : Nat → Int32} {i N : Int} {h : PH} {c s : Nat} {z6 z7 z8 : Option PV} (Z : LT h L xs N) (hi0 : 0 ≤ i) (hL : i + 6 ≤ L) (hN : N + 97000 ≤ 99999999) (hc : c + 24 ≤ 601024) (hs : s + 1700 ≤ 7293034) (HK : HKL L xs i N c s) : WPL 3063 [some (pA 1), some (pA 64), some (pA 119), some (pA 139), some (pA 140), some (pI i), z6, z7, z8] [] h c s := by
  obtain ⟨D, sr, t, C, G, M, o, sp⟩ := Z
  refine WP.of (RUN.mono GQ _) (cuts := [28, 3063]) (n := 400) (v_L_law_3063 _ _ _ _ _ _ _ _ _ _ _ _ ?_)
  refine ⟨Or.inr sp.1, ⟨by omega, by rw [sp.2.1]; omega⟩, ⟨hc, hs⟩, ?_⟩
  refine L_restore C G o (sp.ir _) (by omega) (N' := N + 97000) (by omega) (fun kr h1 e1 v g1 C1 C2 => ?_)
  have o1 := o.cg g1
  have sp1 := sp.cg g1
  have M1 := M.cg g1
  have ee := sp.eq sp1
  refine ⟨Or.inr sp1.1, ⟨by omega, by rw [sp1.2.1]; omega⟩, M1.k0, ?_⟩
  rw [ee]
  refine S_X7_restore M1 (sp.ir _) G.c G.f9 (fun x2 h2 D2 s2 v2 w2 M2 => ⟨M2.k0, S_X7_thrown M2 (fun x3 e3 => ?_)⟩)
  have i2 : hi h2 139 0 = hi h1 139 0 := M2.sa.2.2.2 139 0 (by omega)
  have F2 : CP h1 D2 s2 (N + 97000) ∧ CD D2 s2 (N + 97000) := by
    by_cases tt : kr = 0
    · have tz := e1.symm.trans tt
      obtain ⟨_, y1, y2⟩ := v2 tz
      rw [y1, y2]
      exact ⟨(C1 tz).1, G.back (C1 tz).2.1 (C1 tz).2.2 (by omega) (by omega) (by omega)⟩
    · have tz := fun z => tt (e1.trans z)
      obtain ⟨y1, y2⟩ := w2 tz
      rw [y1, y2]
      exact ⟨C2 tz, G.mono (by omega) (by omega)⟩
  exact law_cmp e1 e3 (tRs_ir D _) (fun tt => ⟨⟨i2.trans (v tt).1, (v tt).2⟩, (v2 tt).1⟩) (M2.sa.os o1) (HK _ _ _ _ _ _ (LT.mk F2.1 F2.2 M2 o1 sp1) (by omega) (by omega))
set_option maxRecDepth 100000 in
theorem cl_parseError {L : Nat} {xs : Nat → Int32} {i N : Int} {h : PH} {c s : Nat} {z6 z7 z8 : Option PV} (Z : LT h L xs N) (hi0 : 0 ≤ i) (hL : i + 6 ≤ L) (hN : N + 97000 ≤ 99999999) (hc : c + 24 ≤ 601024) (hs : s + 1700 ≤ 7293034) (HK : HKL L xs i N c s) : WPL 385 [some (pA 1), some (pA 64), some (pA 119), some (pA 139), some (pA 140), some (pI i), z6, z7, z8] [] h c s := by
  obtain ⟨D, sr, t, C, G, M, o, sp⟩ := Z
  refine WP.of (RUN.mono GQ _) (cuts := [28, 385]) (n := 400) (v_L_law_385 _ _ _ _ _ _ _ _ _ _ _ _ ?_)
  obtain ⟨B, A, B2, A2, nx, EP, E, Cx⟩ := id C
  refine ⟨Cx.2.1.k, S_X6_parseError Cx.2.1 (fun x1 e1 => ⟨M.k0, S_X7_parseError M (fun x2 h2 e2 M2 => ?_)⟩)⟩
  exact ⟨by rw [e1]; exact G.h18, by rw [e2]; exact G.h18, fun _ => HK _ _ _ _ _ _ (LT.mk (C.sc (fun r _ _ => SC.refl h r) (Nat.le_refl _) (by omega)) (G.mono (by omega) (by omega)) M2 o sp) (by omega) (by omega), fun y => absurd (e1.trans e2.symm) y⟩
set_option maxRecDepth 100000 in
theorem cl_errorPosition {L : Nat} {xs : Nat → Int32} {i N : Int} {h : PH} {c s : Nat} {z6 z7 z8 : Option PV} (Z : LT h L xs N) (hi0 : 0 ≤ i) (hL : i + 6 ≤ L) (hN : N + 97000 ≤ 99999999) (hc : c + 24 ≤ 601024) (hs : s + 1700 ≤ 7293034) (HK : HKL L xs i N c s) : WPL 398 [some (pA 1), some (pA 64), some (pA 119), some (pA 139), some (pA 140), some (pI i), z6, z7, z8] [] h c s := by
  obtain ⟨D, sr, t, C, G, M, o, sp⟩ := Z
  refine WP.of (RUN.mono GQ _) (cuts := [28, 398]) (n := 400) (v_L_law_398 _ _ _ _ _ _ _ _ _ _ _ _ ?_)
  obtain ⟨B, A, B2, A2, nx, EP, E, Cx⟩ := id C
  refine ⟨Cx.2.1.k, S_X6_errorPosition Cx.2.1 (fun x1 e1 => ⟨M.k0, S_X7_errorPosition M (fun x2 h2 e2 M2 => ?_)⟩)⟩
  exact ⟨by rw [e1]; exact G.h19, by rw [e2]; exact G.h19, fun _ => HK _ _ _ _ _ _ (LT.mk (C.sc (fun r _ _ => SC.refl h r) (Nat.le_refl _) (by omega)) (G.mono (by omega) (by omega)) M2 o sp) (by omega) (by omega), fun y => absurd (e1.trans e2.symm) y⟩
set_option maxRecDepth 100000 in
theorem cl_buffered {L : Nat} {xs : Nat → Int32} {i N : Int} {h : PH} {c s : Nat} {z6 z7 z8 : Option PV} (Z : LT h L xs N) (hi0 : 0 ≤ i) (hL : i + 6 ≤ L) (hN : N + 97000 ≤ 99999999) (hc : c + 24 ≤ 601024) (hs : s + 1700 ≤ 7293034) (HK : HKL L xs i N c s) : WPL 411 [some (pA 1), some (pA 64), some (pA 119), some (pA 139), some (pA 140), some (pI i), z6, z7, z8] [] h c s := by
  obtain ⟨D, sr, t, C, G, M, o, sp⟩ := Z
  refine WP.of (RUN.mono GQ _) (cuts := [28, 411]) (n := 400) (v_L_law_411 _ _ _ _ _ _ _ _ _ _ _ _ ?_)
  obtain ⟨B, A, B2, A2, nx, EP, E, Cx⟩ := id C
  refine ⟨Cx.2.1.k, S_X6_buffered Cx.2.1 (fun x1 e1 => ⟨M.k0, S_X7_buffered M (fun x2 h2 e2 M2 => ?_)⟩)⟩
  exact ⟨by rw [e1]; exact (ir (by have := G.h17; omega) (by have := G.h17; omega)), by rw [e2]; exact (ir (by have := G.h17; omega) (by have := G.h17; omega)), fun _ => HK _ _ _ _ _ _ (LT.mk (C.sc (fun r _ _ => SC.refl h r) (Nat.le_refl _) (by omega)) (G.mono (by omega) (by omega)) M2 o sp) (by omega) (by omega), fun y => absurd (e1.trans e2.symm) y⟩
set_option maxRecDepth 100000 in
theorem cl_undoable {L : Nat} {xs : Nat → Int32} {i N : Int} {h : PH} {c s : Nat} {z6 z7 z8 : Option PV} (Z : LT h L xs N) (hi0 : 0 ≤ i) (hL : i + 6 ≤ L) (hN : N + 97000 ≤ 99999999) (hc : c + 24 ≤ 601024) (hs : s + 1700 ≤ 7293034) (HK : HKL L xs i N c s) : WPL 2994 [some (pA 1), some (pA 64), some (pA 119), some (pA 139), some (pA 140), some (pI i), z6, z7, z8] [] h c s := by
  obtain ⟨D, sr, t, C, G, M, o, sp⟩ := Z
  refine WP.of (RUN.mono GQ _) (cuts := [28, 2994]) (n := 400) (v_L_law_2994 _ _ _ _ _ _ _ _ _ _ _ _ ?_)
  obtain ⟨B, A, B2, A2, nx, EP, E, Cx⟩ := id C
  refine ⟨Cx.2.1.k, S_X6_undoable Cx.2.1 Cx.2.2.2.2.2.2.1 (fun x1 e1 => ⟨M.k0, S_X7_undoable M (fun x2 h2 e2 M2 => ?_)⟩)⟩
  exact ⟨by rw [e1]; exact (ir (by have := G.c; omega) (by have := G.c; omega)), by rw [e2]; exact (ir (by have := G.c; omega) (by have := G.c; omega)), fun _ => HK _ _ _ _ _ _ (LT.mk (C.sc (fun r _ _ => SC.refl h r) (Nat.le_refl _) (by omega)) (G.mono (by omega) (by omega)) M2 o sp) (by omega) (by omega), fun y => absurd (e1.trans e2.symm) y⟩
set_option maxRecDepth 100000 in
theorem cl_load {L : Nat} {xs : Nat → Int32} {i N : Int} {h : PH} {c s : Nat} {z6 z7 z8 : Option PV} (Z : LT h L xs N) (hi0 : 0 ≤ i) (hL : i + 6 ≤ L) (hN : N + 97000 ≤ 99999999) (hc : c + 24 ≤ 601024) (hs : s + 1700 ≤ 7293034) (HK : HKL L xs i N c s) : WPL 329 [some (pA 1), some (pA 64), some (pA 119), some (pA 139), some (pA 140), some (pI i), z6, z7, z8] [] h c s := by
  obtain ⟨D, sr, t, C, G, M, o, sp⟩ := Z
  refine WP.of (RUN.mono GQ _) (cuts := [28, 329]) (n := 400) (v_L_law_329 _ _ _ _ _ _ _ _ _ _ _ _ ?_)
  refine ⟨Or.inr sp.1, ⟨by omega, by rw [sp.2.1]; omega⟩, ⟨hc, hs⟩, ?_⟩
  have W0 := C.wr
  refine L_load C G o (sp.ir _) (N' := N + 97000) (by omega) (fun kr h1 e1 v g1 Ca Cb Cc => ?_)
  have o1 := o.cg g1
  have sp1 := sp.cg g1
  have M1 := M.cg g1
  have ee := sp.eq sp1
  have W1 : WRD h1 := W0.sc (fun r a b => g1.2.1 r (by omega) (by omega) (by omega) (by omega))
  refine ⟨Or.inr sp1.1, ⟨by omega, by rw [sp1.2.1]; omega⟩, M1.k0, ?_⟩
  rw [ee]
  have key := tLd_or D (hi h 1 (Int.toNat (i + 1)))
  refine S_X7_load M1 (sp.ir _) G.h17 G.B G.n11 G.n12 G.k (by rw [G.sw]; exact ir (by omega) (by omega)) G.s2 W1 (by decide) (fun x2 h2 D2 s2 T2 q1 q2 q3 M2 => ⟨M2.k0, S_X7_thrown M2 (fun x3 e3 => ?_)⟩)
  have i2 : hi h2 139 0 = hi h1 139 0 := M2.sa.2.2.2 139 0 (by omega)
  have F2 : T2 = tLd D (hi h 1 (Int.toNat (i + 1))) ∧ (CP h1 D2 s2 (N + 97000) ∧ CD D2 s2 (N + 97000)) ∧ (tLd D (hi h 1 (Int.toNat (i + 1))) = 0 → x2 = ldO D (hi h 1 (Int.toNat (i + 1))) 0 4) := by
    rcases key with ⟨k1, k2, k3⟩ | ⟨k1, k2⟩ | ⟨k1, k2, k3⟩
    · obtain ⟨y1, y2, y3, y4⟩ := q3 k2 k3
      rw [y3, y4]
      exact ⟨y1.trans k1.symm, ⟨Ca k1, G.lO k2 k3 (by omega) (by have := G.W.2.2.2.2.1; omega) (by omega)⟩, fun _ => y2⟩
    · obtain ⟨y1, y2, y3⟩ := q1 k2
      rw [y2, y3]
      exact ⟨y1.trans k1.symm, ⟨Cb k1, G.mono (by omega) (by omega)⟩, fun y => absurd y (by omega)⟩
    · obtain ⟨y1, y2, y3⟩ := q2 k2 k3
      rw [y2, y3]
      exact ⟨y1.trans k1.symm, ⟨Cc k1, (G.lE k2 k3).mono (by omega) (by omega)⟩, fun y => absurd y (by omega)⟩
  obtain ⟨f1, f2, f3⟩ := F2
  exact law_cmp e1 (e3.trans f1) (tLd_ir D _) (fun tt => ⟨⟨i2.trans (v tt).1, (v tt).2⟩, f3 tt⟩) (M2.sa.os o1) (HK _ _ _ _ _ _ (LT.mk f2.1 f2.2 M2 o1 sp1) (by omega) (by omega))
