/-! the model asked: queues, stacks, ends (written by wip/whole/tools/eng.py) -/
section VCS
variable {call : PC} {mc ms fr : Nat} {Q : Int → PH → Prop} {X : Nat → PH → Prop} {K : PK}
set_option maxRecDepth 100000 in
theorem v_X7_queue_0 (a0 : Nat) (i1 : Int) (i2 : Int) (i3 : Int) (h : PH) (c s : Nat) (H : hk h a0 = 8 ∧ call m_X7_noProgram [pA a0, pI i1] h (fun x1 h1 =>
 InR x1 ∧ (x1 = 0 →
 hk h1 a0 = 8 ∧ (hk h1 (hr h1 a0 11) = 20 ∨ hk h1 (hr h1 a0 11) = 26) ∧ (0 ≤ (115 + i1) ∧ (115 + i1) < (hl h1 (hr h1 a0 11) : Int)) ∧ call m_X7_in [pI i2, pI 0, pI ((hi h1 (hr h1 a0 11) (Int.toNat ((115 + i1)))) - 1)] h1 (fun x2 h2 =>
 InR x2 ∧ (x2 = 0 →
 hk h2 a0 = 8 ∧ call m_X7_refuse [pA a0, pI 1, pI 2] h2 (fun x3 h3 =>
 InR x3 ∧ (x3 = 0 →
 call m_X7_in [pI i3, pI 0, pI 4] h3 (fun x4 h4 =>
 InR x4 ∧ (x4 = 0 →
 hk h4 a0 = 8 ∧ call m_X7_refuse [pA a0, pI 1, pI 3] h4 (fun x5 h5 =>
 InR x5 ∧ (x5 = 0 →
 hk h5 a0 = 8 ∧ call m_X7_placeOf [pA a0, pI i1, pI i2] h5 (fun x6 h6 =>
 hk h6 a0 = 8 ∧ call m_X7_inQueue [pA a0, pI i1, pI x6, pI i3] h6 (fun x7 h7 =>
 Q x7 h7) X) X) ∧
(x5 ≠ 0 →
 Q 0 h5)) X) ∧
(x4 ≠ 0 →
 hk h4 a0 = 8 ∧ call m_X7_refuse [pA a0, pI 0, pI 3] h4 (fun x8 h8 =>
 InR x8 ∧ (x8 = 0 →
 hk h8 a0 = 8 ∧ call m_X7_placeOf [pA a0, pI i1, pI i2] h8 (fun x9 h9 =>
 hk h9 a0 = 8 ∧ call m_X7_inQueue [pA a0, pI i1, pI x9, pI i3] h9 (fun x10 h10 =>
 Q x10 h10) X) X) ∧
(x8 ≠ 0 →
 Q 0 h8)) X)) X) ∧
(x3 ≠ 0 →
 Q 0 h3)) X) ∧
(x2 ≠ 0 →
 hk h2 a0 = 8 ∧ call m_X7_refuse [pA a0, pI 0, pI 2] h2 (fun x11 h11 =>
 InR x11 ∧ (x11 = 0 →
 call m_X7_in [pI i3, pI 0, pI 4] h11 (fun x12 h12 =>
 InR x12 ∧ (x12 = 0 →
 hk h12 a0 = 8 ∧ call m_X7_refuse [pA a0, pI 1, pI 3] h12 (fun x13 h13 =>
 InR x13 ∧ (x13 = 0 →
 hk h13 a0 = 8 ∧ call m_X7_placeOf [pA a0, pI i1, pI i2] h13 (fun x14 h14 =>
 hk h14 a0 = 8 ∧ call m_X7_inQueue [pA a0, pI i1, pI x14, pI i3] h14 (fun x15 h15 =>
 Q x15 h15) X) X) ∧
(x13 ≠ 0 →
 Q 0 h13)) X) ∧
(x12 ≠ 0 →
 hk h12 a0 = 8 ∧ call m_X7_refuse [pA a0, pI 0, pI 3] h12 (fun x16 h16 =>
 InR x16 ∧ (x16 = 0 →
 hk h16 a0 = 8 ∧ call m_X7_placeOf [pA a0, pI i1, pI i2] h16 (fun x17 h17 =>
 hk h17 a0 = 8 ∧ call m_X7_inQueue [pA a0, pI i1, pI x17, pI i3] h17 (fun x18 h18 =>
 Q x18 h18) X) X) ∧
(x16 ≠ 0 →
 Q 0 h16)) X)) X) ∧
(x11 ≠ 0 →
 Q 0 h11)) X)) X) ∧
(x1 ≠ 0 →
 Q 0 h1)) X) : wpc k_X7_queue [] call mc ms fr Q X [] K 400 (pto 0 k_X7_queue) [some (pA a0), some (pI i1), some (pI i2), some (pI i3)] [] h c s :=
  H
set_option maxRecDepth 100000 in
theorem v_X7_running_0 (a0 : Nat) (i1 : Int) (i2 : Int) (i3 : Int) (h : PH) (c s : Nat) (H : hk h a0 = 8 ∧ call m_X7_noProgram [pA a0, pI i1] h (fun x1 h1 =>
 InR x1 ∧ (x1 = 0 →
 hk h1 a0 = 8 ∧ (hk h1 (hr h1 a0 11) = 20 ∨ hk h1 (hr h1 a0 11) = 26) ∧ (0 ≤ (511 + i1) ∧ (511 + i1) < (hl h1 (hr h1 a0 11) : Int)) ∧ call m_X7_in [pI i2, pI 0, pI ((hi h1 (hr h1 a0 11) (Int.toNat ((511 + i1)))) - 1)] h1 (fun x2 h2 =>
 InR x2 ∧ (x2 = 0 →
 hk h2 a0 = 8 ∧ call m_X7_refuse [pA a0, pI 1, pI 2] h2 (fun x3 h3 =>
 InR x3 ∧ (x3 = 0 →
 call m_X7_in [pI i3, pI 0, pI 4] h3 (fun x4 h4 =>
 InR x4 ∧ (x4 = 0 →
 hk h4 a0 = 8 ∧ call m_X7_refuse [pA a0, pI 1, pI 3] h4 (fun x5 h5 =>
 InR x5 ∧ (x5 = 0 →
 hk h5 a0 = 8 ∧ (hk h5 (hr h5 a0 11) = 20 ∨ hk h5 (hr h5 a0 11) = 26) ∧ (0 ≤ (511 + i1) ∧ (511 + i1) < (hl h5 (hr h5 a0 11) : Int)) ∧ hk h5 a0 = 8 ∧ call m_X7_onStack [pA a0, pI i1, pI (((hi h5 (hr h5 a0 11) (Int.toNat ((511 + i1)))) - 1) - i2), pI i3] h5 (fun x6 h6 =>
 Q x6 h6) X) ∧
(x5 ≠ 0 →
 Q 0 h5)) X) ∧
(x4 ≠ 0 →
 hk h4 a0 = 8 ∧ call m_X7_refuse [pA a0, pI 0, pI 3] h4 (fun x7 h7 =>
 InR x7 ∧ (x7 = 0 →
 hk h7 a0 = 8 ∧ (hk h7 (hr h7 a0 11) = 20 ∨ hk h7 (hr h7 a0 11) = 26) ∧ (0 ≤ (511 + i1) ∧ (511 + i1) < (hl h7 (hr h7 a0 11) : Int)) ∧ hk h7 a0 = 8 ∧ call m_X7_onStack [pA a0, pI i1, pI (((hi h7 (hr h7 a0 11) (Int.toNat ((511 + i1)))) - 1) - i2), pI i3] h7 (fun x8 h8 =>
 Q x8 h8) X) ∧
(x7 ≠ 0 →
 Q 0 h7)) X)) X) ∧
(x3 ≠ 0 →
 Q 0 h3)) X) ∧
(x2 ≠ 0 →
 hk h2 a0 = 8 ∧ call m_X7_refuse [pA a0, pI 0, pI 2] h2 (fun x9 h9 =>
 InR x9 ∧ (x9 = 0 →
 call m_X7_in [pI i3, pI 0, pI 4] h9 (fun x10 h10 =>
 InR x10 ∧ (x10 = 0 →
 hk h10 a0 = 8 ∧ call m_X7_refuse [pA a0, pI 1, pI 3] h10 (fun x11 h11 =>
 InR x11 ∧ (x11 = 0 →
 hk h11 a0 = 8 ∧ (hk h11 (hr h11 a0 11) = 20 ∨ hk h11 (hr h11 a0 11) = 26) ∧ (0 ≤ (511 + i1) ∧ (511 + i1) < (hl h11 (hr h11 a0 11) : Int)) ∧ hk h11 a0 = 8 ∧ call m_X7_onStack [pA a0, pI i1, pI (((hi h11 (hr h11 a0 11) (Int.toNat ((511 + i1)))) - 1) - i2), pI i3] h11 (fun x12 h12 =>
 Q x12 h12) X) ∧
(x11 ≠ 0 →
 Q 0 h11)) X) ∧
(x10 ≠ 0 →
 hk h10 a0 = 8 ∧ call m_X7_refuse [pA a0, pI 0, pI 3] h10 (fun x13 h13 =>
 InR x13 ∧ (x13 = 0 →
 hk h13 a0 = 8 ∧ (hk h13 (hr h13 a0 11) = 20 ∨ hk h13 (hr h13 a0 11) = 26) ∧ (0 ≤ (511 + i1) ∧ (511 + i1) < (hl h13 (hr h13 a0 11) : Int)) ∧ hk h13 a0 = 8 ∧ call m_X7_onStack [pA a0, pI i1, pI (((hi h13 (hr h13 a0 11) (Int.toNat ((511 + i1)))) - 1) - i2), pI i3] h13 (fun x14 h14 =>
 Q x14 h14) X) ∧
(x13 ≠ 0 →
 Q 0 h13)) X)) X) ∧
(x9 ≠ 0 →
 Q 0 h9)) X)) X) ∧
(x1 ≠ 0 →
 Q 0 h1)) X) : wpc k_X7_running [] call mc ms fr Q X [] K 400 (pto 0 k_X7_running) [some (pA a0), some (pI i1), some (pI i2), some (pI i3)] [] h c s :=
  H
set_option maxRecDepth 100000 in
theorem v_X7_ofEnd_0 (a0 : Nat) (i1 : Int) (i2 : Int) (h : PH) (c s : Nat) (H : hk h a0 = 8 ∧ hk h a0 = 8 ∧ (hk h (hr h a0 11) = 20 ∨ hk h (hr h a0 11) = 26) ∧ (0 ≤ (2 : Int) ∧ (2 : Int) < (hl h (hr h a0 11) : Int)) ∧ InR (((hi h (hr h a0 11) (Int.toNat (2 : Int))) - 1) - i1) ∧ InR 40 ∧ (40 : Int) ≠ 0 ∧ (hk h (hr h a0 11) = 20 ∨ hk h (hr h a0 11) = 26) ∧ (0 ≤ ((661 + (5 * (Int.tmod (((hi h (hr h a0 11) (Int.toNat (2 : Int))) - 1) - i1) 40))) + i2) ∧ ((661 + (5 * (Int.tmod (((hi h (hr h a0 11) (Int.toNat (2 : Int))) - 1) - i1) 40))) + i2) < (hl h (hr h a0 11) : Int)) ∧ Q (hi h (hr h a0 11) (Int.toNat (((661 + (5 * (Int.tmod (((hi h (hr h a0 11) (Int.toNat (2 : Int))) - 1) - i1) 40))) + i2)))) h) : wpc k_X7_ofEnd [] call mc ms fr Q X [] K 400 (pto 0 k_X7_ofEnd) [some (pA a0), some (pI i1), some (pI i2)] [] h c s :=
  H
set_option maxRecDepth 100000 in
theorem v_X7_end_0 (a0 : Nat) (i1 : Int) (i2 : Int) (h : PH) (c s : Nat) (H : hk h a0 = 8 ∧ call m_X7_notLoaded [pA a0] h (fun x1 h1 =>
 InR x1 ∧ (x1 = 0 →
 hk h1 a0 = 8 ∧ call m_X7_toldEnds [pA a0] h1 (fun x2 h2 =>
 call m_X7_in [pI i1, pI 0, pI (x2 - 1)] h2 (fun x3 h3 =>
 InR x3 ∧ (x3 = 0 →
 hk h3 a0 = 8 ∧ call m_X7_refuse [pA a0, pI 1, pI 2] h3 (fun x4 h4 =>
 InR x4 ∧ (x4 = 0 →
 call m_X7_in [pI i2, pI 0, pI 4] h4 (fun x5 h5 =>
 InR x5 ∧ (x5 = 0 →
 hk h5 a0 = 8 ∧ call m_X7_refuse [pA a0, pI 1, pI 3] h5 (fun x6 h6 =>
 InR x6 ∧ (x6 = 0 →
 hk h6 a0 = 8 ∧ call m_X7_ofEnd [pA a0, pI i1, pI i2] h6 (fun x7 h7 =>
 Q x7 h7) X) ∧
(x6 ≠ 0 →
 Q 0 h6)) X) ∧
(x5 ≠ 0 →
 hk h5 a0 = 8 ∧ call m_X7_refuse [pA a0, pI 0, pI 3] h5 (fun x8 h8 =>
 InR x8 ∧ (x8 = 0 →
 hk h8 a0 = 8 ∧ call m_X7_ofEnd [pA a0, pI i1, pI i2] h8 (fun x9 h9 =>
 Q x9 h9) X) ∧
(x8 ≠ 0 →
 Q 0 h8)) X)) X) ∧
(x4 ≠ 0 →
 Q 0 h4)) X) ∧
(x3 ≠ 0 →
 hk h3 a0 = 8 ∧ call m_X7_refuse [pA a0, pI 0, pI 2] h3 (fun x10 h10 =>
 InR x10 ∧ (x10 = 0 →
 call m_X7_in [pI i2, pI 0, pI 4] h10 (fun x11 h11 =>
 InR x11 ∧ (x11 = 0 →
 hk h11 a0 = 8 ∧ call m_X7_refuse [pA a0, pI 1, pI 3] h11 (fun x12 h12 =>
 InR x12 ∧ (x12 = 0 →
 hk h12 a0 = 8 ∧ call m_X7_ofEnd [pA a0, pI i1, pI i2] h12 (fun x13 h13 =>
 Q x13 h13) X) ∧
(x12 ≠ 0 →
 Q 0 h12)) X) ∧
(x11 ≠ 0 →
 hk h11 a0 = 8 ∧ call m_X7_refuse [pA a0, pI 0, pI 3] h11 (fun x14 h14 =>
 InR x14 ∧ (x14 = 0 →
 hk h14 a0 = 8 ∧ call m_X7_ofEnd [pA a0, pI i1, pI i2] h14 (fun x15 h15 =>
 Q x15 h15) X) ∧
(x14 ≠ 0 →
 Q 0 h14)) X)) X) ∧
(x10 ≠ 0 →
 Q 0 h10)) X)) X) X) ∧
(x1 ≠ 0 →
 Q 0 h1)) X) : wpc k_X7_end [] call mc ms fr Q X [] K 400 (pto 0 k_X7_end) [some (pA a0), some (pI i1), some (pI i2)] [] h c s :=
  H
set_option maxRecDepth 100000 in
theorem v_X7_queuedAt_0 (a0 : Nat) (i1 : Int) (i2 : Int) (z3 : Option PV) (h : PH) (c s : Nat) (H : K 2 [some (pA a0), some (pI i1), some (pI i2), some (pI 0)] [] h c s) : wpc k_X7_queuedAt [] call mc ms fr Q X [2] K 400 (pto 0 k_X7_queuedAt) [some (pA a0), some (pI i1), some (pI i2), z3] [] h c s :=
  H
set_option maxRecDepth 100000 in
theorem v_X7_queuedAt_2 (a0 : Nat) (i1 : Int) (i2 : Int) (i3 : Int) (h : PH) (c s : Nat) (H : hk h a0 = 8 ∧ (hk h (hr h a0 11) = 20 ∨ hk h (hr h a0 11) = 26) ∧ (0 ≤ (115 + i1) ∧ (115 + i1) < (hl h (hr h a0 11) : Int)) ∧ InR i3 ∧ InR (hi h (hr h a0 11) (Int.toNat ((115 + i1)))) ∧ (i3 < (hi h (hr h a0 11) (Int.toNat ((115 + i1)))) →
 hk h a0 = 8 ∧ call m_X7_inQueue [pA a0, pI i1, pI i3, pI 0] h (fun x1 h1 =>
 InR x1 ∧ InR i2 ∧ (x1 = i2 →
 Q i3 h1) ∧
(x1 ≠ i2 →
 K 2 [some (pA a0), some (pI i1), some (pI i2), some (pI (i3 + 1))] [] h1 c s)) X) ∧
((hi h (hr h a0 11) (Int.toNat ((115 + i1)))) ≤ i3 →
 Q ((-1)) h)) : wpc k_X7_queuedAt [] call mc ms fr Q X [2] K 400 (pto 2 k_X7_queuedAt) [some (pA a0), some (pI i1), some (pI i2), some (pI i3)] [] h c s :=
  H
set_option maxRecDepth 100000 in
theorem v_X7_stackedAt_0 (a0 : Nat) (i1 : Int) (i2 : Int) (z3 : Option PV) (h : PH) (c s : Nat) (H : K 2 [some (pA a0), some (pI i1), some (pI i2), some (pI 0)] [] h c s) : wpc k_X7_stackedAt [] call mc ms fr Q X [2] K 400 (pto 0 k_X7_stackedAt) [some (pA a0), some (pI i1), some (pI i2), z3] [] h c s :=
  H
set_option maxRecDepth 100000 in
theorem v_X7_stackedAt_2 (a0 : Nat) (i1 : Int) (i2 : Int) (i3 : Int) (h : PH) (c s : Nat) (H : hk h a0 = 8 ∧ (hk h (hr h a0 11) = 20 ∨ hk h (hr h a0 11) = 26) ∧ (0 ≤ (511 + i1) ∧ (511 + i1) < (hl h (hr h a0 11) : Int)) ∧ InR i3 ∧ InR (hi h (hr h a0 11) (Int.toNat ((511 + i1)))) ∧ (i3 < (hi h (hr h a0 11) (Int.toNat ((511 + i1)))) →
 hk h a0 = 8 ∧ call m_X7_onStack [pA a0, pI i1, pI i3, pI 0] h (fun x1 h1 =>
 InR x1 ∧ InR i2 ∧ (x1 = i2 →
 Q i3 h1) ∧
(x1 ≠ i2 →
 K 2 [some (pA a0), some (pI i1), some (pI i2), some (pI (i3 + 1))] [] h1 c s)) X) ∧
((hi h (hr h a0 11) (Int.toNat ((511 + i1)))) ≤ i3 →
 Q ((-1)) h)) : wpc k_X7_stackedAt [] call mc ms fr Q X [2] K 400 (pto 2 k_X7_stackedAt) [some (pA a0), some (pI i1), some (pI i2), some (pI i3)] [] h c s :=
  H
set_option maxRecDepth 100000 in
theorem v_X7_placeNow_0 (a0 : Nat) (i1 : Int) (z2 : Option PV) (h : PH) (c s : Nat) (H : K 2 [some (pA a0), some (pI i1), some (pI 0)] [] h c s) : wpc k_X7_placeNow [] call mc ms fr Q X [2] K 400 (pto 0 k_X7_placeNow) [some (pA a0), some (pI i1), z2] [] h c s :=
  H
set_option maxRecDepth 100000 in
theorem v_X7_placeNow_2 (a0 : Nat) (i1 : Int) (i2 : Int) (h : PH) (c s : Nat) (H : hk h a0 = 8 ∧ InR i2 ∧ InR (hi h a0 4) ∧ (i2 < (hi h a0 4) →
 hk h a0 = 8 ∧ call m_X7_queuedAt [pA a0, pI i2, pI i1] h (fun x1 h1 =>
 InR x1 ∧ InR ((-1)) ∧ (x1 = ((-1)) →
 hk h1 a0 = 8 ∧ call m_X7_stackedAt [pA a0, pI i2, pI i1] h1 (fun x2 h2 =>
 InR x2 ∧ InR ((-1)) ∧ (x2 = ((-1)) →
 K 2 [some (pA a0), some (pI i1), some (pI (i2 + 1))] [] h2 c s) ∧
(x2 ≠ ((-1)) →
 Q (10 + i2) h2)) X) ∧
(x1 ≠ ((-1)) →
 Q i2 h1)) X) ∧
((hi h a0 4) ≤ i2 →
 Q ((-1)) h)) : wpc k_X7_placeNow [] call mc ms fr Q X [2] K 400 (pto 2 k_X7_placeNow) [some (pA a0), some (pI i1), some (pI i2)] [] h c s :=
  H
set_option maxRecDepth 100000 in
theorem v_X7_whereIs_0 (a0 : Nat) (i1 : Int) (z2 : Option PV) (z3 : Option PV) (h : PH) (c s : Nat) (H : hk h a0 = 8 ∧ call m_X7_noSignal [pA a0, pI i1] h (fun x1 h1 =>
 InR x1 ∧ (x1 = 0 →
 hk h1 a0 = 8 ∧ call m_X7_placeNow [pA a0, pI i1] h1 (fun x2 h2 =>
 K 18 [some (pA a0), some (pI i1), some (pI x2), some (pI 0)] [] h2 c s) X) ∧
(x1 ≠ 0 →
 Q 0 h1)) X) : wpc k_X7_whereIs [] call mc ms fr Q X [18] K 400 (pto 0 k_X7_whereIs) [some (pA a0), some (pI i1), z2, z3] [] h c s :=
  H
set_option maxRecDepth 100000 in
theorem v_X7_whereIs_18 (a0 : Nat) (i1 : Int) (i2 : Int) (i3 : Int) (h : PH) (c s : Nat) (H : hk h a0 = 8 ∧ call m_X7_toldEnds [pA a0] h (fun x1 h1 =>
 InR i3 ∧ InR x1 ∧ (i3 < x1 →
 InR i2 ∧ InR ((-1)) ∧ (i2 = ((-1)) →
 hk h1 a0 = 8 ∧ call m_X7_ofEnd [pA a0, pI i3, pI 0] h1 (fun x2 h2 =>
 InR x2 ∧ InR i1 ∧ (x2 = i1 →
 hk h2 a0 = 8 ∧ call m_X7_ofEnd [pA a0, pI i3, pI 1] h2 (fun x3 h3 =>
 K 18 [some (pA a0), some (pI i1), some (pI (20 + x3)), some (pI (i3 + 1))] [] h3 c s) X) ∧
(x2 ≠ i1 →
 K 18 [some (pA a0), some (pI i1), some (pI ((-1))), some (pI (i3 + 1))] [] h2 c s)) X) ∧
(i2 ≠ ((-1)) →
 Q i2 h1)) ∧
(x1 ≤ i3 →
 Q i2 h1)) X) : wpc k_X7_whereIs [] call mc ms fr Q X [18] K 400 (pto 18 k_X7_whereIs) [some (pA a0), some (pI i1), some (pI i2), some (pI i3)] [] h c s :=
  H
set_option maxRecDepth 100000 in
theorem v_X7_next_0 (a0 : Nat) (i1 : Int) (z2 : Option PV) (h : PH) (c s : Nat) (H : hk h a0 = 8 ∧ call m_X7_noProgram [pA a0, pI i1] h (fun x1 h1 =>
 InR x1 ∧ (x1 = 0 →
 hk h1 a0 = 8 ∧ call m_X7_nextOf [pA a0, pI i1] h1 (fun x2 h2 =>
 InR x2 ∧ InR ((-1)) ∧ (x2 = ((-1)) →
 Q ((-1)) h2) ∧
(x2 ≠ ((-1)) →
 hk h2 a0 = 8 ∧ call m_X7_inQueue [pA a0, pI i1, pI x2, pI 0] h2 (fun x3 h3 =>
 Q x3 h3) X)) X) ∧
(x1 ≠ 0 →
 Q 0 h1)) X) : wpc k_X7_next [] call mc ms fr Q X [] K 400 (pto 0 k_X7_next) [some (pA a0), some (pI i1), z2] [] h c s :=
  H
end VCS
theorem S_X7_queue {d b : Nat} {h0 h : PH} {D : Nat → Int → Int} {s : Int → Int} {t : Int} {Q : Int → PH → Prop} {X : Nat → PH → Prop} {N : Int} {p i w : Int} (M : Mt b h0 h D s t) (W : WD D s N) (hvp : InR p) (hvi : InR i) (hvw : InR w) (H : ∀ (x : Int) h', (ck (ck (ck (tL D) p 0 (D 0 4 - 1) 2) i 0 (s (115 + p) - 1) 2) w 0 (4) 3 = 0 → x = qv s p (plc s p i) w) → Mt b h0 h' D s (ck (ck (ck (tL D) p 0 (D 0 4 - 1) 2) i 0 (s (115 + p) - 1) 2) w 0 (4) 3) → Q x h') : RUN GQ (d + 5) m_X7_queue [pA b, pI p, pI i, pI w] h Q X := by
  obtain ⟨w1, w2, w3, wN, ws1, wI⟩ := id W
  have kL := tL_or D
  have k1 := ck_or (tL D) p 0 (D 0 4 - 1) 2
  have k2 := ck_or (ck (tL D) p 0 (D 0 4 - 1) 2) i 0 (s (115 + p) - 1) 2
  have k3 := ck_or (ck (ck (tL D) p 0 (D 0 4 - 1) 2) i 0 (s (115 + p) - 1) 2) w 0 (4) 3
  rw [e_X7_queue]
  refine WP.of (RUN.mono GQ _) (cuts := []) (n := 400) (v_X7_queue_0 _ _ _ _ _ _ _ ?_)
  refine ⟨M.k0, ?_⟩
  refine S_X7_noProgram M W (by omega) (fun x2 h2 e2 M2 => ?_)
  refine ⟨ir (by omega) (by omega), fun c5 => ?_, fun c5 => ?_⟩
  · obtain ⟨I, V, sw⟩ := wI (by omega)
    obtain ⟨v2, v3, v4, vh⟩ := id V
    have hp6 : 0 ≤ p ∧ p < 6 := by omega
    have qn := I.qn hp6
    have q13 := I.hq.1
    have sn := I.sn hp6
    refine ⟨M2.k0, ?_⟩
    try rw [M2.r11]
    refine M2.ld6 (by omega) (by omega) (fun er => ?_)
    try rw [er]
    clear er
    refine S_X7_inB (by omega) (by omega) (by omega) (fun x22 e22 => ?_)
    refine ⟨ir (by omega) (by omega), fun c25 => ?_, fun c25 => ?_⟩
    · refine ⟨M2.k0, ?_⟩
      refine S_X7_refuse M2 (by omega) (by omega) (by omega) (fun x34 h34 t34 e34 M34 => ?_)
      refine ⟨ir (by omega) (by omega), fun c37 => ?_, fun c37 => ?_⟩
      · refine S_X7_inB (by omega) (by omega) (by omega) (fun x44 e44 => ?_)
        refine ⟨ir (by omega) (by omega), fun c47 => ?_, fun c47 => ?_⟩
        · refine ⟨M34.k0, ?_⟩
          refine S_X7_refuse M34 (by omega) (by omega) (by omega) (fun x56 h56 t56 e56 M56 => ?_)
          refine ⟨ir (by omega) (by omega), fun c59 => ?_, fun c59 => ?_⟩
          · obtain ⟨I, V, sw⟩ := wI (by omega)
            obtain ⟨v2, v3, v4, vh⟩ := id V
            have hp6 : 0 ≤ p ∧ p < 6 := by omega
            have qn := I.qn hp6
            have q13 := I.hq.1
            have sn := I.sn hp6
            have pl := plc_spec (s := s) (p := p) (x := i) ⟨by omega, by omega⟩
            refine ⟨M56.k0, ?_⟩
            refine S_X7_placeOf M56 I v3 (by omega) (by omega) (by omega) (fun x69 e69 => ?_)
            subst e69
            refine ⟨M56.k0, ?_⟩
            refine S_X7_inQueue M56 (by omega) (by omega) (by omega) (fun x73 e73 => ?_)
            subst e73
            refine H _ _ (fun hT => ?_) (M56.castT (by omega))
            first
            | (exfalso; omega)
            | (first | rfl | assumption)
          · refine H _ _ (fun hT => ?_) (M56.castT (by omega))
            first
            | (exfalso; omega)
            | (first | rfl | assumption)
        · refine ⟨M34.k0, ?_⟩
          refine S_X7_refuse M34 (by omega) (by omega) (by omega) (fun x56 h56 t56 e56 M56 => ?_)
          refine ⟨ir (by omega) (by omega), fun c59 => ?_, fun c59 => ?_⟩
          · obtain ⟨I, V, sw⟩ := wI (by omega)
            obtain ⟨v2, v3, v4, vh⟩ := id V
            have hp6 : 0 ≤ p ∧ p < 6 := by omega
            have qn := I.qn hp6
            have q13 := I.hq.1
            have sn := I.sn hp6
            have pl := plc_spec (s := s) (p := p) (x := i) ⟨by omega, by omega⟩
            refine ⟨M56.k0, ?_⟩
            refine S_X7_placeOf M56 I v3 (by omega) (by omega) (by omega) (fun x69 e69 => ?_)
            subst e69
            refine ⟨M56.k0, ?_⟩
            refine S_X7_inQueue M56 (by omega) (by omega) (by omega) (fun x73 e73 => ?_)
            subst e73
            refine H _ _ (fun hT => ?_) (M56.castT (by omega))
            first
            | (exfalso; omega)
            | (first | rfl | assumption)
          · refine H _ _ (fun hT => ?_) (M56.castT (by omega))
            first
            | (exfalso; omega)
            | (first | rfl | assumption)
      · refine H _ _ (fun hT => ?_) (M34.castT (by omega))
        first
        | (exfalso; omega)
        | (first | rfl | assumption)
    · refine ⟨M2.k0, ?_⟩
      refine S_X7_refuse M2 (by omega) (by omega) (by omega) (fun x34 h34 t34 e34 M34 => ?_)
      refine ⟨ir (by omega) (by omega), fun c37 => ?_, fun c37 => ?_⟩
      · refine S_X7_inB (by omega) (by omega) (by omega) (fun x44 e44 => ?_)
        refine ⟨ir (by omega) (by omega), fun c47 => ?_, fun c47 => ?_⟩
        · refine ⟨M34.k0, ?_⟩
          refine S_X7_refuse M34 (by omega) (by omega) (by omega) (fun x56 h56 t56 e56 M56 => ?_)
          refine ⟨ir (by omega) (by omega), fun c59 => ?_, fun c59 => ?_⟩
          · obtain ⟨I, V, sw⟩ := wI (by omega)
            obtain ⟨v2, v3, v4, vh⟩ := id V
            have hp6 : 0 ≤ p ∧ p < 6 := by omega
            have qn := I.qn hp6
            have q13 := I.hq.1
            have sn := I.sn hp6
            have pl := plc_spec (s := s) (p := p) (x := i) ⟨by omega, by omega⟩
            refine ⟨M56.k0, ?_⟩
            refine S_X7_placeOf M56 I v3 (by omega) (by omega) (by omega) (fun x69 e69 => ?_)
            subst e69
            refine ⟨M56.k0, ?_⟩
            refine S_X7_inQueue M56 (by omega) (by omega) (by omega) (fun x73 e73 => ?_)
            subst e73
            refine H _ _ (fun hT => ?_) (M56.castT (by omega))
            first
            | (exfalso; omega)
            | (first | rfl | assumption)
          · refine H _ _ (fun hT => ?_) (M56.castT (by omega))
            first
            | (exfalso; omega)
            | (first | rfl | assumption)
        · refine ⟨M34.k0, ?_⟩
          refine S_X7_refuse M34 (by omega) (by omega) (by omega) (fun x56 h56 t56 e56 M56 => ?_)
          refine ⟨ir (by omega) (by omega), fun c59 => ?_, fun c59 => ?_⟩
          · obtain ⟨I, V, sw⟩ := wI (by omega)
            obtain ⟨v2, v3, v4, vh⟩ := id V
            have hp6 : 0 ≤ p ∧ p < 6 := by omega
            have qn := I.qn hp6
            have q13 := I.hq.1
            have sn := I.sn hp6
            have pl := plc_spec (s := s) (p := p) (x := i) ⟨by omega, by omega⟩
            refine ⟨M56.k0, ?_⟩
            refine S_X7_placeOf M56 I v3 (by omega) (by omega) (by omega) (fun x69 e69 => ?_)
            subst e69
            refine ⟨M56.k0, ?_⟩
            refine S_X7_inQueue M56 (by omega) (by omega) (by omega) (fun x73 e73 => ?_)
            subst e73
            refine H _ _ (fun hT => ?_) (M56.castT (by omega))
            first
            | (exfalso; omega)
            | (first | rfl | assumption)
          · refine H _ _ (fun hT => ?_) (M56.castT (by omega))
            first
            | (exfalso; omega)
            | (first | rfl | assumption)
      · refine H _ _ (fun hT => ?_) (M34.castT (by omega))
        first
        | (exfalso; omega)
        | (first | rfl | assumption)
  · refine H _ _ (fun hT => ?_) (M2.castT (by omega))
    first
    | (exfalso; omega)
    | (first | rfl | assumption)
theorem S_X7_running {d b : Nat} {h0 h : PH} {D : Nat → Int → Int} {s : Int → Int} {t : Int} {Q : Int → PH → Prop} {X : Nat → PH → Prop} {N : Int} {p i w : Int} (M : Mt b h0 h D s t) (W : WD D s N) (hvp : InR p) (hvi : InR i) (hvw : InR w) (H : ∀ (x : Int) h', (ck (ck (ck (tL D) p 0 (D 0 4 - 1) 2) i 0 (s (511 + p) - 1) 2) w 0 (4) 3 = 0 → x = sv s p (s (511 + p) - 1 - i) w) → Mt b h0 h' D s (ck (ck (ck (tL D) p 0 (D 0 4 - 1) 2) i 0 (s (511 + p) - 1) 2) w 0 (4) 3) → Q x h') : RUN GQ (d + 4) m_X7_running [pA b, pI p, pI i, pI w] h Q X := by
  obtain ⟨w1, w2, w3, wN, ws1, wI⟩ := id W
  have kL := tL_or D
  have k1 := ck_or (tL D) p 0 (D 0 4 - 1) 2
  have k2 := ck_or (ck (tL D) p 0 (D 0 4 - 1) 2) i 0 (s (511 + p) - 1) 2
  have k3 := ck_or (ck (ck (tL D) p 0 (D 0 4 - 1) 2) i 0 (s (511 + p) - 1) 2) w 0 (4) 3
  rw [e_X7_running]
  refine WP.of (RUN.mono GQ _) (cuts := []) (n := 400) (v_X7_running_0 _ _ _ _ _ _ _ ?_)
  refine ⟨M.k0, ?_⟩
  refine S_X7_noProgram M W (by omega) (fun x2 h2 e2 M2 => ?_)
  refine ⟨ir (by omega) (by omega), fun c5 => ?_, fun c5 => ?_⟩
  · obtain ⟨I, V, sw⟩ := wI (by omega)
    obtain ⟨v2, v3, v4, vh⟩ := id V
    have hp6 : 0 ≤ p ∧ p < 6 := by omega
    have qn := I.qn hp6
    have q13 := I.hq.1
    have sn := I.sn hp6
    refine ⟨M2.k0, ?_⟩
    try rw [M2.r11]
    refine M2.ld6 (by omega) (by omega) (fun er => ?_)
    try rw [er]
    clear er
    refine S_X7_inB (by omega) (by omega) (by omega) (fun x23 e23 => ?_)
    refine ⟨ir (by omega) (by omega), fun c26 => ?_, fun c26 => ?_⟩
    · refine ⟨M2.k0, ?_⟩
      refine S_X7_refuse M2 (by omega) (by omega) (by omega) (fun x35 h35 t35 e35 M35 => ?_)
      refine ⟨ir (by omega) (by omega), fun c38 => ?_, fun c38 => ?_⟩
      · refine S_X7_inB (by omega) (by omega) (by omega) (fun x45 e45 => ?_)
        refine ⟨ir (by omega) (by omega), fun c48 => ?_, fun c48 => ?_⟩
        · refine ⟨M35.k0, ?_⟩
          refine S_X7_refuse M35 (by omega) (by omega) (by omega) (fun x57 h57 t57 e57 M57 => ?_)
          refine ⟨ir (by omega) (by omega), fun c60 => ?_, fun c60 => ?_⟩
          · obtain ⟨I, V, sw⟩ := wI (by omega)
            obtain ⟨v2, v3, v4, vh⟩ := id V
            have hp6 : 0 ≤ p ∧ p < 6 := by omega
            have qn := I.qn hp6
            have q13 := I.hq.1
            have sn := I.sn hp6
            refine ⟨M57.k0, ?_⟩
            try rw [M57.r11]
            refine M57.ld6 (by omega) (by omega) (fun er => ?_)
            try rw [er]
            clear er
            refine ⟨M57.k0, ?_⟩
            refine S_X7_onStack M57 (by omega) (by omega) (by omega) (fun x82 e82 => ?_)
            subst e82
            refine H _ _ (fun hT => ?_) (M57.castT (by omega))
            first
            | (exfalso; omega)
            | (first | rfl | assumption)
          · refine H _ _ (fun hT => ?_) (M57.castT (by omega))
            first
            | (exfalso; omega)
            | (first | rfl | assumption)
        · refine ⟨M35.k0, ?_⟩
          refine S_X7_refuse M35 (by omega) (by omega) (by omega) (fun x57 h57 t57 e57 M57 => ?_)
          refine ⟨ir (by omega) (by omega), fun c60 => ?_, fun c60 => ?_⟩
          · obtain ⟨I, V, sw⟩ := wI (by omega)
            obtain ⟨v2, v3, v4, vh⟩ := id V
            have hp6 : 0 ≤ p ∧ p < 6 := by omega
            have qn := I.qn hp6
            have q13 := I.hq.1
            have sn := I.sn hp6
            refine ⟨M57.k0, ?_⟩
            try rw [M57.r11]
            refine M57.ld6 (by omega) (by omega) (fun er => ?_)
            try rw [er]
            clear er
            refine ⟨M57.k0, ?_⟩
            refine S_X7_onStack M57 (by omega) (by omega) (by omega) (fun x82 e82 => ?_)
            subst e82
            refine H _ _ (fun hT => ?_) (M57.castT (by omega))
            first
            | (exfalso; omega)
            | (first | rfl | assumption)
          · refine H _ _ (fun hT => ?_) (M57.castT (by omega))
            first
            | (exfalso; omega)
            | (first | rfl | assumption)
      · refine H _ _ (fun hT => ?_) (M35.castT (by omega))
        first
        | (exfalso; omega)
        | (first | rfl | assumption)
    · refine ⟨M2.k0, ?_⟩
      refine S_X7_refuse M2 (by omega) (by omega) (by omega) (fun x35 h35 t35 e35 M35 => ?_)
      refine ⟨ir (by omega) (by omega), fun c38 => ?_, fun c38 => ?_⟩
      · refine S_X7_inB (by omega) (by omega) (by omega) (fun x45 e45 => ?_)
        refine ⟨ir (by omega) (by omega), fun c48 => ?_, fun c48 => ?_⟩
        · refine ⟨M35.k0, ?_⟩
          refine S_X7_refuse M35 (by omega) (by omega) (by omega) (fun x57 h57 t57 e57 M57 => ?_)
          refine ⟨ir (by omega) (by omega), fun c60 => ?_, fun c60 => ?_⟩
          · obtain ⟨I, V, sw⟩ := wI (by omega)
            obtain ⟨v2, v3, v4, vh⟩ := id V
            have hp6 : 0 ≤ p ∧ p < 6 := by omega
            have qn := I.qn hp6
            have q13 := I.hq.1
            have sn := I.sn hp6
            refine ⟨M57.k0, ?_⟩
            try rw [M57.r11]
            refine M57.ld6 (by omega) (by omega) (fun er => ?_)
            try rw [er]
            clear er
            refine ⟨M57.k0, ?_⟩
            refine S_X7_onStack M57 (by omega) (by omega) (by omega) (fun x82 e82 => ?_)
            subst e82
            refine H _ _ (fun hT => ?_) (M57.castT (by omega))
            first
            | (exfalso; omega)
            | (first | rfl | assumption)
          · refine H _ _ (fun hT => ?_) (M57.castT (by omega))
            first
            | (exfalso; omega)
            | (first | rfl | assumption)
        · refine ⟨M35.k0, ?_⟩
          refine S_X7_refuse M35 (by omega) (by omega) (by omega) (fun x57 h57 t57 e57 M57 => ?_)
          refine ⟨ir (by omega) (by omega), fun c60 => ?_, fun c60 => ?_⟩
          · obtain ⟨I, V, sw⟩ := wI (by omega)
            obtain ⟨v2, v3, v4, vh⟩ := id V
            have hp6 : 0 ≤ p ∧ p < 6 := by omega
            have qn := I.qn hp6
            have q13 := I.hq.1
            have sn := I.sn hp6
            refine ⟨M57.k0, ?_⟩
            try rw [M57.r11]
            refine M57.ld6 (by omega) (by omega) (fun er => ?_)
            try rw [er]
            clear er
            refine ⟨M57.k0, ?_⟩
            refine S_X7_onStack M57 (by omega) (by omega) (by omega) (fun x82 e82 => ?_)
            subst e82
            refine H _ _ (fun hT => ?_) (M57.castT (by omega))
            first
            | (exfalso; omega)
            | (first | rfl | assumption)
          · refine H _ _ (fun hT => ?_) (M57.castT (by omega))
            first
            | (exfalso; omega)
            | (first | rfl | assumption)
      · refine H _ _ (fun hT => ?_) (M35.castT (by omega))
        first
        | (exfalso; omega)
        | (first | rfl | assumption)
  · refine H _ _ (fun hT => ?_) (M2.castT (by omega))
    first
    | (exfalso; omega)
    | (first | rfl | assumption)
theorem S_X7_ofEnd {d b : Nat} {h0 h : PH} {D : Nat → Int → Int} {s : Int → Int} {t : Int} {Q : Int → PH → Prop} {X : Nat → PH → Prop} {i w : Int} (M : Mt b h0 h D s t) (hE : 0 ≤ s 2 ∧ s 2 ≤ 2000000000) (hix : 0 ≤ i ∧ i < s 2) (hw : 0 ≤ w ∧ w < 5) (H : ∀ x : Int, x = (rv s (Int.tmod (s 2 - 1 - i) 40) w) → Q x h) : RUN GQ (d + 1) m_X7_ofEnd [pA b, pI i, pI w] h Q X := by
  have t4 := tm40 (x := s 2 - 1 - i) (by omega)
  rw [e_X7_ofEnd]
  refine WP.of (RUN.mono GQ _) (cuts := []) (n := 400) (v_X7_ofEnd_0 _ _ _ _ _ _ ?_)
  refine ⟨M.k0, ?_⟩
  try rw [M.r11]
  refine ⟨M.k0, ?_⟩
  try rw [M.r11]
  refine M.ld6 (by omega) (by omega) (fun er => ?_)
  try rw [er]
  clear er
  refine ⟨ir (by omega) (by omega), ir (by omega) (by omega), (by omega), ?_⟩
  refine M.ld6 (by omega) (by omega) (fun er => ?_)
  try rw [er]
  clear er
  refine H _ ?_
  first | rfl | omega
theorem S_X7_end {d b : Nat} {h0 h : PH} {D : Nat → Int → Int} {s : Int → Int} {t : Int} {Q : Int → PH → Prop} {X : Nat → PH → Prop} {N : Int} {i w : Int} (M : Mt b h0 h D s t) (W : WD D s N) (hvi : InR i) (hvw : InR w) (H : ∀ (x : Int) h', (ck (ck (tL D) i 0 (tld s - 1) 2) w 0 (4) 3 = 0 → x = rv s (Int.tmod (s 2 - 1 - i) 40) w) → Mt b h0 h' D s (ck (ck (tL D) i 0 (tld s - 1) 2) w 0 (4) 3) → Q x h') : RUN GQ (d + 3) m_X7_end [pA b, pI i, pI w] h Q X := by
  obtain ⟨w1, w2, w3, wN, ws1, wI⟩ := id W
  have kL := tL_or D
  have k1 := ck_or (tL D) i 0 (tld s - 1) 2
  have k2 := ck_or (ck (tL D) i 0 (tld s - 1) 2) w 0 (4) 3
  rw [e_X7_end]
  refine WP.of (RUN.mono GQ _) (cuts := []) (n := 400) (v_X7_end_0 _ _ _ _ _ _ ?_)
  refine ⟨M.k0, ?_⟩
  refine S_X7_notLoaded M W (fun x1 h1 e1 M1 => ?_)
  refine ⟨ir (by omega) (by omega), fun c4 => ?_, fun c4 => ?_⟩
  · obtain ⟨I, V, sw⟩ := wI (by omega)
    obtain ⟨v2, v3, v4, vh⟩ := id V
    have e2 := I.e2
    have tl : 0 ≤ tld s ∧ tld s ≤ s 2 ∧ tld s ≤ 40 := by unfold tld; split <;> omega
    refine ⟨M1.k0, ?_⟩
    refine S_X7_toldEnds M1 (by omega) (fun x11 e11 => ?_)
    subst e11
    refine S_X7_inB (by omega) (by omega) (by omega) (fun x16 e16 => ?_)
    refine ⟨ir (by omega) (by omega), fun c19 => ?_, fun c19 => ?_⟩
    · refine ⟨M1.k0, ?_⟩
      refine S_X7_refuse M1 (by omega) (by omega) (by omega) (fun x28 h28 t28 e28 M28 => ?_)
      refine ⟨ir (by omega) (by omega), fun c31 => ?_, fun c31 => ?_⟩
      · refine S_X7_inB (by omega) (by omega) (by omega) (fun x38 e38 => ?_)
        refine ⟨ir (by omega) (by omega), fun c41 => ?_, fun c41 => ?_⟩
        · refine ⟨M28.k0, ?_⟩
          refine S_X7_refuse M28 (by omega) (by omega) (by omega) (fun x50 h50 t50 e50 M50 => ?_)
          refine ⟨ir (by omega) (by omega), fun c53 => ?_, fun c53 => ?_⟩
          · obtain ⟨I, V, sw⟩ := wI (by omega)
            obtain ⟨v2, v3, v4, vh⟩ := id V
            have e2 := I.e2
            have tl : 0 ≤ tld s ∧ tld s ≤ s 2 ∧ tld s ≤ 40 := by unfold tld; split <;> omega
            refine ⟨M50.k0, ?_⟩
            refine S_X7_ofEnd M50 (by omega) (by omega) (by omega) (fun x61 e61 => ?_)
            subst e61
            refine H _ _ (fun hT => ?_) (M50.castT (by omega))
            first
            | (exfalso; omega)
            | (first | rfl | assumption)
          · refine H _ _ (fun hT => ?_) (M50.castT (by omega))
            first
            | (exfalso; omega)
            | (first | rfl | assumption)
        · refine ⟨M28.k0, ?_⟩
          refine S_X7_refuse M28 (by omega) (by omega) (by omega) (fun x50 h50 t50 e50 M50 => ?_)
          refine ⟨ir (by omega) (by omega), fun c53 => ?_, fun c53 => ?_⟩
          · obtain ⟨I, V, sw⟩ := wI (by omega)
            obtain ⟨v2, v3, v4, vh⟩ := id V
            have e2 := I.e2
            have tl : 0 ≤ tld s ∧ tld s ≤ s 2 ∧ tld s ≤ 40 := by unfold tld; split <;> omega
            refine ⟨M50.k0, ?_⟩
            refine S_X7_ofEnd M50 (by omega) (by omega) (by omega) (fun x61 e61 => ?_)
            subst e61
            refine H _ _ (fun hT => ?_) (M50.castT (by omega))
            first
            | (exfalso; omega)
            | (first | rfl | assumption)
          · refine H _ _ (fun hT => ?_) (M50.castT (by omega))
            first
            | (exfalso; omega)
            | (first | rfl | assumption)
      · refine H _ _ (fun hT => ?_) (M28.castT (by omega))
        first
        | (exfalso; omega)
        | (first | rfl | assumption)
    · refine ⟨M1.k0, ?_⟩
      refine S_X7_refuse M1 (by omega) (by omega) (by omega) (fun x28 h28 t28 e28 M28 => ?_)
      refine ⟨ir (by omega) (by omega), fun c31 => ?_, fun c31 => ?_⟩
      · refine S_X7_inB (by omega) (by omega) (by omega) (fun x38 e38 => ?_)
        refine ⟨ir (by omega) (by omega), fun c41 => ?_, fun c41 => ?_⟩
        · refine ⟨M28.k0, ?_⟩
          refine S_X7_refuse M28 (by omega) (by omega) (by omega) (fun x50 h50 t50 e50 M50 => ?_)
          refine ⟨ir (by omega) (by omega), fun c53 => ?_, fun c53 => ?_⟩
          · obtain ⟨I, V, sw⟩ := wI (by omega)
            obtain ⟨v2, v3, v4, vh⟩ := id V
            have e2 := I.e2
            have tl : 0 ≤ tld s ∧ tld s ≤ s 2 ∧ tld s ≤ 40 := by unfold tld; split <;> omega
            refine ⟨M50.k0, ?_⟩
            refine S_X7_ofEnd M50 (by omega) (by omega) (by omega) (fun x61 e61 => ?_)
            subst e61
            refine H _ _ (fun hT => ?_) (M50.castT (by omega))
            first
            | (exfalso; omega)
            | (first | rfl | assumption)
          · refine H _ _ (fun hT => ?_) (M50.castT (by omega))
            first
            | (exfalso; omega)
            | (first | rfl | assumption)
        · refine ⟨M28.k0, ?_⟩
          refine S_X7_refuse M28 (by omega) (by omega) (by omega) (fun x50 h50 t50 e50 M50 => ?_)
          refine ⟨ir (by omega) (by omega), fun c53 => ?_, fun c53 => ?_⟩
          · obtain ⟨I, V, sw⟩ := wI (by omega)
            obtain ⟨v2, v3, v4, vh⟩ := id V
            have e2 := I.e2
            have tl : 0 ≤ tld s ∧ tld s ≤ s 2 ∧ tld s ≤ 40 := by unfold tld; split <;> omega
            refine ⟨M50.k0, ?_⟩
            refine S_X7_ofEnd M50 (by omega) (by omega) (by omega) (fun x61 e61 => ?_)
            subst e61
            refine H _ _ (fun hT => ?_) (M50.castT (by omega))
            first
            | (exfalso; omega)
            | (first | rfl | assumption)
          · refine H _ _ (fun hT => ?_) (M50.castT (by omega))
            first
            | (exfalso; omega)
            | (first | rfl | assumption)
      · refine H _ _ (fun hT => ?_) (M28.castT (by omega))
        first
        | (exfalso; omega)
        | (first | rfl | assumption)
  · refine H _ _ (fun hT => ?_) (M1.castT (by omega))
    first
    | (exfalso; omega)
    | (first | rfl | assumption)
theorem L_X7_queuedAt_2 {d b : Nat} {h0 h : PH} {D : Nat → Int → Int} {s : Int → Int} {t : Int} {Q : Int → PH → Prop} {X : Nat → PH → Prop} {N : Int} {p g : Int} (M : Mt b h0 h D s t) (I : HI (D 0 3) (D 0 4) (D 0 2) N s) (hN : N ≤ 1990000000) (hp : 0 ≤ p ∧ p < 6) (hg : InR g) : ∀ (n : Nat) (i : Int), (0 ≤ i) → (i + n = s (115 + p)) → (∀ x : Int, x = ffi (fun i => qv s p i 0) g n i → Q x h) → WP k_X7_queuedAt [] (RUN GQ (d + 1)) 0 0 (d + 2) Q X 2 [some (pA b), some (pI p), some (pI g), some (pI i)] [] h 0 0 := by
  intro n
  induction n with
  | zero =>
    intro i hix hn0 H
    have q0 := I.qn hp
    have q13 := I.hq.1
    refine WP.of (RUN.mono GQ _) (cuts := [2]) (n := 400) (v_X7_queuedAt_2 _ _ _ _ _ _ _ ?_)
    refine ⟨M.k0, ?_⟩
    try rw [M.r11]
    refine M.ld6 (by omega) (by omega) (fun er => ?_)
    try rw [er]
    clear er
    refine ⟨ir (by omega) (by omega), ir (by omega) (by omega), fun c12 => ?_, fun c12 => ?_⟩
    · exfalso; omega
    · exact H _ rfl
  | succ n ih =>
    intro i hix hn0 H
    have q0 := I.qn hp
    have q13 := I.hq.1
    have e1 := I.e1
    have qk := (I.qe hp (i := i) ⟨hix, by omega⟩).1
    refine WP.of (RUN.mono GQ _) (cuts := [2]) (n := 400) (v_X7_queuedAt_2 _ _ _ _ _ _ _ ?_)
    refine ⟨M.k0, ?_⟩
    try rw [M.r11]
    refine M.ld6 (by omega) (by omega) (fun er => ?_)
    try rw [er]
    clear er
    refine ⟨ir (by omega) (by omega), ir (by omega) (by omega), fun c12 => ?_, fun c12 => ?_⟩
    · refine ⟨M.k0, ?_⟩
      refine S_X7_inQueue M (by omega) (by omega) (by omega) (fun x19 e19 => ?_)
      subst e19
      refine ⟨ir (by omega) (by omega), ir (by omega) (by omega), fun c23 => ?_, fun c23 => ?_⟩
      · exact H _ (by rw [ffi, if_pos c23])
      · refine ih _ (by omega) (by omega) ?_
        rw [ffi, if_neg c23] at H
        exact H
    · exfalso; omega
theorem S_X7_queuedAt {d b : Nat} {h0 h : PH} {D : Nat → Int → Int} {s : Int → Int} {t : Int} {Q : Int → PH → Prop} {X : Nat → PH → Prop} {N : Int} {p g : Int} (M : Mt b h0 h D s t) (I : HI (D 0 3) (D 0 4) (D 0 2) N s) (hN : N ≤ 1990000000) (hp : 0 ≤ p ∧ p < 6) (hg : InR g) (H : ∀ x : Int, x = (ffi (fun i => qv s p i 0) g (s (115 + p)).toNat 0) → Q x h) : RUN GQ (d + 2) m_X7_queuedAt [pA b, pI p, pI g] h Q X := by
  have q0 := I.qn hp
  have q13 := I.hq.1
  rw [e_X7_queuedAt]
  refine WP.of (RUN.mono GQ _) (cuts := [2]) (n := 400) (v_X7_queuedAt_0 _ _ _ _ _ _ _ ?_)
  refine L_X7_queuedAt_2 M I hN hp hg ((s (115 + p)).toNat) _ (by omega) (by omega) ?_
  exact H
theorem L_X7_stackedAt_2 {d b : Nat} {h0 h : PH} {D : Nat → Int → Int} {s : Int → Int} {t : Int} {Q : Int → PH → Prop} {X : Nat → PH → Prop} {N : Int} {p g : Int} (M : Mt b h0 h D s t) (I : HI (D 0 3) (D 0 4) (D 0 2) N s) (hN : N ≤ 1990000000) (hp : 0 ≤ p ∧ p < 6) (hg : InR g) : ∀ (n : Nat) (i : Int), (0 ≤ i) → (i + n = s (511 + p)) → (∀ x : Int, x = ffi (fun i => sv s p i 0) g n i → Q x h) → WP k_X7_stackedAt [] (RUN GQ (d + 1)) 0 0 (d + 2) Q X 2 [some (pA b), some (pI p), some (pI g), some (pI i)] [] h 0 0 := by
  intro n
  induction n with
  | zero =>
    intro i hix hn0 H
    have q0 := I.sn hp
    have q13 := I.hq.1
    refine WP.of (RUN.mono GQ _) (cuts := [2]) (n := 400) (v_X7_stackedAt_2 _ _ _ _ _ _ _ ?_)
    refine ⟨M.k0, ?_⟩
    try rw [M.r11]
    refine M.ld6 (by omega) (by omega) (fun er => ?_)
    try rw [er]
    clear er
    refine ⟨ir (by omega) (by omega), ir (by omega) (by omega), fun c13 => ?_, fun c13 => ?_⟩
    · exfalso; omega
    · exact H _ rfl
  | succ n ih =>
    intro i hix hn0 H
    have q0 := I.sn hp
    have q13 := I.hq.1
    have e1 := I.e1
    have qk := (I.se hp (i := i) ⟨hix, by omega⟩).1
    refine WP.of (RUN.mono GQ _) (cuts := [2]) (n := 400) (v_X7_stackedAt_2 _ _ _ _ _ _ _ ?_)
    refine ⟨M.k0, ?_⟩
    try rw [M.r11]
    refine M.ld6 (by omega) (by omega) (fun er => ?_)
    try rw [er]
    clear er
    refine ⟨ir (by omega) (by omega), ir (by omega) (by omega), fun c13 => ?_, fun c13 => ?_⟩
    · refine ⟨M.k0, ?_⟩
      refine S_X7_onStack M (by omega) (by omega) (by omega) (fun x20 e20 => ?_)
      subst e20
      refine ⟨ir (by omega) (by omega), ir (by omega) (by omega), fun c24 => ?_, fun c24 => ?_⟩
      · exact H _ (by rw [ffi, if_pos c24])
      · refine ih _ (by omega) (by omega) ?_
        rw [ffi, if_neg c24] at H
        exact H
    · exfalso; omega
theorem S_X7_stackedAt {d b : Nat} {h0 h : PH} {D : Nat → Int → Int} {s : Int → Int} {t : Int} {Q : Int → PH → Prop} {X : Nat → PH → Prop} {N : Int} {p g : Int} (M : Mt b h0 h D s t) (I : HI (D 0 3) (D 0 4) (D 0 2) N s) (hN : N ≤ 1990000000) (hp : 0 ≤ p ∧ p < 6) (hg : InR g) (H : ∀ x : Int, x = (ffi (fun i => sv s p i 0) g (s (511 + p)).toNat 0) → Q x h) : RUN GQ (d + 2) m_X7_stackedAt [pA b, pI p, pI g] h Q X := by
  have q0 := I.sn hp
  have q13 := I.hq.1
  rw [e_X7_stackedAt]
  refine WP.of (RUN.mono GQ _) (cuts := [2]) (n := 400) (v_X7_stackedAt_0 _ _ _ _ _ _ _ ?_)
  refine L_X7_stackedAt_2 M I hN hp hg ((s (511 + p)).toNat) _ (by omega) (by omega) ?_
  exact H
theorem L_X7_placeNow_2 {d b : Nat} {h0 h : PH} {D : Nat → Int → Int} {s : Int → Int} {t : Int} {Q : Int → PH → Prop} {X : Nat → PH → Prop} {N : Int} {g : Int} (M : Mt b h0 h D s t) (I : HI (D 0 3) (D 0 4) (D 0 2) N s) (hN : N ≤ 1990000000) (hg : InR g) (hP : 0 ≤ D 0 4 ∧ D 0 4 ≤ 6) : ∀ (n : Nat) (p : Int), (0 ≤ p) → (p + n = D 0 4) → (∀ x : Int, x = pnl s g n p → Q x h) → WP k_X7_placeNow [] (RUN GQ (d + 2)) 0 0 (d + 3) Q X 2 [some (pA b), some (pI g), some (pI p)] [] h 0 0 := by
  intro n
  induction n with
  | zero =>
    intro p hp0 hn0 H
    refine WP.of (RUN.mono GQ _) (cuts := [2]) (n := 400) (v_X7_placeNow_2 _ _ _ _ _ _ ?_)
    refine ⟨M.k0, ?_⟩
    try rw [M.f4]
    refine ⟨ir (by omega) (by omega), ir (by omega) (by omega), fun c7 => ?_, fun c7 => ?_⟩
    · exfalso; omega
    · exact H _ rfl
  | succ n ih =>
    intro p hp0 hn0 H
    have hp : 0 ≤ p ∧ p < 6 := by omega
    have f1 := ffi_spec (f := fun i => qv s p i 0) (g := g) (s (115 + p)).toNat 0
    have f2 := ffi_spec (f := fun i => sv s p i 0) (g := g) (s (511 + p)).toNat 0
    have q1 := I.qn hp
    have q2 := I.sn hp
    have q3 := I.hq.1
    refine WP.of (RUN.mono GQ _) (cuts := [2]) (n := 400) (v_X7_placeNow_2 _ _ _ _ _ _ ?_)
    refine ⟨M.k0, ?_⟩
    try rw [M.f4]
    refine ⟨ir (by omega) (by omega), ir (by omega) (by omega), fun c7 => ?_, fun c7 => ?_⟩
    · refine ⟨M.k0, ?_⟩
      refine S_X7_queuedAt M I (by omega) (by omega) (by omega) (fun x13 e13 => ?_)
      subst e13
      refine ⟨ir (by omega) (by omega), ir (by omega) (by omega), fun c17 => ?_, fun c17 => ?_⟩
      · refine ⟨M.k0, ?_⟩
        refine S_X7_stackedAt M I (by omega) (by omega) (by omega) (fun x25 e25 => ?_)
        subst e25
        refine ⟨ir (by omega) (by omega), ir (by omega) (by omega), fun c29 => ?_, fun c29 => ?_⟩
        · refine ih _ (by omega) (by omega) ?_
          rw [pnl, if_neg (fun q => q c17), if_neg (fun q => q c29)] at H
          exact H
        · exact H _ (by rw [pnl, if_neg (fun q => q c17), if_pos c29])
      · exact H _ (by rw [pnl, if_pos c17])
    · exfalso; omega
theorem S_X7_placeNow {d b : Nat} {h0 h : PH} {D : Nat → Int → Int} {s : Int → Int} {t : Int} {Q : Int → PH → Prop} {X : Nat → PH → Prop} {N : Int} {g : Int} (M : Mt b h0 h D s t) (I : HI (D 0 3) (D 0 4) (D 0 2) N s) (hN : N ≤ 1990000000) (hg : InR g) (hP : 0 ≤ D 0 4 ∧ D 0 4 ≤ 6) (H : ∀ x : Int, x = (pnl s g (D 0 4).toNat 0) → Q x h) : RUN GQ (d + 3) m_X7_placeNow [pA b, pI g] h Q X := by
  rw [e_X7_placeNow]
  refine WP.of (RUN.mono GQ _) (cuts := [2]) (n := 400) (v_X7_placeNow_0 _ _ _ _ _ _ ?_)
  refine L_X7_placeNow_2 M I hN hg hP ((D 0 4).toNat) _ (by omega) (by omega) ?_
  exact H
theorem L_X7_whereIs_18 {d b : Nat} {h0 h : PH} {D : Nat → Int → Int} {s : Int → Int} {t : Int} {Q : Int → PH → Prop} {X : Nat → PH → Prop} {N : Int} {g : Int} (M : Mt b h0 h D s t) (I : HI (D 0 3) (D 0 4) (D 0 2) N s) (hN : N ≤ 1990000000) (hvg : InR g) : ∀ (n : Nat) (pl k : Int), (0 ≤ k) → (k + n = tld s) → (-1 ≤ pl ∧ pl ≤ 100) → (∀ x : Int, x = (if pl = -1 then (if tef s g n k = -1 then -1 else 20 + tef s g n k) else pl) → Q x h) → WP k_X7_whereIs [] (RUN GQ (d + 3)) 0 0 (d + 4) Q X 18 [some (pA b), some (pI g), some (pI pl), some (pI k)] [] h 0 0 := by
  intro n
  induction n with
  | zero =>
    intro pl k hk0 hn0 hpl H
    have e2 := I.e2
    have tl : 0 ≤ tld s ∧ tld s ≤ s 2 ∧ tld s ≤ 40 := by unfold tld; split <;> omega
    refine WP.of (RUN.mono GQ _) (cuts := [18]) (n := 400) (v_X7_whereIs_18 _ _ _ _ _ _ _ ?_)
    refine ⟨M.k0, ?_⟩
    refine S_X7_toldEnds M (by omega) (fun x20 e20 => ?_)
    subst e20
    refine ⟨ir (by omega) (by omega), ir (by omega) (by omega), fun c23 => ?_, fun c23 => ?_⟩
    · exfalso; omega
    · first
      | (exact H _ (by rw [if_neg c28]))
      | (exact H _ (by show pl = (if pl = -1 then (if (-1 : Int) = -1 then -1 else 20 + -1) else pl); split <;> omega))
  | succ n ih =>
    intro pl k hk0 hn0 hpl H
    have e2 := I.e2
    have tl : 0 ≤ tld s ∧ tld s ≤ s 2 ∧ tld s ≤ 40 := by unfold tld; split <;> omega
    have rr := I.hr (Int.tmod (s 2 - 1 - k) 40) (tm40 (by omega)).1 (tm40 (by omega)).2 (by rw [Int.tmod_eq_emod_of_nonneg (by omega)]; omega)
    have e1 := I.e1
    refine WP.of (RUN.mono GQ _) (cuts := [18]) (n := 400) (v_X7_whereIs_18 _ _ _ _ _ _ _ ?_)
    refine ⟨M.k0, ?_⟩
    refine S_X7_toldEnds M (by omega) (fun x20 e20 => ?_)
    subst e20
    refine ⟨ir (by omega) (by omega), ir (by omega) (by omega), fun c23 => ?_, fun c23 => ?_⟩
    · refine ⟨ir (by omega) (by omega), ir (by omega) (by omega), fun c28 => ?_, fun c28 => ?_⟩
      · refine ⟨M.k0, ?_⟩
        refine S_X7_ofEnd M (by omega) (by omega) (by omega) (fun x34 e34 => ?_)
        subst e34
        refine ⟨ir (by omega) (by omega), ir (by omega) (by omega), fun c38 => ?_, fun c38 => ?_⟩
        · refine ⟨M.k0, ?_⟩
          refine S_X7_ofEnd M (by omega) (by omega) (by omega) (fun x46 e46 => ?_)
          subst e46
          refine ih _ _ (by omega) (by omega) (by omega) ?_
          first
          | (rw [if_neg (show ¬ (20 + rv s (Int.tmod (s 2 - 1 - k) 40) 1 = -1) by omega)]; rw [c28, if_pos rfl, tef, if_pos c38, if_neg (by omega)] at H; exact H)
          | (rw [if_pos rfl]; rw [c28, if_pos rfl, tef, if_neg c38] at H; exact H)
        · refine ih _ _ (by omega) (by omega) (by omega) ?_
          first
          | (rw [if_neg (show ¬ (20 + rv s (Int.tmod (s 2 - 1 - k) 40) 1 = -1) by omega)]; rw [c28, if_pos rfl, tef, if_pos c38, if_neg (by omega)] at H; exact H)
          | (rw [if_pos rfl]; rw [c28, if_pos rfl, tef, if_neg c38] at H; exact H)
      · first
        | (exact H _ (by rw [if_neg c28]))
        | (exact H _ (by show pl = (if pl = -1 then (if (-1 : Int) = -1 then -1 else 20 + -1) else pl); split <;> omega))
    · exfalso; omega
theorem S_X7_whereIs {d b : Nat} {h0 h : PH} {D : Nat → Int → Int} {s : Int → Int} {t : Int} {Q : Int → PH → Prop} {X : Nat → PH → Prop} {N : Int} {g : Int} (M : Mt b h0 h D s t) (W : WD D s N) (hvg : InR g) (H : ∀ (x : Int) h', (ck (tL D) g 0 (s 1 - 1) 2 = 0 → x = wis D s g) → Mt b h0 h' D s (ck (tL D) g 0 (s 1 - 1) 2) → Q x h') : RUN GQ (d + 4) m_X7_whereIs [pA b, pI g] h Q X := by
  obtain ⟨w1, w2, w3, wN, ws1, wI⟩ := id W
  have kL := tL_or D
  have k1 := ck_or (tL D) g 0 (s 1 - 1) 2
  rw [e_X7_whereIs]
  refine WP.of (RUN.mono GQ _) (cuts := [18]) (n := 400) (v_X7_whereIs_0 _ _ _ _ _ _ _ ?_)
  refine ⟨M.k0, ?_⟩
  refine S_X7_noSignal M W (by omega) (fun x2 h2 e2 M2 => ?_)
  refine ⟨ir (by omega) (by omega), fun c5 => ?_, fun c5 => ?_⟩
  · obtain ⟨I, V, sw⟩ := wI (by omega)
    obtain ⟨v2, v3, v4, vh⟩ := id V
    have e2 := I.e2
    have tl : 0 ≤ tld s ∧ tld s ≤ s 2 ∧ tld s ≤ 40 := by unfold tld; split <;> omega
    refine ⟨M2.k0, ?_⟩
    refine S_X7_placeNow M2 I (by omega) (by omega) (by omega) (fun x12 e12 => ?_)
    subst e12
    have pr := pnl_rng (s := s) (g := g) (D 0 4).toNat 0 (by omega)
    refine L_X7_whereIs_18 M2 I wN hvg ((tld s).toNat) _ _ (by omega) (by omega) (by omega) ?_
    refine fun x e => H x _ (fun _ => ?_) (M2.castT (by omega))
    rw [e, wis]
    by_cases q : pnl s g (D 0 4).toNat 0 = -1
    · rw [if_pos q, if_neg (show ¬ (pnl s g (D 0 4).toNat 0 ≠ -1) from fun z => z q)]
    · rw [if_neg q, if_pos q]
  · refine H _ _ (fun hT => ?_) (M2.castT (by omega))
    first
    | (exfalso; omega)
    | (first | rfl | omega)
theorem S_X7_next {d b : Nat} {h0 h : PH} {D : Nat → Int → Int} {s : Int → Int} {t : Int} {Q : Int → PH → Prop} {X : Nat → PH → Prop} {N : Int} {p : Int} (M : Mt b h0 h D s t) (W : WD D s N) (hvp : InR p) (H : ∀ (x : Int) h', (ck (tL D) p 0 (D 0 4 - 1) 2 = 0 → x = nxv s p) → Mt b h0 h' D s (ck (tL D) p 0 (D 0 4 - 1) 2) → Q x h') : RUN GQ (d + 5) m_X7_next [pA b, pI p] h Q X := by
  obtain ⟨w1, w2, w3, wN, ws1, wI⟩ := id W
  have kL := tL_or D
  have k1 := ck_or (tL D) p 0 (D 0 4 - 1) 2
  rw [e_X7_next]
  refine WP.of (RUN.mono GQ _) (cuts := []) (n := 400) (v_X7_next_0 _ _ _ _ _ _ ?_)
  refine ⟨M.k0, ?_⟩
  refine S_X7_noProgram M W (by omega) (fun x2 h2 e2 M2 => ?_)
  refine ⟨ir (by omega) (by omega), fun c5 => ?_, fun c5 => ?_⟩
  · obtain ⟨I, V, sw⟩ := wI (by omega)
    obtain ⟨v2, v3, v4, vh⟩ := id V
    have hp6 : 0 ≤ p ∧ p < 6 := by omega
    have qn := I.qn hp6
    have q13 := I.hq.1
    have sn := I.sn hp6
    refine ⟨M2.k0, ?_⟩
    refine S_X7_nextOf M2 I V (by show 0 ≤ p ∧ p < D 0 4; omega) (by omega) (fun x12 e12 => ?_)
    subst e12
    have ny := nxt_rng (s := s) p
    refine ⟨ir (by omega) (by omega), ir (by omega) (by omega), fun c18 => ?_, fun c18 => ?_⟩
    · refine H _ _ (fun hT => ?_) (M2.castT (by omega))
      first
      | (exfalso; omega)
      | (unfold nxv; split <;> first | rfl | (exfalso; omega))
    · refine ⟨M2.k0, ?_⟩
      refine S_X7_inQueue M2 (by omega) (by omega) (by omega) (fun x29 e29 => ?_)
      subst e29
      refine H _ _ (fun hT => ?_) (M2.castT (by omega))
      first
      | (exfalso; omega)
      | (unfold nxv; split <;> first | rfl | (exfalso; omega))
  · refine H _ _ (fun hT => ?_) (M2.castT (by omega))
    first
    | (exfalso; omega)
    | (unfold nxv; split <;> first | rfl | (exfalso; omega))
