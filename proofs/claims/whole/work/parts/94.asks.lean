/-! the model asked (written by wip/whole/tools/eng.py) -/
section VCS
variable {call : PC} {mc ms fr : Nat} {Q : Int → PH → Prop} {X : Nat → PH → Prop} {K : PK}
set_option maxRecDepth 100000 in
theorem v_X7_toldEnds_0 (a0 : Nat) (h : PH) (c s : Nat) (H : hk h a0 = 8 ∧ (hk h (hr h a0 11) = 20 ∨ hk h (hr h a0 11) = 26) ∧ (0 ≤ (2 : Int) ∧ (2 : Int) < (hl h (hr h a0 11) : Int)) ∧ InR 40 ∧ InR (hi h (hr h a0 11) (Int.toNat (2 : Int))) ∧ Q (if 40 ≤ (hi h (hr h a0 11) (Int.toNat (2 : Int))) then 40 else (hi h (hr h a0 11) (Int.toNat (2 : Int)))) h) : wpc k_X7_toldEnds [] call mc ms fr Q X [] K 400 (pto 0 k_X7_toldEnds) [some (pA a0)] [] h c s :=
  H
set_option maxRecDepth 100000 in
theorem v_X7_sumOf_0 (a0 : Nat) (i1 : Int) (z2 : Option PV) (z3 : Option PV) (h : PH) (c s : Nat) (H : K 4 [some (pA a0), some (pI i1), some (pI 0), some (pI 0)] [] h c s) : wpc k_X7_sumOf [] call mc ms fr Q X [4] K 400 (pto 0 k_X7_sumOf) [some (pA a0), some (pI i1), z2, z3] [] h c s :=
  H
set_option maxRecDepth 100000 in
theorem v_X7_sumOf_4 (a0 : Nat) (i1 : Int) (i2 : Int) (i3 : Int) (h : PH) (c s : Nat) (H : hk h a0 = 8 ∧ InR i3 ∧ InR (hi h a0 4) ∧ (i3 < (hi h a0 4) →
 hk h a0 = 8 ∧ (hk h (hr h a0 11) = 20 ∨ hk h (hr h a0 11) = 26) ∧ (0 ≤ (i1 + i3) ∧ (i1 + i3) < (hl h (hr h a0 11) : Int)) ∧ K 4 [some (pA a0), some (pI i1), some (pI (i2 + (hi h (hr h a0 11) (Int.toNat ((i1 + i3)))))), some (pI (i3 + 1))] [] h c s) ∧
((hi h a0 4) ≤ i3 →
 Q i2 h)) : wpc k_X7_sumOf [] call mc ms fr Q X [4] K 400 (pto 4 k_X7_sumOf) [some (pA a0), some (pI i1), some (pI i2), some (pI i3)] [] h c s :=
  H
set_option maxRecDepth 100000 in
theorem v_X7_handlersOf_0 (a0 : Nat) (i1 : Int) (z2 : Option PV) (z3 : Option PV) (h : PH) (c s : Nat) (H : K 4 [some (pA a0), some (pI i1), some (pI 0), some (pI 0)] [] h c s) : wpc k_X7_handlersOf [] call mc ms fr Q X [4] K 400 (pto 0 k_X7_handlersOf) [some (pA a0), some (pI i1), z2, z3] [] h c s :=
  H
set_option maxRecDepth 100000 in
theorem v_X7_handlersOf_4 (a0 : Nat) (i1 : Int) (i2 : Int) (i3 : Int) (h : PH) (c s : Nat) (H : hk h a0 = 8 ∧ InR i3 ∧ InR (hi h a0 3) ∧ (i3 < (hi h a0 3) →
 hk h a0 = 8 ∧ (hk h (hr h a0 8) = 20 ∨ hk h (hr h a0 8) = 26) ∧ (0 ≤ ((8 * i1) + i3) ∧ ((8 * i1) + i3) < (hl h (hr h a0 8) : Int)) ∧ InR (hi h (hr h a0 8) (Int.toNat (((8 * i1) + i3)))) ∧ (0 < (hi h (hr h a0 8) (Int.toNat (((8 * i1) + i3)))) →
 call m_X7_flag [pI 1] h (fun x1 h1 =>
 K 4 [some (pA a0), some (pI i1), some (pI (i2 + x1)), some (pI (i3 + 1))] [] h1 c s) X) ∧
((hi h (hr h a0 8) (Int.toNat (((8 * i1) + i3)))) ≤ 0 →
 call m_X7_flag [pI 0] h (fun x2 h2 =>
 K 4 [some (pA a0), some (pI i1), some (pI (i2 + x2)), some (pI (i3 + 1))] [] h2 c s) X)) ∧
((hi h a0 3) ≤ i3 →
 Q i2 h)) : wpc k_X7_handlersOf [] call mc ms fr Q X [4] K 400 (pto 4 k_X7_handlersOf) [some (pA a0), some (pI i1), some (pI i2), some (pI i3)] [] h c s :=
  H
set_option maxRecDepth 100000 in
theorem v_X7_count_0 (a0 : Nat) (i1 : Int) (h : PH) (c s : Nat) (H : hk h a0 = 8 ∧ call m_X7_notLoaded [pA a0] h (fun x1 h1 =>
 InR x1 ∧ (x1 = 0 →
 call m_X7_in [pI i1, pI 0, pI 13] h1 (fun x2 h2 =>
 InR x2 ∧ (x2 = 0 →
 hk h2 a0 = 8 ∧ call m_X7_refuse [pA a0, pI 1, pI 2] h2 (fun x3 h3 =>
 InR x3 ∧ (x3 = 0 →
 InR i1 ∧ (i1 < 0 ∨ 13 < i1 →
 hk h3 a0 = 8 ∧ (hk h3 (hr h3 a0 11) = 20 ∨ hk h3 (hr h3 a0 11) = 26) ∧ (0 ≤ ((4 + i1) - 7) ∧ ((4 + i1) - 7) < (hl h3 (hr h3 a0 11) : Int)) ∧ Q (hi h3 (hr h3 a0 11) (Int.toNat (((4 + i1) - 7)))) h3) ∧
(i1 = 0 →
 hk h3 a0 = 8 ∧ Q (hi h3 a0 3) h3) ∧
(i1 = 1 →
 hk h3 a0 = 8 ∧ Q (hi h3 a0 4) h3) ∧
(i1 = 2 →
 hk h3 a0 = 8 ∧ Q (hi h3 a0 5) h3) ∧
(i1 = 3 →
 hk h3 a0 = 8 ∧ (hk h3 (hr h3 a0 11) = 20 ∨ hk h3 (hr h3 a0 11) = 26) ∧ (0 ≤ (0 : Int) ∧ (0 : Int) < (hl h3 (hr h3 a0 11) : Int)) ∧ Q (hi h3 (hr h3 a0 11) (Int.toNat (0 : Int))) h3) ∧
(i1 = 4 →
 hk h3 a0 = 8 ∧ (hk h3 (hr h3 a0 11) = 20 ∨ hk h3 (hr h3 a0 11) = 26) ∧ (0 ≤ (1 : Int) ∧ (1 : Int) < (hl h3 (hr h3 a0 11) : Int)) ∧ Q (hi h3 (hr h3 a0 11) (Int.toNat (1 : Int))) h3) ∧
(i1 = 5 →
 hk h3 a0 = 8 ∧ call m_X7_sumOf [pA a0, pI 115] h3 (fun x4 h4 =>
 Q x4 h4) X) ∧
(i1 = 6 →
 hk h3 a0 = 8 ∧ call m_X7_sumOf [pA a0, pI 511] h3 (fun x5 h5 =>
 Q x5 h5) X) ∧
(i1 = 7 →
 hk h3 a0 = 8 ∧ (hk h3 (hr h3 a0 11) = 20 ∨ hk h3 (hr h3 a0 11) = 26) ∧ (0 ≤ ((4 + i1) - 7) ∧ ((4 + i1) - 7) < (hl h3 (hr h3 a0 11) : Int)) ∧ Q (hi h3 (hr h3 a0 11) (Int.toNat (((4 + i1) - 7)))) h3) ∧
(i1 = 8 →
 hk h3 a0 = 8 ∧ (hk h3 (hr h3 a0 11) = 20 ∨ hk h3 (hr h3 a0 11) = 26) ∧ (0 ≤ ((4 + i1) - 7) ∧ ((4 + i1) - 7) < (hl h3 (hr h3 a0 11) : Int)) ∧ Q (hi h3 (hr h3 a0 11) (Int.toNat (((4 + i1) - 7)))) h3) ∧
(i1 = 9 →
 hk h3 a0 = 8 ∧ (hk h3 (hr h3 a0 11) = 20 ∨ hk h3 (hr h3 a0 11) = 26) ∧ (0 ≤ ((4 + i1) - 7) ∧ ((4 + i1) - 7) < (hl h3 (hr h3 a0 11) : Int)) ∧ Q (hi h3 (hr h3 a0 11) (Int.toNat (((4 + i1) - 7)))) h3) ∧
(i1 = 10 →
 hk h3 a0 = 8 ∧ (hk h3 (hr h3 a0 11) = 20 ∨ hk h3 (hr h3 a0 11) = 26) ∧ (0 ≤ ((4 + i1) - 7) ∧ ((4 + i1) - 7) < (hl h3 (hr h3 a0 11) : Int)) ∧ Q (hi h3 (hr h3 a0 11) (Int.toNat (((4 + i1) - 7)))) h3) ∧
(i1 = 11 →
 hk h3 a0 = 8 ∧ (hk h3 (hr h3 a0 11) = 20 ∨ hk h3 (hr h3 a0 11) = 26) ∧ (0 ≤ ((4 + i1) - 7) ∧ ((4 + i1) - 7) < (hl h3 (hr h3 a0 11) : Int)) ∧ Q (hi h3 (hr h3 a0 11) (Int.toNat (((4 + i1) - 7)))) h3) ∧
(i1 = 12 →
 hk h3 a0 = 8 ∧ (hk h3 (hr h3 a0 11) = 20 ∨ hk h3 (hr h3 a0 11) = 26) ∧ (0 ≤ ((4 + i1) - 7) ∧ ((4 + i1) - 7) < (hl h3 (hr h3 a0 11) : Int)) ∧ Q (hi h3 (hr h3 a0 11) (Int.toNat (((4 + i1) - 7)))) h3) ∧
(i1 = 13 →
 hk h3 a0 = 8 ∧ call m_X7_toldEnds [pA a0] h3 (fun x6 h6 =>
 Q x6 h6) X) ∧ True) ∧
(x3 ≠ 0 →
 Q 0 h3)) X) ∧
(x2 ≠ 0 →
 hk h2 a0 = 8 ∧ call m_X7_refuse [pA a0, pI 0, pI 2] h2 (fun x7 h7 =>
 InR x7 ∧ (x7 = 0 →
 InR i1 ∧ (i1 < 0 ∨ 13 < i1 →
 hk h7 a0 = 8 ∧ (hk h7 (hr h7 a0 11) = 20 ∨ hk h7 (hr h7 a0 11) = 26) ∧ (0 ≤ ((4 + i1) - 7) ∧ ((4 + i1) - 7) < (hl h7 (hr h7 a0 11) : Int)) ∧ Q (hi h7 (hr h7 a0 11) (Int.toNat (((4 + i1) - 7)))) h7) ∧
(i1 = 0 →
 hk h7 a0 = 8 ∧ Q (hi h7 a0 3) h7) ∧
(i1 = 1 →
 hk h7 a0 = 8 ∧ Q (hi h7 a0 4) h7) ∧
(i1 = 2 →
 hk h7 a0 = 8 ∧ Q (hi h7 a0 5) h7) ∧
(i1 = 3 →
 hk h7 a0 = 8 ∧ (hk h7 (hr h7 a0 11) = 20 ∨ hk h7 (hr h7 a0 11) = 26) ∧ (0 ≤ (0 : Int) ∧ (0 : Int) < (hl h7 (hr h7 a0 11) : Int)) ∧ Q (hi h7 (hr h7 a0 11) (Int.toNat (0 : Int))) h7) ∧
(i1 = 4 →
 hk h7 a0 = 8 ∧ (hk h7 (hr h7 a0 11) = 20 ∨ hk h7 (hr h7 a0 11) = 26) ∧ (0 ≤ (1 : Int) ∧ (1 : Int) < (hl h7 (hr h7 a0 11) : Int)) ∧ Q (hi h7 (hr h7 a0 11) (Int.toNat (1 : Int))) h7) ∧
(i1 = 5 →
 hk h7 a0 = 8 ∧ call m_X7_sumOf [pA a0, pI 115] h7 (fun x8 h8 =>
 Q x8 h8) X) ∧
(i1 = 6 →
 hk h7 a0 = 8 ∧ call m_X7_sumOf [pA a0, pI 511] h7 (fun x9 h9 =>
 Q x9 h9) X) ∧
(i1 = 7 →
 hk h7 a0 = 8 ∧ (hk h7 (hr h7 a0 11) = 20 ∨ hk h7 (hr h7 a0 11) = 26) ∧ (0 ≤ ((4 + i1) - 7) ∧ ((4 + i1) - 7) < (hl h7 (hr h7 a0 11) : Int)) ∧ Q (hi h7 (hr h7 a0 11) (Int.toNat (((4 + i1) - 7)))) h7) ∧
(i1 = 8 →
 hk h7 a0 = 8 ∧ (hk h7 (hr h7 a0 11) = 20 ∨ hk h7 (hr h7 a0 11) = 26) ∧ (0 ≤ ((4 + i1) - 7) ∧ ((4 + i1) - 7) < (hl h7 (hr h7 a0 11) : Int)) ∧ Q (hi h7 (hr h7 a0 11) (Int.toNat (((4 + i1) - 7)))) h7) ∧
(i1 = 9 →
 hk h7 a0 = 8 ∧ (hk h7 (hr h7 a0 11) = 20 ∨ hk h7 (hr h7 a0 11) = 26) ∧ (0 ≤ ((4 + i1) - 7) ∧ ((4 + i1) - 7) < (hl h7 (hr h7 a0 11) : Int)) ∧ Q (hi h7 (hr h7 a0 11) (Int.toNat (((4 + i1) - 7)))) h7) ∧
(i1 = 10 →
 hk h7 a0 = 8 ∧ (hk h7 (hr h7 a0 11) = 20 ∨ hk h7 (hr h7 a0 11) = 26) ∧ (0 ≤ ((4 + i1) - 7) ∧ ((4 + i1) - 7) < (hl h7 (hr h7 a0 11) : Int)) ∧ Q (hi h7 (hr h7 a0 11) (Int.toNat (((4 + i1) - 7)))) h7) ∧
(i1 = 11 →
 hk h7 a0 = 8 ∧ (hk h7 (hr h7 a0 11) = 20 ∨ hk h7 (hr h7 a0 11) = 26) ∧ (0 ≤ ((4 + i1) - 7) ∧ ((4 + i1) - 7) < (hl h7 (hr h7 a0 11) : Int)) ∧ Q (hi h7 (hr h7 a0 11) (Int.toNat (((4 + i1) - 7)))) h7) ∧
(i1 = 12 →
 hk h7 a0 = 8 ∧ (hk h7 (hr h7 a0 11) = 20 ∨ hk h7 (hr h7 a0 11) = 26) ∧ (0 ≤ ((4 + i1) - 7) ∧ ((4 + i1) - 7) < (hl h7 (hr h7 a0 11) : Int)) ∧ Q (hi h7 (hr h7 a0 11) (Int.toNat (((4 + i1) - 7)))) h7) ∧
(i1 = 13 →
 hk h7 a0 = 8 ∧ call m_X7_toldEnds [pA a0] h7 (fun x10 h10 =>
 Q x10 h10) X) ∧ True) ∧
(x7 ≠ 0 →
 Q 0 h7)) X)) X) ∧
(x1 ≠ 0 →
 Q 0 h1)) X) : wpc k_X7_count [] call mc ms fr Q X [] K 400 (pto 0 k_X7_count) [some (pA a0), some (pI i1)] [] h c s :=
  H
set_option maxRecDepth 100000 in
theorem v_X7_setting_0 (a0 : Nat) (i1 : Int) (h : PH) (c s : Nat) (H : hk h a0 = 8 ∧ call m_X7_notLoaded [pA a0] h (fun x1 h1 =>
 InR x1 ∧ (x1 = 0 →
 call m_X7_in [pI i1, pI 0, pI 3] h1 (fun x2 h2 =>
 InR x2 ∧ (x2 = 0 →
 hk h2 a0 = 8 ∧ call m_X7_refuse [pA a0, pI 1, pI 2] h2 (fun x3 h3 =>
 InR x3 ∧ (x3 = 0 →
 InR i1 ∧ InR 3 ∧ (i1 = 3 →
 hk h3 a0 = 8 ∧ Q (hi h3 a0 2) h3) ∧
(i1 ≠ 3 →
 hk h3 a0 = 8 ∧ (hk h3 (hr h3 a0 11) = 20 ∨ hk h3 (hr h3 a0 11) = 26) ∧ (0 ≤ (10 + i1) ∧ (10 + i1) < (hl h3 (hr h3 a0 11) : Int)) ∧ Q (hi h3 (hr h3 a0 11) (Int.toNat ((10 + i1)))) h3)) ∧
(x3 ≠ 0 →
 Q 0 h3)) X) ∧
(x2 ≠ 0 →
 hk h2 a0 = 8 ∧ call m_X7_refuse [pA a0, pI 0, pI 2] h2 (fun x4 h4 =>
 InR x4 ∧ (x4 = 0 →
 InR i1 ∧ InR 3 ∧ (i1 = 3 →
 hk h4 a0 = 8 ∧ Q (hi h4 a0 2) h4) ∧
(i1 ≠ 3 →
 hk h4 a0 = 8 ∧ (hk h4 (hr h4 a0 11) = 20 ∨ hk h4 (hr h4 a0 11) = 26) ∧ (0 ≤ (10 + i1) ∧ (10 + i1) < (hl h4 (hr h4 a0 11) : Int)) ∧ Q (hi h4 (hr h4 a0 11) (Int.toNat ((10 + i1)))) h4)) ∧
(x4 ≠ 0 →
 Q 0 h4)) X)) X) ∧
(x1 ≠ 0 →
 Q 0 h1)) X) : wpc k_X7_setting [] call mc ms fr Q X [] K 400 (pto 0 k_X7_setting) [some (pA a0), some (pI i1)] [] h c s :=
  H
set_option maxRecDepth 100000 in
theorem v_X7_kind_0 (a0 : Nat) (i1 : Int) (i2 : Int) (h : PH) (c s : Nat) (H : hk h a0 = 8 ∧ call m_X7_noKind [pA a0, pI i1] h (fun x1 h1 =>
 InR x1 ∧ (x1 = 0 →
 call m_X7_in [pI i2, pI 0, pI 2] h1 (fun x2 h2 =>
 InR x2 ∧ (x2 = 0 →
 hk h2 a0 = 8 ∧ call m_X7_refuse [pA a0, pI 1, pI 3] h2 (fun x3 h3 =>
 InR x3 ∧ (x3 = 0 →
 hk h3 a0 = 8 ∧ call m_X7_ofKind [pA a0, pI i1, pI i2] h3 (fun x4 h4 =>
 Q x4 h4) X) ∧
(x3 ≠ 0 →
 Q 0 h3)) X) ∧
(x2 ≠ 0 →
 hk h2 a0 = 8 ∧ call m_X7_refuse [pA a0, pI 0, pI 3] h2 (fun x5 h5 =>
 InR x5 ∧ (x5 = 0 →
 hk h5 a0 = 8 ∧ call m_X7_ofKind [pA a0, pI i1, pI i2] h5 (fun x6 h6 =>
 Q x6 h6) X) ∧
(x5 ≠ 0 →
 Q 0 h5)) X)) X) ∧
(x1 ≠ 0 →
 Q 0 h1)) X) : wpc k_X7_kind [] call mc ms fr Q X [] K 400 (pto 0 k_X7_kind) [some (pA a0), some (pI i1), some (pI i2)] [] h c s :=
  H
set_option maxRecDepth 100000 in
theorem v_X7_program_0 (a0 : Nat) (i1 : Int) (i2 : Int) (h : PH) (c s : Nat) (H : hk h a0 = 8 ∧ call m_X7_noProgram [pA a0, pI i1] h (fun x1 h1 =>
 InR x1 ∧ (x1 = 0 →
 call m_X7_in [pI i2, pI 0, pI 7] h1 (fun x2 h2 =>
 InR x2 ∧ (x2 = 0 →
 hk h2 a0 = 8 ∧ call m_X7_refuse [pA a0, pI 1, pI 3] h2 (fun x3 h3 =>
 InR x3 ∧ (x3 = 0 →
 InR i2 ∧ (i2 < 0 ∨ 3 < i2 →
 hk h3 a0 = 8 ∧ (hk h3 (hr h3 a0 11) = 20 ∨ hk h3 (hr h3 a0 11) = 26) ∧ (0 ≤ (((91 + (4 * i1)) + i2) - 4) ∧ (((91 + (4 * i1)) + i2) - 4) < (hl h3 (hr h3 a0 11) : Int)) ∧ Q (hi h3 (hr h3 a0 11) (Int.toNat ((((91 + (4 * i1)) + i2) - 4)))) h3) ∧
(i2 = 0 →
 hk h3 a0 = 8 ∧ (hk h3 (hr h3 a0 11) = 20 ∨ hk h3 (hr h3 a0 11) = 26) ∧ (0 ≤ (115 + i1) ∧ (115 + i1) < (hl h3 (hr h3 a0 11) : Int)) ∧ Q (hi h3 (hr h3 a0 11) (Int.toNat ((115 + i1)))) h3) ∧
(i2 = 1 →
 hk h3 a0 = 8 ∧ (hk h3 (hr h3 a0 11) = 20 ∨ hk h3 (hr h3 a0 11) = 26) ∧ (0 ≤ (511 + i1) ∧ (511 + i1) < (hl h3 (hr h3 a0 11) : Int)) ∧ Q (hi h3 (hr h3 a0 11) (Int.toNat ((511 + i1)))) h3) ∧
(i2 = 2 →
 hk h3 a0 = 8 ∧ (hk h3 (hr h3 a0 11) = 20 ∨ hk h3 (hr h3 a0 11) = 26) ∧ (0 ≤ (85 + i1) ∧ (85 + i1) < (hl h3 (hr h3 a0 11) : Int)) ∧ Q (hi h3 (hr h3 a0 11) (Int.toNat ((85 + i1)))) h3) ∧
(i2 = 3 →
 hk h3 a0 = 8 ∧ call m_X7_handlersOf [pA a0, pI i1] h3 (fun x4 h4 =>
 Q x4 h4) X) ∧ True) ∧
(x3 ≠ 0 →
 Q 0 h3)) X) ∧
(x2 ≠ 0 →
 hk h2 a0 = 8 ∧ call m_X7_refuse [pA a0, pI 0, pI 3] h2 (fun x5 h5 =>
 InR x5 ∧ (x5 = 0 →
 InR i2 ∧ (i2 < 0 ∨ 3 < i2 →
 hk h5 a0 = 8 ∧ (hk h5 (hr h5 a0 11) = 20 ∨ hk h5 (hr h5 a0 11) = 26) ∧ (0 ≤ (((91 + (4 * i1)) + i2) - 4) ∧ (((91 + (4 * i1)) + i2) - 4) < (hl h5 (hr h5 a0 11) : Int)) ∧ Q (hi h5 (hr h5 a0 11) (Int.toNat ((((91 + (4 * i1)) + i2) - 4)))) h5) ∧
(i2 = 0 →
 hk h5 a0 = 8 ∧ (hk h5 (hr h5 a0 11) = 20 ∨ hk h5 (hr h5 a0 11) = 26) ∧ (0 ≤ (115 + i1) ∧ (115 + i1) < (hl h5 (hr h5 a0 11) : Int)) ∧ Q (hi h5 (hr h5 a0 11) (Int.toNat ((115 + i1)))) h5) ∧
(i2 = 1 →
 hk h5 a0 = 8 ∧ (hk h5 (hr h5 a0 11) = 20 ∨ hk h5 (hr h5 a0 11) = 26) ∧ (0 ≤ (511 + i1) ∧ (511 + i1) < (hl h5 (hr h5 a0 11) : Int)) ∧ Q (hi h5 (hr h5 a0 11) (Int.toNat ((511 + i1)))) h5) ∧
(i2 = 2 →
 hk h5 a0 = 8 ∧ (hk h5 (hr h5 a0 11) = 20 ∨ hk h5 (hr h5 a0 11) = 26) ∧ (0 ≤ (85 + i1) ∧ (85 + i1) < (hl h5 (hr h5 a0 11) : Int)) ∧ Q (hi h5 (hr h5 a0 11) (Int.toNat ((85 + i1)))) h5) ∧
(i2 = 3 →
 hk h5 a0 = 8 ∧ call m_X7_handlersOf [pA a0, pI i1] h5 (fun x6 h6 =>
 Q x6 h6) X) ∧ True) ∧
(x5 ≠ 0 →
 Q 0 h5)) X)) X) ∧
(x1 ≠ 0 →
 Q 0 h1)) X) : wpc k_X7_program [] call mc ms fr Q X [] K 400 (pto 0 k_X7_program) [some (pA a0), some (pI i1), some (pI i2)] [] h c s :=
  H
set_option maxRecDepth 100000 in
theorem v_X7_handler_0 (a0 : Nat) (i1 : Int) (i2 : Int) (i3 : Int) (z4 : Option PV) (z5 : Option PV) (h : PH) (c s : Nat) (H : hk h a0 = 8 ∧ call m_X7_noPair [pA a0, pI i1, pI i2] h (fun x1 h1 =>
 InR x1 ∧ (x1 = 0 →
 call m_X7_in [pI i3, pI 0, pI 49] h1 (fun x2 h2 =>
 InR x2 ∧ (x2 = 0 →
 hk h2 a0 = 8 ∧ call m_X7_refuse [pA a0, pI 1, pI 3] h2 (fun x3 h3 =>
 InR x3 ∧ (x3 = 0 →
 hk h3 a0 = 8 ∧ (hk h3 (hr h3 a0 8) = 20 ∨ hk h3 (hr h3 a0 8) = 26) ∧ (0 ≤ ((8 * i1) + i2) ∧ ((8 * i1) + i2) < (hl h3 (hr h3 a0 8) : Int)) ∧ InR (hi h3 (hr h3 a0 8) (Int.toNat (((8 * i1) + i2)))) ∧ ((hi h3 (hr h3 a0 8) (Int.toNat (((8 * i1) + i2)))) = 0 →
 Q ((-1)) h3) ∧
((hi h3 (hr h3 a0 8) (Int.toNat (((8 * i1) + i2)))) ≠ 0 →
 InR i3 ∧ InR 2 ∧ (i3 < 2 →
 InR i3 ∧ (i3 = 0 →
 hk h3 a0 = 8 ∧ (hk h3 (hr h3 a0 8) = 20 ∨ hk h3 (hr h3 a0 8) = 26) ∧ (0 ≤ ((8 * i1) + i2) ∧ ((8 * i1) + i2) < (hl h3 (hr h3 a0 8) : Int)) ∧ Q (hi h3 (hr h3 a0 8) (Int.toNat (((8 * i1) + i2)))) h3) ∧
(i3 ≠ 0 →
 hk h3 a0 = 8 ∧ (hk h3 (hr h3 a0 9) = 20 ∨ hk h3 (hr h3 a0 9) = 26) ∧ (0 ≤ ((8 * i1) + i2) ∧ ((8 * i1) + i2) < (hl h3 (hr h3 a0 9) : Int)) ∧ Q (hi h3 (hr h3 a0 9) (Int.toNat (((8 * i1) + i2)))) h3)) ∧
(2 ≤ i3 →
 InR i3 ∧ InR 10 ∧ (i3 < 10 →
 InR 0 ∧ ((0 : Int) = 0 →
 Q ((-1)) h3) ∧
((0 : Int) ≠ 0 →
 hk h3 a0 = 8 ∧ InR i3 ∧ InR 10 ∧ (10 : Int) ≠ 0 ∧ InR i3 ∧ InR 10 ∧ (10 : Int) ≠ 0 ∧ (hk h3 (hr h3 a0 10) = 20 ∨ hk h3 (hr h3 a0 10) = 26) ∧ (0 ≤ ((4 * (((4 * ((8 * i1) + i2)) + (Int.tdiv i3 10)) - 1)) + (Int.tmod i3 10)) ∧ ((4 * (((4 * ((8 * i1) + i2)) + (Int.tdiv i3 10)) - 1)) + (Int.tmod i3 10)) < (hl h3 (hr h3 a0 10) : Int)) ∧ Q (hi h3 (hr h3 a0 10) (Int.toNat (((4 * (((4 * ((8 * i1) + i2)) + (Int.tdiv i3 10)) - 1)) + (Int.tmod i3 10))))) h3)) ∧
(10 ≤ i3 →
 InR i3 ∧ InR 10 ∧ (10 : Int) ≠ 0 ∧ InR (Int.tmod i3 10) ∧ InR 4 ∧ ((Int.tmod i3 10) < 4 →
 InR i3 ∧ InR 10 ∧ (10 : Int) ≠ 0 ∧ hk h3 a0 = 8 ∧ (hk h3 (hr h3 a0 9) = 20 ∨ hk h3 (hr h3 a0 9) = 26) ∧ (0 ≤ ((8 * i1) + i2) ∧ ((8 * i1) + i2) < (hl h3 (hr h3 a0 9) : Int)) ∧ InR (Int.tdiv i3 10) ∧ InR (hi h3 (hr h3 a0 9) (Int.toNat (((8 * i1) + i2)))) ∧ ((hi h3 (hr h3 a0 9) (Int.toNat (((8 * i1) + i2)))) < (Int.tdiv i3 10) →
 InR 0 ∧ ((0 : Int) = 0 →
 Q ((-1)) h3) ∧
((0 : Int) ≠ 0 →
 hk h3 a0 = 8 ∧ InR i3 ∧ InR 10 ∧ (10 : Int) ≠ 0 ∧ InR i3 ∧ InR 10 ∧ (10 : Int) ≠ 0 ∧ (hk h3 (hr h3 a0 10) = 20 ∨ hk h3 (hr h3 a0 10) = 26) ∧ (0 ≤ ((4 * (((4 * ((8 * i1) + i2)) + (Int.tdiv i3 10)) - 1)) + (Int.tmod i3 10)) ∧ ((4 * (((4 * ((8 * i1) + i2)) + (Int.tdiv i3 10)) - 1)) + (Int.tmod i3 10)) < (hl h3 (hr h3 a0 10) : Int)) ∧ Q (hi h3 (hr h3 a0 10) (Int.toNat (((4 * (((4 * ((8 * i1) + i2)) + (Int.tdiv i3 10)) - 1)) + (Int.tmod i3 10))))) h3)) ∧
((Int.tdiv i3 10) ≤ (hi h3 (hr h3 a0 9) (Int.toNat (((8 * i1) + i2)))) →
 InR 1 ∧ ((1 : Int) = 0 →
 Q ((-1)) h3) ∧
((1 : Int) ≠ 0 →
 hk h3 a0 = 8 ∧ InR i3 ∧ InR 10 ∧ (10 : Int) ≠ 0 ∧ InR i3 ∧ InR 10 ∧ (10 : Int) ≠ 0 ∧ (hk h3 (hr h3 a0 10) = 20 ∨ hk h3 (hr h3 a0 10) = 26) ∧ (0 ≤ ((4 * (((4 * ((8 * i1) + i2)) + (Int.tdiv i3 10)) - 1)) + (Int.tmod i3 10)) ∧ ((4 * (((4 * ((8 * i1) + i2)) + (Int.tdiv i3 10)) - 1)) + (Int.tmod i3 10)) < (hl h3 (hr h3 a0 10) : Int)) ∧ Q (hi h3 (hr h3 a0 10) (Int.toNat (((4 * (((4 * ((8 * i1) + i2)) + (Int.tdiv i3 10)) - 1)) + (Int.tmod i3 10))))) h3))) ∧
(4 ≤ (Int.tmod i3 10) →
 InR 0 ∧ ((0 : Int) = 0 →
 Q ((-1)) h3) ∧
((0 : Int) ≠ 0 →
 hk h3 a0 = 8 ∧ InR i3 ∧ InR 10 ∧ (10 : Int) ≠ 0 ∧ InR i3 ∧ InR 10 ∧ (10 : Int) ≠ 0 ∧ (hk h3 (hr h3 a0 10) = 20 ∨ hk h3 (hr h3 a0 10) = 26) ∧ (0 ≤ ((4 * (((4 * ((8 * i1) + i2)) + (Int.tdiv i3 10)) - 1)) + (Int.tmod i3 10)) ∧ ((4 * (((4 * ((8 * i1) + i2)) + (Int.tdiv i3 10)) - 1)) + (Int.tmod i3 10)) < (hl h3 (hr h3 a0 10) : Int)) ∧ Q (hi h3 (hr h3 a0 10) (Int.toNat (((4 * (((4 * ((8 * i1) + i2)) + (Int.tdiv i3 10)) - 1)) + (Int.tmod i3 10))))) h3)))))) ∧
(x3 ≠ 0 →
 Q 0 h3)) X) ∧
(x2 ≠ 0 →
 hk h2 a0 = 8 ∧ call m_X7_refuse [pA a0, pI 0, pI 3] h2 (fun x4 h4 =>
 InR x4 ∧ (x4 = 0 →
 hk h4 a0 = 8 ∧ (hk h4 (hr h4 a0 8) = 20 ∨ hk h4 (hr h4 a0 8) = 26) ∧ (0 ≤ ((8 * i1) + i2) ∧ ((8 * i1) + i2) < (hl h4 (hr h4 a0 8) : Int)) ∧ InR (hi h4 (hr h4 a0 8) (Int.toNat (((8 * i1) + i2)))) ∧ ((hi h4 (hr h4 a0 8) (Int.toNat (((8 * i1) + i2)))) = 0 →
 Q ((-1)) h4) ∧
((hi h4 (hr h4 a0 8) (Int.toNat (((8 * i1) + i2)))) ≠ 0 →
 InR i3 ∧ InR 2 ∧ (i3 < 2 →
 InR i3 ∧ (i3 = 0 →
 hk h4 a0 = 8 ∧ (hk h4 (hr h4 a0 8) = 20 ∨ hk h4 (hr h4 a0 8) = 26) ∧ (0 ≤ ((8 * i1) + i2) ∧ ((8 * i1) + i2) < (hl h4 (hr h4 a0 8) : Int)) ∧ Q (hi h4 (hr h4 a0 8) (Int.toNat (((8 * i1) + i2)))) h4) ∧
(i3 ≠ 0 →
 hk h4 a0 = 8 ∧ (hk h4 (hr h4 a0 9) = 20 ∨ hk h4 (hr h4 a0 9) = 26) ∧ (0 ≤ ((8 * i1) + i2) ∧ ((8 * i1) + i2) < (hl h4 (hr h4 a0 9) : Int)) ∧ Q (hi h4 (hr h4 a0 9) (Int.toNat (((8 * i1) + i2)))) h4)) ∧
(2 ≤ i3 →
 InR i3 ∧ InR 10 ∧ (i3 < 10 →
 InR 0 ∧ ((0 : Int) = 0 →
 Q ((-1)) h4) ∧
((0 : Int) ≠ 0 →
 hk h4 a0 = 8 ∧ InR i3 ∧ InR 10 ∧ (10 : Int) ≠ 0 ∧ InR i3 ∧ InR 10 ∧ (10 : Int) ≠ 0 ∧ (hk h4 (hr h4 a0 10) = 20 ∨ hk h4 (hr h4 a0 10) = 26) ∧ (0 ≤ ((4 * (((4 * ((8 * i1) + i2)) + (Int.tdiv i3 10)) - 1)) + (Int.tmod i3 10)) ∧ ((4 * (((4 * ((8 * i1) + i2)) + (Int.tdiv i3 10)) - 1)) + (Int.tmod i3 10)) < (hl h4 (hr h4 a0 10) : Int)) ∧ Q (hi h4 (hr h4 a0 10) (Int.toNat (((4 * (((4 * ((8 * i1) + i2)) + (Int.tdiv i3 10)) - 1)) + (Int.tmod i3 10))))) h4)) ∧
(10 ≤ i3 →
 InR i3 ∧ InR 10 ∧ (10 : Int) ≠ 0 ∧ InR (Int.tmod i3 10) ∧ InR 4 ∧ ((Int.tmod i3 10) < 4 →
 InR i3 ∧ InR 10 ∧ (10 : Int) ≠ 0 ∧ hk h4 a0 = 8 ∧ (hk h4 (hr h4 a0 9) = 20 ∨ hk h4 (hr h4 a0 9) = 26) ∧ (0 ≤ ((8 * i1) + i2) ∧ ((8 * i1) + i2) < (hl h4 (hr h4 a0 9) : Int)) ∧ InR (Int.tdiv i3 10) ∧ InR (hi h4 (hr h4 a0 9) (Int.toNat (((8 * i1) + i2)))) ∧ ((hi h4 (hr h4 a0 9) (Int.toNat (((8 * i1) + i2)))) < (Int.tdiv i3 10) →
 InR 0 ∧ ((0 : Int) = 0 →
 Q ((-1)) h4) ∧
((0 : Int) ≠ 0 →
 hk h4 a0 = 8 ∧ InR i3 ∧ InR 10 ∧ (10 : Int) ≠ 0 ∧ InR i3 ∧ InR 10 ∧ (10 : Int) ≠ 0 ∧ (hk h4 (hr h4 a0 10) = 20 ∨ hk h4 (hr h4 a0 10) = 26) ∧ (0 ≤ ((4 * (((4 * ((8 * i1) + i2)) + (Int.tdiv i3 10)) - 1)) + (Int.tmod i3 10)) ∧ ((4 * (((4 * ((8 * i1) + i2)) + (Int.tdiv i3 10)) - 1)) + (Int.tmod i3 10)) < (hl h4 (hr h4 a0 10) : Int)) ∧ Q (hi h4 (hr h4 a0 10) (Int.toNat (((4 * (((4 * ((8 * i1) + i2)) + (Int.tdiv i3 10)) - 1)) + (Int.tmod i3 10))))) h4)) ∧
((Int.tdiv i3 10) ≤ (hi h4 (hr h4 a0 9) (Int.toNat (((8 * i1) + i2)))) →
 InR 1 ∧ ((1 : Int) = 0 →
 Q ((-1)) h4) ∧
((1 : Int) ≠ 0 →
 hk h4 a0 = 8 ∧ InR i3 ∧ InR 10 ∧ (10 : Int) ≠ 0 ∧ InR i3 ∧ InR 10 ∧ (10 : Int) ≠ 0 ∧ (hk h4 (hr h4 a0 10) = 20 ∨ hk h4 (hr h4 a0 10) = 26) ∧ (0 ≤ ((4 * (((4 * ((8 * i1) + i2)) + (Int.tdiv i3 10)) - 1)) + (Int.tmod i3 10)) ∧ ((4 * (((4 * ((8 * i1) + i2)) + (Int.tdiv i3 10)) - 1)) + (Int.tmod i3 10)) < (hl h4 (hr h4 a0 10) : Int)) ∧ Q (hi h4 (hr h4 a0 10) (Int.toNat (((4 * (((4 * ((8 * i1) + i2)) + (Int.tdiv i3 10)) - 1)) + (Int.tmod i3 10))))) h4))) ∧
(4 ≤ (Int.tmod i3 10) →
 InR 0 ∧ ((0 : Int) = 0 →
 Q ((-1)) h4) ∧
((0 : Int) ≠ 0 →
 hk h4 a0 = 8 ∧ InR i3 ∧ InR 10 ∧ (10 : Int) ≠ 0 ∧ InR i3 ∧ InR 10 ∧ (10 : Int) ≠ 0 ∧ (hk h4 (hr h4 a0 10) = 20 ∨ hk h4 (hr h4 a0 10) = 26) ∧ (0 ≤ ((4 * (((4 * ((8 * i1) + i2)) + (Int.tdiv i3 10)) - 1)) + (Int.tmod i3 10)) ∧ ((4 * (((4 * ((8 * i1) + i2)) + (Int.tdiv i3 10)) - 1)) + (Int.tmod i3 10)) < (hl h4 (hr h4 a0 10) : Int)) ∧ Q (hi h4 (hr h4 a0 10) (Int.toNat (((4 * (((4 * ((8 * i1) + i2)) + (Int.tdiv i3 10)) - 1)) + (Int.tmod i3 10))))) h4)))))) ∧
(x4 ≠ 0 →
 Q 0 h4)) X)) X) ∧
(x1 ≠ 0 →
 Q 0 h1)) X) : wpc k_X7_handler [] call mc ms fr Q X [] K 400 (pto 0 k_X7_handler) [some (pA a0), some (pI i1), some (pI i2), some (pI i3), z4, z5] [] h c s :=
  H
set_option maxRecDepth 100000 in
theorem v_X7_urgency_0 (a0 : Nat) (i1 : Int) (i2 : Int) (h : PH) (c s : Nat) (H : hk h a0 = 8 ∧ call m_X7_noPair [pA a0, pI i1, pI i2] h (fun x1 h1 =>
 InR x1 ∧ (x1 = 0 →
 hk h1 a0 = 8 ∧ call m_X7_urgencyOf [pA a0, pI i1, pI i2] h1 (fun x2 h2 =>
 Q x2 h2) X) ∧
(x1 ≠ 0 →
 Q 0 h1)) X) : wpc k_X7_urgency [] call mc ms fr Q X [] K 400 (pto 0 k_X7_urgency) [some (pA a0), some (pI i1), some (pI i2)] [] h c s :=
  H
set_option maxRecDepth 100000 in
theorem v_X7_tiredness_0 (a0 : Nat) (i1 : Int) (i2 : Int) (h : PH) (c s : Nat) (H : hk h a0 = 8 ∧ call m_X7_noPair [pA a0, pI i1, pI i2] h (fun x1 h1 =>
 InR x1 ∧ (x1 = 0 →
 hk h1 a0 = 8 ∧ call m_X7_tiredOf [pA a0, pI i1, pI i2] h1 (fun x2 h2 =>
 Q x2 h2) X) ∧
(x1 ≠ 0 →
 Q 0 h1)) X) : wpc k_X7_tiredness [] call mc ms fr Q X [] K 400 (pto 0 k_X7_tiredness) [some (pA a0), some (pI i1), some (pI i2)] [] h c s :=
  H
end VCS
theorem S_X7_toldEnds {d b : Nat} {h0 h : PH} {D : Nat → Int → Int} {s : Int → Int} {t : Int} {Q : Int → PH → Prop} {X : Nat → PH → Prop} (M : Mt b h0 h D s t) (hE : 0 ≤ s 2 ∧ s 2 ≤ 2000000000) (H : ∀ x : Int, x = (tld s) → Q x h) : RUN GQ (d + 1) m_X7_toldEnds [pA b] h Q X := by
  rw [e_X7_toldEnds]
  refine WP.of (RUN.mono GQ _) (cuts := []) (n := 400) (v_X7_toldEnds_0 _ _ _ _ ?_)
  refine ⟨M.k0, ?_⟩
  try rw [M.r11]
  refine M.ld6 (by omega) (by omega) (fun er => ?_)
  try rw [er]
  clear er
  refine ⟨ir (by omega) (by omega), ir (by omega) (by omega), ?_⟩
  refine H _ ?_
  unfold tld; split <;> split <;> omega
theorem L_X7_sumOf_4 {d b : Nat} {h0 h : PH} {D : Nat → Int → Int} {s : Int → Int} {t : Int} {Q : Int → PH → Prop} {X : Nat → PH → Prop} {a : Int} (M : Mt b h0 h D s t) (ha : a = 115 ∨ a = 511) (hP : 0 ≤ D 0 4 ∧ D 0 4 ≤ 6) : ∀ (n : Nat) (acc p : Int), (0 ≤ p) → (p + n = D 0 4) → (∀ x : Int, x = suml s a n p acc → Q x h) → WP k_X7_sumOf [] (RUN GQ (d + 0)) 0 0 (d + 1) Q X 4 [some (pA b), some (pI a), some (pI acc), some (pI p)] [] h 0 0 := by
  intro n
  induction n with
  | zero =>
    intro acc p hp hn0 H
    refine WP.of (RUN.mono GQ _) (cuts := [4]) (n := 400) (v_X7_sumOf_4 _ _ _ _ _ _ _ ?_)
    refine ⟨M.k0, ?_⟩
    try rw [M.f4]
    refine ⟨ir (by omega) (by omega), ir (by omega) (by omega), fun c9 => ?_, fun c9 => ?_⟩
    · exfalso; omega
    · exact H _ rfl
  | succ n ih =>
    intro acc p hp hn0 H
    refine WP.of (RUN.mono GQ _) (cuts := [4]) (n := 400) (v_X7_sumOf_4 _ _ _ _ _ _ _ ?_)
    refine ⟨M.k0, ?_⟩
    try rw [M.f4]
    refine ⟨ir (by omega) (by omega), ir (by omega) (by omega), fun c9 => ?_, fun c9 => ?_⟩
    · refine ⟨M.k0, ?_⟩
      try rw [M.r11]
      refine M.ld6 (by omega) (by omega) (fun er => ?_)
      try rw [er]
      clear er
      refine ih _ _ (by omega) (by omega) ?_
      exact H
    · exfalso; omega
theorem S_X7_sumOf {d b : Nat} {h0 h : PH} {D : Nat → Int → Int} {s : Int → Int} {t : Int} {Q : Int → PH → Prop} {X : Nat → PH → Prop} {a : Int} (M : Mt b h0 h D s t) (ha : a = 115 ∨ a = 511) (hP : 0 ≤ D 0 4 ∧ D 0 4 ≤ 6) (H : ∀ x : Int, x = (suml s a (D 0 4).toNat 0 0) → Q x h) : RUN GQ (d + 1) m_X7_sumOf [pA b, pI a] h Q X := by
  rw [e_X7_sumOf]
  refine WP.of (RUN.mono GQ _) (cuts := [4]) (n := 400) (v_X7_sumOf_0 _ _ _ _ _ _ _ ?_)
  refine L_X7_sumOf_4 M ha hP ((D 0 4).toNat) _ _ (by omega) (by omega) ?_
  exact H
theorem L_X7_handlersOf_4 {d b : Nat} {h0 h : PH} {D : Nat → Int → Int} {s : Int → Int} {t : Int} {Q : Int → PH → Prop} {X : Nat → PH → Prop} {p : Int} (M : Mt b h0 h D s t) (hp : 0 ≤ p ∧ p < 6) (V : PIv D) : ∀ (n : Nat) (acc k : Int), (0 ≤ k) → (k + n = D 0 3) → (∀ x : Int, x = hofl D p n k acc → Q x h) → WP k_X7_handlersOf [] (RUN GQ (d + 1)) 0 0 (d + 2) Q X 4 [some (pA b), some (pI p), some (pI acc), some (pI k)] [] h 0 0 := by
  intro n
  induction n with
  | zero =>
    intro acc k hk0 hn0 H
    obtain ⟨v2, v3, v4, vh⟩ := id V
    refine WP.of (RUN.mono GQ _) (cuts := [4]) (n := 400) (v_X7_handlersOf_4 _ _ _ _ _ _ _ ?_)
    refine ⟨M.k0, ?_⟩
    try rw [M.f3]
    refine ⟨ir (by omega) (by omega), ir (by omega) (by omega), fun c9 => ?_, fun c9 => ?_⟩
    · exfalso; omega
    · exact H _ rfl
  | succ n ih =>
    intro acc k hk0 hn0 H
    obtain ⟨v2, v3, v4, vh⟩ := id V
    have h3 := (vh (8 * p + k) (by omega) (by omega)).1
    refine WP.of (RUN.mono GQ _) (cuts := [4]) (n := 400) (v_X7_handlersOf_4 _ _ _ _ _ _ _ ?_)
    refine ⟨M.k0, ?_⟩
    try rw [M.f3]
    refine ⟨ir (by omega) (by omega), ir (by omega) (by omega), fun c9 => ?_, fun c9 => ?_⟩
    · refine ⟨M.k0, ?_⟩
      try rw [M.r8]
      refine M.ld3 (by omega) (by omega) (fun er => ?_)
      try rw [er]
      clear er
      refine ⟨ir (by omega) (by omega), fun c24 => ?_, fun c24 => ?_⟩
      · refine S_X7_flag (by omega) (fun x32 e32 => ?_)
        subst e32
        refine ih _ _ (by omega) (by omega) ?_
        have e : hofl D p (n + 1) k acc = hofl D p n (k + 1) (acc + (if 0 < D 3 (8 * p + k) then 1 else 0)) := rfl
        rw [e] at H
        first | (rw [if_pos (by omega)] at H; exact H) | (rw [if_neg (by omega)] at H; exact H)
      · refine S_X7_flag (by omega) (fun x32 e32 => ?_)
        subst e32
        refine ih _ _ (by omega) (by omega) ?_
        have e : hofl D p (n + 1) k acc = hofl D p n (k + 1) (acc + (if 0 < D 3 (8 * p + k) then 1 else 0)) := rfl
        rw [e] at H
        first | (rw [if_pos (by omega)] at H; exact H) | (rw [if_neg (by omega)] at H; exact H)
    · exfalso; omega
theorem S_X7_handlersOf {d b : Nat} {h0 h : PH} {D : Nat → Int → Int} {s : Int → Int} {t : Int} {Q : Int → PH → Prop} {X : Nat → PH → Prop} {p : Int} (M : Mt b h0 h D s t) (hp : 0 ≤ p ∧ p < 6) (V : PIv D) (H : ∀ x : Int, x = (hof D p) → Q x h) : RUN GQ (d + 2) m_X7_handlersOf [pA b, pI p] h Q X := by
  obtain ⟨v2, v3, v4, vh⟩ := id V
  rw [e_X7_handlersOf]
  refine WP.of (RUN.mono GQ _) (cuts := [4]) (n := 400) (v_X7_handlersOf_0 _ _ _ _ _ _ _ ?_)
  refine L_X7_handlersOf_4 M hp V ((D 0 3).toNat) _ _ (by omega) (by omega) ?_
  exact H
theorem S_X7_count {d b : Nat} {h0 h : PH} {D : Nat → Int → Int} {s : Int → Int} {t : Int} {Q : Int → PH → Prop} {X : Nat → PH → Prop} {N : Int} {w : Int} (M : Mt b h0 h D s t) (W : WD D s N) (hvw : InR w) (H : ∀ (x : Int) h', (ck (tL D) w 0 (13) 2 = 0 → x = cntv D s w) → Mt b h0 h' D s (ck (tL D) w 0 (13) 2) → Q x h') : RUN GQ (d + 3) m_X7_count [pA b, pI w] h Q X := by
  obtain ⟨w1, w2, w3, wN, ws1, wI⟩ := id W
  have kL := tL_or D
  have k1 := ck_or (tL D) w 0 (13) 2
  rw [e_X7_count]
  refine WP.of (RUN.mono GQ _) (cuts := []) (n := 400) (v_X7_count_0 _ _ _ _ _ ?_)
  refine ⟨M.k0, ?_⟩
  refine S_X7_notLoaded M W (fun x1 h1 e1 M1 => ?_)
  refine ⟨ir (by omega) (by omega), fun c4 => ?_, fun c4 => ?_⟩
  · refine S_X7_inB (by omega) (by omega) (by omega) (fun x12 e12 => ?_)
    refine ⟨ir (by omega) (by omega), fun c15 => ?_, fun c15 => ?_⟩
    · refine ⟨M1.k0, ?_⟩
      refine S_X7_refuse M1 (by omega) (by omega) (by omega) (fun x24 h24 t24 e24 M24 => ?_)
      refine ⟨ir (by omega) (by omega), fun c27 => ?_, fun c27 => ?_⟩
      · obtain ⟨I, V, sw⟩ := wI (by omega)
        obtain ⟨v2, v3, v4, vh⟩ := id V
        have e2 := I.e2
        refine ⟨ir (by omega) (by omega), fun c33 => ?_, fun c33 => ?_, fun c33 => ?_, fun c33 => ?_, fun c33 => ?_, fun c33 => ?_, fun c33 => ?_, fun c33 => ?_, fun c33 => ?_, fun c33 => ?_, fun c33 => ?_, fun c33 => ?_, fun c33 => ?_, fun c33 => ?_, fun c33 => ?_, trivial⟩
        · refine ⟨M24.k0, ?_⟩
          try rw [M24.r11]
          refine M24.ld6 (by omega) (by omega) (fun er => ?_)
          try rw [er]
          clear er
          refine H _ _ (fun hT => ?_) (M24.castT (by omega))
          first
          | (exfalso; omega)
          | (unfold cntv; (repeat' split) <;> first | rfl | assumption | (exfalso; omega) | omega)
        · refine ⟨M24.k0, ?_⟩
          try rw [M24.f3]
          refine H _ _ (fun hT => ?_) (M24.castT (by omega))
          first
          | (exfalso; omega)
          | (unfold cntv; (repeat' split) <;> first | rfl | assumption | (exfalso; omega) | omega)
        · refine ⟨M24.k0, ?_⟩
          try rw [M24.f4]
          refine H _ _ (fun hT => ?_) (M24.castT (by omega))
          first
          | (exfalso; omega)
          | (unfold cntv; (repeat' split) <;> first | rfl | assumption | (exfalso; omega) | omega)
        · refine ⟨M24.k0, ?_⟩
          try rw [M24.f5]
          refine H _ _ (fun hT => ?_) (M24.castT (by omega))
          first
          | (exfalso; omega)
          | (unfold cntv; (repeat' split) <;> first | rfl | assumption | (exfalso; omega) | omega)
        · refine ⟨M24.k0, ?_⟩
          try rw [M24.r11]
          refine M24.ld6 (by omega) (by omega) (fun er => ?_)
          try rw [er]
          clear er
          refine H _ _ (fun hT => ?_) (M24.castT (by omega))
          first
          | (exfalso; omega)
          | (unfold cntv; (repeat' split) <;> first | rfl | assumption | (exfalso; omega) | omega)
        · refine ⟨M24.k0, ?_⟩
          try rw [M24.r11]
          refine M24.ld6 (by omega) (by omega) (fun er => ?_)
          try rw [er]
          clear er
          refine H _ _ (fun hT => ?_) (M24.castT (by omega))
          first
          | (exfalso; omega)
          | (unfold cntv; (repeat' split) <;> first | rfl | assumption | (exfalso; omega) | omega)
        · refine ⟨M24.k0, ?_⟩
          refine S_X7_sumOf M24 (by omega) (by omega) (fun x136 e136 => ?_)
          subst e136
          refine H _ _ (fun hT => ?_) (M24.castT (by omega))
          first
          | (exfalso; omega)
          | (unfold cntv; (repeat' split) <;> first | rfl | assumption | (exfalso; omega) | omega)
        · refine ⟨M24.k0, ?_⟩
          refine S_X7_sumOf M24 (by omega) (by omega) (fun x144 e144 => ?_)
          subst e144
          refine H _ _ (fun hT => ?_) (M24.castT (by omega))
          first
          | (exfalso; omega)
          | (unfold cntv; (repeat' split) <;> first | rfl | assumption | (exfalso; omega) | omega)
        · refine ⟨M24.k0, ?_⟩
          try rw [M24.r11]
          refine M24.ld6 (by omega) (by omega) (fun er => ?_)
          try rw [er]
          clear er
          refine H _ _ (fun hT => ?_) (M24.castT (by omega))
          first
          | (exfalso; omega)
          | (unfold cntv; (repeat' split) <;> first | rfl | assumption | (exfalso; omega) | omega)
        · refine ⟨M24.k0, ?_⟩
          try rw [M24.r11]
          refine M24.ld6 (by omega) (by omega) (fun er => ?_)
          try rw [er]
          clear er
          refine H _ _ (fun hT => ?_) (M24.castT (by omega))
          first
          | (exfalso; omega)
          | (unfold cntv; (repeat' split) <;> first | rfl | assumption | (exfalso; omega) | omega)
        · refine ⟨M24.k0, ?_⟩
          try rw [M24.r11]
          refine M24.ld6 (by omega) (by omega) (fun er => ?_)
          try rw [er]
          clear er
          refine H _ _ (fun hT => ?_) (M24.castT (by omega))
          first
          | (exfalso; omega)
          | (unfold cntv; (repeat' split) <;> first | rfl | assumption | (exfalso; omega) | omega)
        · refine ⟨M24.k0, ?_⟩
          try rw [M24.r11]
          refine M24.ld6 (by omega) (by omega) (fun er => ?_)
          try rw [er]
          clear er
          refine H _ _ (fun hT => ?_) (M24.castT (by omega))
          first
          | (exfalso; omega)
          | (unfold cntv; (repeat' split) <;> first | rfl | assumption | (exfalso; omega) | omega)
        · refine ⟨M24.k0, ?_⟩
          try rw [M24.r11]
          refine M24.ld6 (by omega) (by omega) (fun er => ?_)
          try rw [er]
          clear er
          refine H _ _ (fun hT => ?_) (M24.castT (by omega))
          first
          | (exfalso; omega)
          | (unfold cntv; (repeat' split) <;> first | rfl | assumption | (exfalso; omega) | omega)
        · refine ⟨M24.k0, ?_⟩
          try rw [M24.r11]
          refine M24.ld6 (by omega) (by omega) (fun er => ?_)
          try rw [er]
          clear er
          refine H _ _ (fun hT => ?_) (M24.castT (by omega))
          first
          | (exfalso; omega)
          | (unfold cntv; (repeat' split) <;> first | rfl | assumption | (exfalso; omega) | omega)
        · refine ⟨M24.k0, ?_⟩
          refine S_X7_toldEnds M24 (by omega) (fun x149 e149 => ?_)
          subst e149
          refine H _ _ (fun hT => ?_) (M24.castT (by omega))
          first
          | (exfalso; omega)
          | (unfold cntv; (repeat' split) <;> first | rfl | assumption | (exfalso; omega) | omega)
      · refine H _ _ (fun hT => ?_) (M24.castT (by omega))
        first
        | (exfalso; omega)
        | (unfold cntv; (repeat' split) <;> first | rfl | assumption | (exfalso; omega) | omega)
    · refine ⟨M1.k0, ?_⟩
      refine S_X7_refuse M1 (by omega) (by omega) (by omega) (fun x24 h24 t24 e24 M24 => ?_)
      refine ⟨ir (by omega) (by omega), fun c27 => ?_, fun c27 => ?_⟩
      · obtain ⟨I, V, sw⟩ := wI (by omega)
        obtain ⟨v2, v3, v4, vh⟩ := id V
        have e2 := I.e2
        refine ⟨ir (by omega) (by omega), fun c33 => ?_, fun c33 => ?_, fun c33 => ?_, fun c33 => ?_, fun c33 => ?_, fun c33 => ?_, fun c33 => ?_, fun c33 => ?_, fun c33 => ?_, fun c33 => ?_, fun c33 => ?_, fun c33 => ?_, fun c33 => ?_, fun c33 => ?_, fun c33 => ?_, trivial⟩
        · refine ⟨M24.k0, ?_⟩
          try rw [M24.r11]
          refine M24.ld6 (by omega) (by omega) (fun er => ?_)
          try rw [er]
          clear er
          refine H _ _ (fun hT => ?_) (M24.castT (by omega))
          first
          | (exfalso; omega)
          | (unfold cntv; (repeat' split) <;> first | rfl | assumption | (exfalso; omega) | omega)
        · refine ⟨M24.k0, ?_⟩
          try rw [M24.f3]
          refine H _ _ (fun hT => ?_) (M24.castT (by omega))
          first
          | (exfalso; omega)
          | (unfold cntv; (repeat' split) <;> first | rfl | assumption | (exfalso; omega) | omega)
        · refine ⟨M24.k0, ?_⟩
          try rw [M24.f4]
          refine H _ _ (fun hT => ?_) (M24.castT (by omega))
          first
          | (exfalso; omega)
          | (unfold cntv; (repeat' split) <;> first | rfl | assumption | (exfalso; omega) | omega)
        · refine ⟨M24.k0, ?_⟩
          try rw [M24.f5]
          refine H _ _ (fun hT => ?_) (M24.castT (by omega))
          first
          | (exfalso; omega)
          | (unfold cntv; (repeat' split) <;> first | rfl | assumption | (exfalso; omega) | omega)
        · refine ⟨M24.k0, ?_⟩
          try rw [M24.r11]
          refine M24.ld6 (by omega) (by omega) (fun er => ?_)
          try rw [er]
          clear er
          refine H _ _ (fun hT => ?_) (M24.castT (by omega))
          first
          | (exfalso; omega)
          | (unfold cntv; (repeat' split) <;> first | rfl | assumption | (exfalso; omega) | omega)
        · refine ⟨M24.k0, ?_⟩
          try rw [M24.r11]
          refine M24.ld6 (by omega) (by omega) (fun er => ?_)
          try rw [er]
          clear er
          refine H _ _ (fun hT => ?_) (M24.castT (by omega))
          first
          | (exfalso; omega)
          | (unfold cntv; (repeat' split) <;> first | rfl | assumption | (exfalso; omega) | omega)
        · refine ⟨M24.k0, ?_⟩
          refine S_X7_sumOf M24 (by omega) (by omega) (fun x136 e136 => ?_)
          subst e136
          refine H _ _ (fun hT => ?_) (M24.castT (by omega))
          first
          | (exfalso; omega)
          | (unfold cntv; (repeat' split) <;> first | rfl | assumption | (exfalso; omega) | omega)
        · refine ⟨M24.k0, ?_⟩
          refine S_X7_sumOf M24 (by omega) (by omega) (fun x144 e144 => ?_)
          subst e144
          refine H _ _ (fun hT => ?_) (M24.castT (by omega))
          first
          | (exfalso; omega)
          | (unfold cntv; (repeat' split) <;> first | rfl | assumption | (exfalso; omega) | omega)
        · refine ⟨M24.k0, ?_⟩
          try rw [M24.r11]
          refine M24.ld6 (by omega) (by omega) (fun er => ?_)
          try rw [er]
          clear er
          refine H _ _ (fun hT => ?_) (M24.castT (by omega))
          first
          | (exfalso; omega)
          | (unfold cntv; (repeat' split) <;> first | rfl | assumption | (exfalso; omega) | omega)
        · refine ⟨M24.k0, ?_⟩
          try rw [M24.r11]
          refine M24.ld6 (by omega) (by omega) (fun er => ?_)
          try rw [er]
          clear er
          refine H _ _ (fun hT => ?_) (M24.castT (by omega))
          first
          | (exfalso; omega)
          | (unfold cntv; (repeat' split) <;> first | rfl | assumption | (exfalso; omega) | omega)
        · refine ⟨M24.k0, ?_⟩
          try rw [M24.r11]
          refine M24.ld6 (by omega) (by omega) (fun er => ?_)
          try rw [er]
          clear er
          refine H _ _ (fun hT => ?_) (M24.castT (by omega))
          first
          | (exfalso; omega)
          | (unfold cntv; (repeat' split) <;> first | rfl | assumption | (exfalso; omega) | omega)
        · refine ⟨M24.k0, ?_⟩
          try rw [M24.r11]
          refine M24.ld6 (by omega) (by omega) (fun er => ?_)
          try rw [er]
          clear er
          refine H _ _ (fun hT => ?_) (M24.castT (by omega))
          first
          | (exfalso; omega)
          | (unfold cntv; (repeat' split) <;> first | rfl | assumption | (exfalso; omega) | omega)
        · refine ⟨M24.k0, ?_⟩
          try rw [M24.r11]
          refine M24.ld6 (by omega) (by omega) (fun er => ?_)
          try rw [er]
          clear er
          refine H _ _ (fun hT => ?_) (M24.castT (by omega))
          first
          | (exfalso; omega)
          | (unfold cntv; (repeat' split) <;> first | rfl | assumption | (exfalso; omega) | omega)
        · refine ⟨M24.k0, ?_⟩
          try rw [M24.r11]
          refine M24.ld6 (by omega) (by omega) (fun er => ?_)
          try rw [er]
          clear er
          refine H _ _ (fun hT => ?_) (M24.castT (by omega))
          first
          | (exfalso; omega)
          | (unfold cntv; (repeat' split) <;> first | rfl | assumption | (exfalso; omega) | omega)
        · refine ⟨M24.k0, ?_⟩
          refine S_X7_toldEnds M24 (by omega) (fun x149 e149 => ?_)
          subst e149
          refine H _ _ (fun hT => ?_) (M24.castT (by omega))
          first
          | (exfalso; omega)
          | (unfold cntv; (repeat' split) <;> first | rfl | assumption | (exfalso; omega) | omega)
      · refine H _ _ (fun hT => ?_) (M24.castT (by omega))
        first
        | (exfalso; omega)
        | (unfold cntv; (repeat' split) <;> first | rfl | assumption | (exfalso; omega) | omega)
  · refine H _ _ (fun hT => ?_) (M1.castT (by omega))
    first
    | (exfalso; omega)
    | (unfold cntv; (repeat' split) <;> first | rfl | assumption | (exfalso; omega) | omega)
theorem S_X7_setting {d b : Nat} {h0 h : PH} {D : Nat → Int → Int} {s : Int → Int} {t : Int} {Q : Int → PH → Prop} {X : Nat → PH → Prop} {N : Int} {w : Int} (M : Mt b h0 h D s t) (W : WD D s N) (hvw : InR w) (H : ∀ (x : Int) h', (ck (tL D) w 0 (3) 2 = 0 → x = (if w = 3 then D 0 2 else s (10 + w))) → Mt b h0 h' D s (ck (tL D) w 0 (3) 2) → Q x h') : RUN GQ (d + 3) m_X7_setting [pA b, pI w] h Q X := by
  obtain ⟨w1, w2, w3, wN, ws1, wI⟩ := id W
  have kL := tL_or D
  have k1 := ck_or (tL D) w 0 (3) 2
  rw [e_X7_setting]
  refine WP.of (RUN.mono GQ _) (cuts := []) (n := 400) (v_X7_setting_0 _ _ _ _ _ ?_)
  refine ⟨M.k0, ?_⟩
  refine S_X7_notLoaded M W (fun x1 h1 e1 M1 => ?_)
  refine ⟨ir (by omega) (by omega), fun c4 => ?_, fun c4 => ?_⟩
  · refine S_X7_inB (by omega) (by omega) (by omega) (fun x11 e11 => ?_)
    refine ⟨ir (by omega) (by omega), fun c14 => ?_, fun c14 => ?_⟩
    · refine ⟨M1.k0, ?_⟩
      refine S_X7_refuse M1 (by omega) (by omega) (by omega) (fun x23 h23 t23 e23 M23 => ?_)
      refine ⟨ir (by omega) (by omega), fun c26 => ?_, fun c26 => ?_⟩
      · obtain ⟨I, V, sw⟩ := wI (by omega)
        obtain ⟨v2, v3, v4, vh⟩ := id V
        refine ⟨ir (by omega) (by omega), ir (by omega) (by omega), fun c35 => ?_, fun c35 => ?_⟩
        · refine ⟨M23.k0, ?_⟩
          try rw [M23.f2]
          refine H _ _ (fun hT => ?_) (M23.castT (by omega))
          first
          | (exfalso; omega)
          | ((repeat' split) <;> first | rfl | (exfalso; omega))
        · refine ⟨M23.k0, ?_⟩
          try rw [M23.r11]
          refine M23.ld6 (by omega) (by omega) (fun er => ?_)
          try rw [er]
          clear er
          refine H _ _ (fun hT => ?_) (M23.castT (by omega))
          first
          | (exfalso; omega)
          | ((repeat' split) <;> first | rfl | (exfalso; omega))
      · refine H _ _ (fun hT => ?_) (M23.castT (by omega))
        first
        | (exfalso; omega)
        | ((repeat' split) <;> first | rfl | (exfalso; omega))
    · refine ⟨M1.k0, ?_⟩
      refine S_X7_refuse M1 (by omega) (by omega) (by omega) (fun x23 h23 t23 e23 M23 => ?_)
      refine ⟨ir (by omega) (by omega), fun c26 => ?_, fun c26 => ?_⟩
      · obtain ⟨I, V, sw⟩ := wI (by omega)
        obtain ⟨v2, v3, v4, vh⟩ := id V
        refine ⟨ir (by omega) (by omega), ir (by omega) (by omega), fun c35 => ?_, fun c35 => ?_⟩
        · refine ⟨M23.k0, ?_⟩
          try rw [M23.f2]
          refine H _ _ (fun hT => ?_) (M23.castT (by omega))
          first
          | (exfalso; omega)
          | ((repeat' split) <;> first | rfl | (exfalso; omega))
        · refine ⟨M23.k0, ?_⟩
          try rw [M23.r11]
          refine M23.ld6 (by omega) (by omega) (fun er => ?_)
          try rw [er]
          clear er
          refine H _ _ (fun hT => ?_) (M23.castT (by omega))
          first
          | (exfalso; omega)
          | ((repeat' split) <;> first | rfl | (exfalso; omega))
      · refine H _ _ (fun hT => ?_) (M23.castT (by omega))
        first
        | (exfalso; omega)
        | ((repeat' split) <;> first | rfl | (exfalso; omega))
  · refine H _ _ (fun hT => ?_) (M1.castT (by omega))
    first
    | (exfalso; omega)
    | ((repeat' split) <;> first | rfl | (exfalso; omega))
theorem S_X7_kind {d b : Nat} {h0 h : PH} {D : Nat → Int → Int} {s : Int → Int} {t : Int} {Q : Int → PH → Prop} {X : Nat → PH → Prop} {N : Int} {k w : Int} (M : Mt b h0 h D s t) (W : WD D s N) (hvk : InR k) (hvw : InR w) (H : ∀ (x : Int) h', (ck (ck (tL D) k 0 (D 0 3 - 1) 2) w 0 (2) 3 = 0 → x = kn s k w) → Mt b h0 h' D s (ck (ck (tL D) k 0 (D 0 3 - 1) 2) w 0 (2) 3) → Q x h') : RUN GQ (d + 4) m_X7_kind [pA b, pI k, pI w] h Q X := by
  obtain ⟨w1, w2, w3, wN, ws1, wI⟩ := id W
  have kL := tL_or D
  have k1 := ck_or (tL D) k 0 (D 0 3 - 1) 2
  have k2 := ck_or (ck (tL D) k 0 (D 0 3 - 1) 2) w 0 (2) 3
  rw [e_X7_kind]
  refine WP.of (RUN.mono GQ _) (cuts := []) (n := 400) (v_X7_kind_0 _ _ _ _ _ _ ?_)
  refine ⟨M.k0, ?_⟩
  refine S_X7_noKind M W (by omega) (fun x2 h2 e2 M2 => ?_)
  refine ⟨ir (by omega) (by omega), fun c5 => ?_, fun c5 => ?_⟩
  · refine S_X7_inB (by omega) (by omega) (by omega) (fun x12 e12 => ?_)
    refine ⟨ir (by omega) (by omega), fun c15 => ?_, fun c15 => ?_⟩
    · refine ⟨M2.k0, ?_⟩
      refine S_X7_refuse M2 (by omega) (by omega) (by omega) (fun x24 h24 t24 e24 M24 => ?_)
      refine ⟨ir (by omega) (by omega), fun c27 => ?_, fun c27 => ?_⟩
      · obtain ⟨I, V, sw⟩ := wI (by omega)
        obtain ⟨v2, v3, v4, vh⟩ := id V
        refine ⟨M24.k0, ?_⟩
        refine S_X7_ofKind M24 (by omega) (by omega) (fun x37 e37 => ?_)
        subst e37
        refine H _ _ (fun hT => ?_) (M24.castT (by omega))
        first
        | (exfalso; omega)
        | (first | rfl | assumption)
      · refine H _ _ (fun hT => ?_) (M24.castT (by omega))
        first
        | (exfalso; omega)
        | (first | rfl | assumption)
    · refine ⟨M2.k0, ?_⟩
      refine S_X7_refuse M2 (by omega) (by omega) (by omega) (fun x24 h24 t24 e24 M24 => ?_)
      refine ⟨ir (by omega) (by omega), fun c27 => ?_, fun c27 => ?_⟩
      · obtain ⟨I, V, sw⟩ := wI (by omega)
        obtain ⟨v2, v3, v4, vh⟩ := id V
        refine ⟨M24.k0, ?_⟩
        refine S_X7_ofKind M24 (by omega) (by omega) (fun x37 e37 => ?_)
        subst e37
        refine H _ _ (fun hT => ?_) (M24.castT (by omega))
        first
        | (exfalso; omega)
        | (first | rfl | assumption)
      · refine H _ _ (fun hT => ?_) (M24.castT (by omega))
        first
        | (exfalso; omega)
        | (first | rfl | assumption)
  · refine H _ _ (fun hT => ?_) (M2.castT (by omega))
    first
    | (exfalso; omega)
    | (first | rfl | assumption)
theorem S_X7_program {d b : Nat} {h0 h : PH} {D : Nat → Int → Int} {s : Int → Int} {t : Int} {Q : Int → PH → Prop} {X : Nat → PH → Prop} {N : Int} {p w : Int} (M : Mt b h0 h D s t) (W : WD D s N) (hvp : InR p) (hvw : InR w) (H : ∀ (x : Int) h', (ck (ck (tL D) p 0 (D 0 4 - 1) 2) w 0 (7) 3 = 0 → x = prgv D s p w) → Mt b h0 h' D s (ck (ck (tL D) p 0 (D 0 4 - 1) 2) w 0 (7) 3) → Q x h') : RUN GQ (d + 4) m_X7_program [pA b, pI p, pI w] h Q X := by
  obtain ⟨w1, w2, w3, wN, ws1, wI⟩ := id W
  have kL := tL_or D
  have k1 := ck_or (tL D) p 0 (D 0 4 - 1) 2
  have k2 := ck_or (ck (tL D) p 0 (D 0 4 - 1) 2) w 0 (7) 3
  rw [e_X7_program]
  refine WP.of (RUN.mono GQ _) (cuts := []) (n := 400) (v_X7_program_0 _ _ _ _ _ _ ?_)
  refine ⟨M.k0, ?_⟩
  refine S_X7_noProgram M W (by omega) (fun x2 h2 e2 M2 => ?_)
  refine ⟨ir (by omega) (by omega), fun c5 => ?_, fun c5 => ?_⟩
  · refine S_X7_inB (by omega) (by omega) (by omega) (fun x13 e13 => ?_)
    refine ⟨ir (by omega) (by omega), fun c16 => ?_, fun c16 => ?_⟩
    · refine ⟨M2.k0, ?_⟩
      refine S_X7_refuse M2 (by omega) (by omega) (by omega) (fun x25 h25 t25 e25 M25 => ?_)
      refine ⟨ir (by omega) (by omega), fun c28 => ?_, fun c28 => ?_⟩
      · obtain ⟨I, V, sw⟩ := wI (by omega)
        obtain ⟨v2, v3, v4, vh⟩ := id V
        refine ⟨ir (by omega) (by omega), fun c34 => ?_, fun c34 => ?_, fun c34 => ?_, fun c34 => ?_, fun c34 => ?_, trivial⟩
        · refine ⟨M25.k0, ?_⟩
          try rw [M25.r11]
          refine M25.ld6 (by omega) (by omega) (fun er => ?_)
          try rw [er]
          clear er
          refine H _ _ (fun hT => ?_) (M25.castT (by omega))
          first
          | (exfalso; omega)
          | (unfold prgv; (repeat' split) <;> first | rfl | assumption | (exfalso; omega))
        · refine ⟨M25.k0, ?_⟩
          try rw [M25.r11]
          refine M25.ld6 (by omega) (by omega) (fun er => ?_)
          try rw [er]
          clear er
          refine H _ _ (fun hT => ?_) (M25.castT (by omega))
          first
          | (exfalso; omega)
          | (unfold prgv; (repeat' split) <;> first | rfl | assumption | (exfalso; omega))
        · refine ⟨M25.k0, ?_⟩
          try rw [M25.r11]
          refine M25.ld6 (by omega) (by omega) (fun er => ?_)
          try rw [er]
          clear er
          refine H _ _ (fun hT => ?_) (M25.castT (by omega))
          first
          | (exfalso; omega)
          | (unfold prgv; (repeat' split) <;> first | rfl | assumption | (exfalso; omega))
        · refine ⟨M25.k0, ?_⟩
          try rw [M25.r11]
          refine M25.ld6 (by omega) (by omega) (fun er => ?_)
          try rw [er]
          clear er
          refine H _ _ (fun hT => ?_) (M25.castT (by omega))
          first
          | (exfalso; omega)
          | (unfold prgv; (repeat' split) <;> first | rfl | assumption | (exfalso; omega))
        · refine ⟨M25.k0, ?_⟩
          refine S_X7_handlersOf M25 (by omega) (by exact V) (fun x97 e97 => ?_)
          subst e97
          refine H _ _ (fun hT => ?_) (M25.castT (by omega))
          first
          | (exfalso; omega)
          | (unfold prgv; (repeat' split) <;> first | rfl | assumption | (exfalso; omega))
      · refine H _ _ (fun hT => ?_) (M25.castT (by omega))
        first
        | (exfalso; omega)
        | (unfold prgv; (repeat' split) <;> first | rfl | assumption | (exfalso; omega))
    · refine ⟨M2.k0, ?_⟩
      refine S_X7_refuse M2 (by omega) (by omega) (by omega) (fun x25 h25 t25 e25 M25 => ?_)
      refine ⟨ir (by omega) (by omega), fun c28 => ?_, fun c28 => ?_⟩
      · obtain ⟨I, V, sw⟩ := wI (by omega)
        obtain ⟨v2, v3, v4, vh⟩ := id V
        refine ⟨ir (by omega) (by omega), fun c34 => ?_, fun c34 => ?_, fun c34 => ?_, fun c34 => ?_, fun c34 => ?_, trivial⟩
        · refine ⟨M25.k0, ?_⟩
          try rw [M25.r11]
          refine M25.ld6 (by omega) (by omega) (fun er => ?_)
          try rw [er]
          clear er
          refine H _ _ (fun hT => ?_) (M25.castT (by omega))
          first
          | (exfalso; omega)
          | (unfold prgv; (repeat' split) <;> first | rfl | assumption | (exfalso; omega))
        · refine ⟨M25.k0, ?_⟩
          try rw [M25.r11]
          refine M25.ld6 (by omega) (by omega) (fun er => ?_)
          try rw [er]
          clear er
          refine H _ _ (fun hT => ?_) (M25.castT (by omega))
          first
          | (exfalso; omega)
          | (unfold prgv; (repeat' split) <;> first | rfl | assumption | (exfalso; omega))
        · refine ⟨M25.k0, ?_⟩
          try rw [M25.r11]
          refine M25.ld6 (by omega) (by omega) (fun er => ?_)
          try rw [er]
          clear er
          refine H _ _ (fun hT => ?_) (M25.castT (by omega))
          first
          | (exfalso; omega)
          | (unfold prgv; (repeat' split) <;> first | rfl | assumption | (exfalso; omega))
        · refine ⟨M25.k0, ?_⟩
          try rw [M25.r11]
          refine M25.ld6 (by omega) (by omega) (fun er => ?_)
          try rw [er]
          clear er
          refine H _ _ (fun hT => ?_) (M25.castT (by omega))
          first
          | (exfalso; omega)
          | (unfold prgv; (repeat' split) <;> first | rfl | assumption | (exfalso; omega))
        · refine ⟨M25.k0, ?_⟩
          refine S_X7_handlersOf M25 (by omega) (by exact V) (fun x97 e97 => ?_)
          subst e97
          refine H _ _ (fun hT => ?_) (M25.castT (by omega))
          first
          | (exfalso; omega)
          | (unfold prgv; (repeat' split) <;> first | rfl | assumption | (exfalso; omega))
      · refine H _ _ (fun hT => ?_) (M25.castT (by omega))
        first
        | (exfalso; omega)
        | (unfold prgv; (repeat' split) <;> first | rfl | assumption | (exfalso; omega))
  · refine H _ _ (fun hT => ?_) (M2.castT (by omega))
    first
    | (exfalso; omega)
    | (unfold prgv; (repeat' split) <;> first | rfl | assumption | (exfalso; omega))
theorem S_X7_handler {d b : Nat} {h0 h : PH} {D : Nat → Int → Int} {s : Int → Int} {t : Int} {Q : Int → PH → Prop} {X : Nat → PH → Prop} {N : Int} {p k w : Int} (M : Mt b h0 h D s t) (W : WD D s N) (hvp : InR p) (hvk : InR k) (hvw : InR w) (H : ∀ (x : Int) h', (ck (ck (ck (tL D) p 0 (D 0 4 - 1) 2) k 0 (D 0 3 - 1) 2) w 0 (49) 3 = 0 → x = hdlv D p k w) → Mt b h0 h' D s (ck (ck (ck (tL D) p 0 (D 0 4 - 1) 2) k 0 (D 0 3 - 1) 2) w 0 (49) 3) → Q x h') : RUN GQ (d + 5) m_X7_handler [pA b, pI p, pI k, pI w] h Q X := by
  obtain ⟨w1, w2, w3, wN, ws1, wI⟩ := id W
  have kL := tL_or D
  have k1 := ck_or (tL D) p 0 (D 0 4 - 1) 2
  have k2 := ck_or (ck (tL D) p 0 (D 0 4 - 1) 2) k 0 (D 0 3 - 1) 2
  have k3 := ck_or (ck (ck (tL D) p 0 (D 0 4 - 1) 2) k 0 (D 0 3 - 1) 2) w 0 (49) 3
  rw [e_X7_handler]
  refine WP.of (RUN.mono GQ _) (cuts := []) (n := 400) (v_X7_handler_0 _ _ _ _ _ _ _ _ _ ?_)
  refine ⟨M.k0, ?_⟩
  refine S_X7_noPair M W (by omega) (by omega) (fun x3 h3 e3 M3 => ?_)
  refine ⟨ir (by omega) (by omega), fun c6 => ?_, fun c6 => ?_⟩
  · refine S_X7_inB (by omega) (by omega) (by omega) (fun x14 e14 => ?_)
    refine ⟨ir (by omega) (by omega), fun c17 => ?_, fun c17 => ?_⟩
    · refine ⟨M3.k0, ?_⟩
      refine S_X7_refuse M3 (by omega) (by omega) (by omega) (fun x26 h26 t26 e26 M26 => ?_)
      refine ⟨ir (by omega) (by omega), fun c29 => ?_, fun c29 => ?_⟩
      · obtain ⟨I, V, sw⟩ := wI (by omega)
        obtain ⟨v2, v3, v4, vh⟩ := id V
        have h48 : 0 ≤ 8 * p + k ∧ 8 * p + k < 48 := by omega
        have hh := vh _ h48.1 h48.2
        have wt := tmN (x := w) (y := 10) (by omega) (by omega)
        have wd : 0 ≤ Int.tdiv w 10 ∧ Int.tdiv w 10 < 5 := by rw [Int.tdiv_eq_ediv_of_nonneg (by omega)]; omega
        have wd1 : 10 ≤ w → 1 ≤ Int.tdiv w 10 := fun h => by rw [Int.tdiv_eq_ediv_of_nonneg (by omega)]; omega
        refine ⟨M26.k0, ?_⟩
        try rw [M26.r8]
        refine M26.ld3 (by omega) (by omega) (fun er => ?_)
        try rw [er]
        clear er
        refine ⟨ir (by omega) (by omega), fun c49 => ?_, fun c49 => ?_⟩
        · refine H _ _ (fun hT => ?_) (M26.castT (by omega))
          first
          | (exfalso; omega)
          | (unfold hdlv; (repeat' split) <;> first | rfl | (exfalso; omega))
        · refine ⟨ir (by omega) (by omega), ir (by omega) (by omega), fun c56 => ?_, fun c56 => ?_⟩
          · refine ⟨ir (by omega) (by omega), fun c60 => ?_, fun c60 => ?_⟩
            · refine ⟨M26.k0, ?_⟩
              try rw [M26.r8]
              refine M26.ld3 (by omega) (by omega) (fun er => ?_)
              try rw [er]
              clear er
              refine H _ _ (fun hT => ?_) (M26.castT (by omega))
              first
              | (exfalso; omega)
              | (unfold hdlv; (repeat' split) <;> first | rfl | (exfalso; omega))
            · refine ⟨M26.k0, ?_⟩
              try rw [M26.r9]
              refine M26.ld4 (by omega) (by omega) (fun er => ?_)
              try rw [er]
              clear er
              refine H _ _ (fun hT => ?_) (M26.castT (by omega))
              first
              | (exfalso; omega)
              | (unfold hdlv; (repeat' split) <;> first | rfl | (exfalso; omega))
          · refine ⟨ir (by omega) (by omega), ir (by omega) (by omega), fun c84 => ?_, fun c84 => ?_⟩
            · refine ⟨ir (by omega) (by omega), fun c118 => ?_, fun c118 => ?_⟩
              · refine H _ _ (fun hT => ?_) (M26.castT (by omega))
                first
                | (exfalso; omega)
                | (unfold hdlv; (repeat' split) <;> first | rfl | (exfalso; omega))
              · exfalso; omega
            · refine ⟨ir (by omega) (by omega), ir (by omega) (by omega), (by omega), ?_⟩
              refine ⟨ir (by omega) (by omega), ir (by omega) (by omega), fun c92 => ?_, fun c92 => ?_⟩
              · refine ⟨ir (by omega) (by omega), ir (by omega) (by omega), (by omega), ?_⟩
                refine ⟨M26.k0, ?_⟩
                try rw [M26.r9]
                refine M26.ld4 (by omega) (by omega) (fun er => ?_)
                try rw [er]
                clear er
                refine ⟨ir (by omega) (by omega), ir (by omega) (by omega), fun c106 => ?_, fun c106 => ?_⟩
                · refine ⟨ir (by omega) (by omega), fun c118 => ?_, fun c118 => ?_⟩
                  · refine H _ _ (fun hT => ?_) (M26.castT (by omega))
                    first
                    | (exfalso; omega)
                    | (unfold hdlv; (repeat' split) <;> first | rfl | (exfalso; omega))
                  · exfalso; omega
                · refine ⟨ir (by omega) (by omega), fun c118 => ?_, fun c118 => ?_⟩
                  · exfalso; omega
                  · refine ⟨M26.k0, ?_⟩
                    try rw [M26.r10]
                    refine ⟨ir (by omega) (by omega), ir (by omega) (by omega), (by omega), ?_⟩
                    refine ⟨ir (by omega) (by omega), ir (by omega) (by omega), (by omega), ?_⟩
                    refine M26.ld5 (by omega) (by omega) (fun er => ?_)
                    try rw [er]
                    clear er
                    refine H _ _ (fun hT => ?_) (M26.castT (by omega))
                    first
                    | (exfalso; omega)
                    | (unfold hdlv; (repeat' split) <;> first | rfl | (exfalso; omega))
              · refine ⟨ir (by omega) (by omega), fun c118 => ?_, fun c118 => ?_⟩
                · refine H _ _ (fun hT => ?_) (M26.castT (by omega))
                  first
                  | (exfalso; omega)
                  | (unfold hdlv; (repeat' split) <;> first | rfl | (exfalso; omega))
                · exfalso; omega
      · refine H _ _ (fun hT => ?_) (M26.castT (by omega))
        first
        | (exfalso; omega)
        | (unfold hdlv; (repeat' split) <;> first | rfl | (exfalso; omega))
    · refine ⟨M3.k0, ?_⟩
      refine S_X7_refuse M3 (by omega) (by omega) (by omega) (fun x26 h26 t26 e26 M26 => ?_)
      refine ⟨ir (by omega) (by omega), fun c29 => ?_, fun c29 => ?_⟩
      · obtain ⟨I, V, sw⟩ := wI (by omega)
        obtain ⟨v2, v3, v4, vh⟩ := id V
        have h48 : 0 ≤ 8 * p + k ∧ 8 * p + k < 48 := by omega
        have hh := vh _ h48.1 h48.2
        have wt := tmN (x := w) (y := 10) (by omega) (by omega)
        have wd : 0 ≤ Int.tdiv w 10 ∧ Int.tdiv w 10 < 5 := by rw [Int.tdiv_eq_ediv_of_nonneg (by omega)]; omega
        have wd1 : 10 ≤ w → 1 ≤ Int.tdiv w 10 := fun h => by rw [Int.tdiv_eq_ediv_of_nonneg (by omega)]; omega
        refine ⟨M26.k0, ?_⟩
        try rw [M26.r8]
        refine M26.ld3 (by omega) (by omega) (fun er => ?_)
        try rw [er]
        clear er
        refine ⟨ir (by omega) (by omega), fun c49 => ?_, fun c49 => ?_⟩
        · refine H _ _ (fun hT => ?_) (M26.castT (by omega))
          first
          | (exfalso; omega)
          | (unfold hdlv; (repeat' split) <;> first | rfl | (exfalso; omega))
        · refine ⟨ir (by omega) (by omega), ir (by omega) (by omega), fun c56 => ?_, fun c56 => ?_⟩
          · refine ⟨ir (by omega) (by omega), fun c60 => ?_, fun c60 => ?_⟩
            · refine ⟨M26.k0, ?_⟩
              try rw [M26.r8]
              refine M26.ld3 (by omega) (by omega) (fun er => ?_)
              try rw [er]
              clear er
              refine H _ _ (fun hT => ?_) (M26.castT (by omega))
              first
              | (exfalso; omega)
              | (unfold hdlv; (repeat' split) <;> first | rfl | (exfalso; omega))
            · refine ⟨M26.k0, ?_⟩
              try rw [M26.r9]
              refine M26.ld4 (by omega) (by omega) (fun er => ?_)
              try rw [er]
              clear er
              refine H _ _ (fun hT => ?_) (M26.castT (by omega))
              first
              | (exfalso; omega)
              | (unfold hdlv; (repeat' split) <;> first | rfl | (exfalso; omega))
          · refine ⟨ir (by omega) (by omega), ir (by omega) (by omega), fun c84 => ?_, fun c84 => ?_⟩
            · refine ⟨ir (by omega) (by omega), fun c118 => ?_, fun c118 => ?_⟩
              · refine H _ _ (fun hT => ?_) (M26.castT (by omega))
                first
                | (exfalso; omega)
                | (unfold hdlv; (repeat' split) <;> first | rfl | (exfalso; omega))
              · exfalso; omega
            · refine ⟨ir (by omega) (by omega), ir (by omega) (by omega), (by omega), ?_⟩
              refine ⟨ir (by omega) (by omega), ir (by omega) (by omega), fun c92 => ?_, fun c92 => ?_⟩
              · refine ⟨ir (by omega) (by omega), ir (by omega) (by omega), (by omega), ?_⟩
                refine ⟨M26.k0, ?_⟩
                try rw [M26.r9]
                refine M26.ld4 (by omega) (by omega) (fun er => ?_)
                try rw [er]
                clear er
                refine ⟨ir (by omega) (by omega), ir (by omega) (by omega), fun c106 => ?_, fun c106 => ?_⟩
                · refine ⟨ir (by omega) (by omega), fun c118 => ?_, fun c118 => ?_⟩
                  · refine H _ _ (fun hT => ?_) (M26.castT (by omega))
                    first
                    | (exfalso; omega)
                    | (unfold hdlv; (repeat' split) <;> first | rfl | (exfalso; omega))
                  · exfalso; omega
                · refine ⟨ir (by omega) (by omega), fun c118 => ?_, fun c118 => ?_⟩
                  · exfalso; omega
                  · refine ⟨M26.k0, ?_⟩
                    try rw [M26.r10]
                    refine ⟨ir (by omega) (by omega), ir (by omega) (by omega), (by omega), ?_⟩
                    refine ⟨ir (by omega) (by omega), ir (by omega) (by omega), (by omega), ?_⟩
                    refine M26.ld5 (by omega) (by omega) (fun er => ?_)
                    try rw [er]
                    clear er
                    refine H _ _ (fun hT => ?_) (M26.castT (by omega))
                    first
                    | (exfalso; omega)
                    | (unfold hdlv; (repeat' split) <;> first | rfl | (exfalso; omega))
              · refine ⟨ir (by omega) (by omega), fun c118 => ?_, fun c118 => ?_⟩
                · refine H _ _ (fun hT => ?_) (M26.castT (by omega))
                  first
                  | (exfalso; omega)
                  | (unfold hdlv; (repeat' split) <;> first | rfl | (exfalso; omega))
                · exfalso; omega
      · refine H _ _ (fun hT => ?_) (M26.castT (by omega))
        first
        | (exfalso; omega)
        | (unfold hdlv; (repeat' split) <;> first | rfl | (exfalso; omega))
  · refine H _ _ (fun hT => ?_) (M3.castT (by omega))
    first
    | (exfalso; omega)
    | (unfold hdlv; (repeat' split) <;> first | rfl | (exfalso; omega))
theorem S_X7_urgency {d b : Nat} {h0 h : PH} {D : Nat → Int → Int} {s : Int → Int} {t : Int} {Q : Int → PH → Prop} {X : Nat → PH → Prop} {N : Int} {p k : Int} (M : Mt b h0 h D s t) (W : WD D s N) (hvp : InR p) (hvk : InR k) (H : ∀ (x : Int) h', (ck (ck (tL D) p 0 (D 0 4 - 1) 2) k 0 (D 0 3 - 1) 2 = 0 → x = ur s p k) → Mt b h0 h' D s (ck (ck (tL D) p 0 (D 0 4 - 1) 2) k 0 (D 0 3 - 1) 2) → Q x h') : RUN GQ (d + 5) m_X7_urgency [pA b, pI p, pI k] h Q X := by
  obtain ⟨w1, w2, w3, wN, ws1, wI⟩ := id W
  have kL := tL_or D
  have k1 := ck_or (tL D) p 0 (D 0 4 - 1) 2
  have k2 := ck_or (ck (tL D) p 0 (D 0 4 - 1) 2) k 0 (D 0 3 - 1) 2
  rw [e_X7_urgency]
  refine WP.of (RUN.mono GQ _) (cuts := []) (n := 400) (v_X7_urgency_0 _ _ _ _ _ _ ?_)
  refine ⟨M.k0, ?_⟩
  refine S_X7_noPair M W (by omega) (by omega) (fun x3 h3 e3 M3 => ?_)
  refine ⟨ir (by omega) (by omega), fun c6 => ?_, fun c6 => ?_⟩
  · obtain ⟨I, V, sw⟩ := wI (by omega)
    obtain ⟨v2, v3, v4, vh⟩ := id V
    have uu := I.ur (p := p) (k := k) ⟨by omega, by omega⟩ ⟨by omega, by omega⟩
    refine ⟨M3.k0, ?_⟩
    refine S_X7_urgencyOf M3 (by omega) (by omega) (by exact uu.2) (fun x16 e16 => ?_)
    subst e16
    refine H _ _ (fun hT => ?_) (M3.castT (by omega))
    first
    | (exfalso; omega)
    | (first | rfl | assumption)
  · refine H _ _ (fun hT => ?_) (M3.castT (by omega))
    first
    | (exfalso; omega)
    | (first | rfl | assumption)
theorem S_X7_tiredness {d b : Nat} {h0 h : PH} {D : Nat → Int → Int} {s : Int → Int} {t : Int} {Q : Int → PH → Prop} {X : Nat → PH → Prop} {N : Int} {p k : Int} (M : Mt b h0 h D s t) (W : WD D s N) (hvp : InR p) (hvk : InR k) (H : ∀ (x : Int) h', (ck (ck (tL D) p 0 (D 0 4 - 1) 2) k 0 (D 0 3 - 1) 2 = 0 → x = td s p k) → Mt b h0 h' D s (ck (ck (tL D) p 0 (D 0 4 - 1) 2) k 0 (D 0 3 - 1) 2) → Q x h') : RUN GQ (d + 5) m_X7_tiredness [pA b, pI p, pI k] h Q X := by
  obtain ⟨w1, w2, w3, wN, ws1, wI⟩ := id W
  have kL := tL_or D
  have k1 := ck_or (tL D) p 0 (D 0 4 - 1) 2
  have k2 := ck_or (ck (tL D) p 0 (D 0 4 - 1) 2) k 0 (D 0 3 - 1) 2
  rw [e_X7_tiredness]
  refine WP.of (RUN.mono GQ _) (cuts := []) (n := 400) (v_X7_tiredness_0 _ _ _ _ _ _ ?_)
  refine ⟨M.k0, ?_⟩
  refine S_X7_noPair M W (by omega) (by omega) (fun x3 h3 e3 M3 => ?_)
  refine ⟨ir (by omega) (by omega), fun c6 => ?_, fun c6 => ?_⟩
  · obtain ⟨I, V, sw⟩ := wI (by omega)
    obtain ⟨v2, v3, v4, vh⟩ := id V
    refine ⟨M3.k0, ?_⟩
    refine S_X7_tiredOf M3 (by omega) (by omega) (fun x16 e16 => ?_)
    subst e16
    refine H _ _ (fun hT => ?_) (M3.castT (by omega))
    first
    | (exfalso; omega)
    | (first | rfl | assumption)
  · refine H _ _ (fun hT => ?_) (M3.castT (by omega))
    first
    | (exfalso; omega)
    | (first | rfl | assumption)
