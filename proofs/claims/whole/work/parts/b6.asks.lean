/-! the class asked (2) (written by wip/whole/tools/eng.py) -/
section VCS
variable {call : PC} {mc ms fr : Nat} {Q : Int → PH → Prop} {X : Nat → PH → Prop} {K : PK}
set_option maxRecDepth 100000 in
theorem v_X6_running_0 (a0 : Nat) (i1 : Int) (i2 : Int) (i3 : Int) (z4 : Option PV) (h : PH) (c s : Nat) (H : hk h a0 = 7 ∧ (c + 1 ≤ mc ∧ s + 6 ≤ ms) ∧ call m_X6_needHall [pA a0] h (fun _ h1 =>
 hk h1 a0 = 7 ∧ ((c + 1) + 1 ≤ mc ∧ (s + 6) + 6 ≤ ms) ∧ call m_X6_needProgram [pA a0, pI i1] h1 (fun _ h2 =>
 hk h2 a0 = 7 ∧ hk h2 (hr h2 a0 6) = 1 ∧ hk h2 (hr h2 (hr h2 a0 6) 6) = 2 ∧ call m_X1_sizeOf [pA (hr h2 (hr h2 a0 6) 6), pI i1] h2 (fun x3 h3 =>
 InR i2 ∧ (i2 < 0 →
 (((c + 1) + 1) + 1 ≤ mc ∧ ((s + 6) + 6) + 6 ≤ ms) ∧ call m_X6_needIndex [pI 0] h3 (fun _ h4 =>
 InR i3 ∧ (i3 < 0 →
 ((((c + 1) + 1) + 1) + 1 ≤ mc ∧ (((s + 6) + 6) + 6) + 6 ≤ ms) ∧ call m_X6_needArgument [pI 0] h4 (fun _ h5 =>
 hk h5 a0 = 7 ∧ hk h5 (hr h5 a0 6) = 1 ∧ (hk h5 6 = 20 ∨ hk h5 6 = 26) ∧ (0 ≤ i3 ∧ i3 < (hl h5 6 : Int)) ∧ hk h5 (hr h5 (hr h5 a0 6) 6) = 2 ∧ call m_X1_part [pA (hr h5 (hr h5 a0 6) 6), pI i1, pI ((x3 - 1) - i2), pI (hi h5 6 (Int.toNat i3))] h5 (fun x6 h6 =>
 Q x6 h6) X) X) ∧
(0 ≤ i3 →
 (20 ≤ hk h4 6 ∧ hk h4 6 ≤ 26) ∧ InR i3 ∧ InR ((hl h4 6 : Int)) ∧ (i3 < ((hl h4 6 : Int)) →
 ((((c + 1) + 1) + 1) + 1 ≤ mc ∧ (((s + 6) + 6) + 6) + 6 ≤ ms) ∧ call m_X6_needArgument [pI 1] h4 (fun _ h7 =>
 hk h7 a0 = 7 ∧ hk h7 (hr h7 a0 6) = 1 ∧ (hk h7 6 = 20 ∨ hk h7 6 = 26) ∧ (0 ≤ i3 ∧ i3 < (hl h7 6 : Int)) ∧ hk h7 (hr h7 (hr h7 a0 6) 6) = 2 ∧ call m_X1_part [pA (hr h7 (hr h7 a0 6) 6), pI i1, pI ((x3 - 1) - i2), pI (hi h7 6 (Int.toNat i3))] h7 (fun x8 h8 =>
 Q x8 h8) X) X) ∧
(((hl h4 6 : Int)) ≤ i3 →
 ((((c + 1) + 1) + 1) + 1 ≤ mc ∧ (((s + 6) + 6) + 6) + 6 ≤ ms) ∧ call m_X6_needArgument [pI 0] h4 (fun _ h9 =>
 hk h9 a0 = 7 ∧ hk h9 (hr h9 a0 6) = 1 ∧ (hk h9 6 = 20 ∨ hk h9 6 = 26) ∧ (0 ≤ i3 ∧ i3 < (hl h9 6 : Int)) ∧ hk h9 (hr h9 (hr h9 a0 6) 6) = 2 ∧ call m_X1_part [pA (hr h9 (hr h9 a0 6) 6), pI i1, pI ((x3 - 1) - i2), pI (hi h9 6 (Int.toNat i3))] h9 (fun x10 h10 =>
 Q x10 h10) X) X))) X) ∧
(0 ≤ i2 →
 InR i2 ∧ InR x3 ∧ (i2 < x3 →
 (((c + 1) + 1) + 1 ≤ mc ∧ ((s + 6) + 6) + 6 ≤ ms) ∧ call m_X6_needIndex [pI 1] h3 (fun _ h11 =>
 InR i3 ∧ (i3 < 0 →
 ((((c + 1) + 1) + 1) + 1 ≤ mc ∧ (((s + 6) + 6) + 6) + 6 ≤ ms) ∧ call m_X6_needArgument [pI 0] h11 (fun _ h12 =>
 hk h12 a0 = 7 ∧ hk h12 (hr h12 a0 6) = 1 ∧ (hk h12 6 = 20 ∨ hk h12 6 = 26) ∧ (0 ≤ i3 ∧ i3 < (hl h12 6 : Int)) ∧ hk h12 (hr h12 (hr h12 a0 6) 6) = 2 ∧ call m_X1_part [pA (hr h12 (hr h12 a0 6) 6), pI i1, pI ((x3 - 1) - i2), pI (hi h12 6 (Int.toNat i3))] h12 (fun x13 h13 =>
 Q x13 h13) X) X) ∧
(0 ≤ i3 →
 (20 ≤ hk h11 6 ∧ hk h11 6 ≤ 26) ∧ InR i3 ∧ InR ((hl h11 6 : Int)) ∧ (i3 < ((hl h11 6 : Int)) →
 ((((c + 1) + 1) + 1) + 1 ≤ mc ∧ (((s + 6) + 6) + 6) + 6 ≤ ms) ∧ call m_X6_needArgument [pI 1] h11 (fun _ h14 =>
 hk h14 a0 = 7 ∧ hk h14 (hr h14 a0 6) = 1 ∧ (hk h14 6 = 20 ∨ hk h14 6 = 26) ∧ (0 ≤ i3 ∧ i3 < (hl h14 6 : Int)) ∧ hk h14 (hr h14 (hr h14 a0 6) 6) = 2 ∧ call m_X1_part [pA (hr h14 (hr h14 a0 6) 6), pI i1, pI ((x3 - 1) - i2), pI (hi h14 6 (Int.toNat i3))] h14 (fun x15 h15 =>
 Q x15 h15) X) X) ∧
(((hl h11 6 : Int)) ≤ i3 →
 ((((c + 1) + 1) + 1) + 1 ≤ mc ∧ (((s + 6) + 6) + 6) + 6 ≤ ms) ∧ call m_X6_needArgument [pI 0] h11 (fun _ h16 =>
 hk h16 a0 = 7 ∧ hk h16 (hr h16 a0 6) = 1 ∧ (hk h16 6 = 20 ∨ hk h16 6 = 26) ∧ (0 ≤ i3 ∧ i3 < (hl h16 6 : Int)) ∧ hk h16 (hr h16 (hr h16 a0 6) 6) = 2 ∧ call m_X1_part [pA (hr h16 (hr h16 a0 6) 6), pI i1, pI ((x3 - 1) - i2), pI (hi h16 6 (Int.toNat i3))] h16 (fun x17 h17 =>
 Q x17 h17) X) X))) X) ∧
(x3 ≤ i2 →
 (((c + 1) + 1) + 1 ≤ mc ∧ ((s + 6) + 6) + 6 ≤ ms) ∧ call m_X6_needIndex [pI 0] h3 (fun _ h18 =>
 InR i3 ∧ (i3 < 0 →
 ((((c + 1) + 1) + 1) + 1 ≤ mc ∧ (((s + 6) + 6) + 6) + 6 ≤ ms) ∧ call m_X6_needArgument [pI 0] h18 (fun _ h19 =>
 hk h19 a0 = 7 ∧ hk h19 (hr h19 a0 6) = 1 ∧ (hk h19 6 = 20 ∨ hk h19 6 = 26) ∧ (0 ≤ i3 ∧ i3 < (hl h19 6 : Int)) ∧ hk h19 (hr h19 (hr h19 a0 6) 6) = 2 ∧ call m_X1_part [pA (hr h19 (hr h19 a0 6) 6), pI i1, pI ((x3 - 1) - i2), pI (hi h19 6 (Int.toNat i3))] h19 (fun x20 h20 =>
 Q x20 h20) X) X) ∧
(0 ≤ i3 →
 (20 ≤ hk h18 6 ∧ hk h18 6 ≤ 26) ∧ InR i3 ∧ InR ((hl h18 6 : Int)) ∧ (i3 < ((hl h18 6 : Int)) →
 ((((c + 1) + 1) + 1) + 1 ≤ mc ∧ (((s + 6) + 6) + 6) + 6 ≤ ms) ∧ call m_X6_needArgument [pI 1] h18 (fun _ h21 =>
 hk h21 a0 = 7 ∧ hk h21 (hr h21 a0 6) = 1 ∧ (hk h21 6 = 20 ∨ hk h21 6 = 26) ∧ (0 ≤ i3 ∧ i3 < (hl h21 6 : Int)) ∧ hk h21 (hr h21 (hr h21 a0 6) 6) = 2 ∧ call m_X1_part [pA (hr h21 (hr h21 a0 6) 6), pI i1, pI ((x3 - 1) - i2), pI (hi h21 6 (Int.toNat i3))] h21 (fun x22 h22 =>
 Q x22 h22) X) X) ∧
(((hl h18 6 : Int)) ≤ i3 →
 ((((c + 1) + 1) + 1) + 1 ≤ mc ∧ (((s + 6) + 6) + 6) + 6 ≤ ms) ∧ call m_X6_needArgument [pI 0] h18 (fun _ h23 =>
 hk h23 a0 = 7 ∧ hk h23 (hr h23 a0 6) = 1 ∧ (hk h23 6 = 20 ∨ hk h23 6 = 26) ∧ (0 ≤ i3 ∧ i3 < (hl h23 6 : Int)) ∧ hk h23 (hr h23 (hr h23 a0 6) 6) = 2 ∧ call m_X1_part [pA (hr h23 (hr h23 a0 6) 6), pI i1, pI ((x3 - 1) - i2), pI (hi h23 6 (Int.toNat i3))] h23 (fun x24 h24 =>
 Q x24 h24) X) X))) X))) X) X) X) : wpc k_X6_running [] call mc ms fr Q X [] K 400 (pto 0 k_X6_running) [some (pA a0), some (pI i1), some (pI i2), some (pI i3), z4] [] h c s :=
  H
set_option maxRecDepth 100000 in
theorem v_X6_whereIs_0 (a0 : Nat) (i1 : Int) (z2 : Option PV) (z3 : Option PV) (h : PH) (c s : Nat) (H : hk h a0 = 7 ∧ (c + 1 ≤ mc ∧ s + 6 ≤ ms) ∧ call m_X6_needHall [pA a0] h (fun _ h1 =>
 hk h1 a0 = 7 ∧ ((c + 1) + 1 ≤ mc ∧ (s + 6) + 6 ≤ ms) ∧ call m_X6_needSignal [pA a0, pI i1] h1 (fun _ h2 =>
 hk h2 a0 = 7 ∧ hk h2 (hr h2 a0 6) = 1 ∧ hk h2 (hr h2 (hr h2 a0 6) 5) = 2 ∧ call m_X1_programOf [pA (hr h2 (hr h2 a0 6) 5), pI i1] h2 (fun x3 h3 =>
 InR x3 ∧ InR ((-1)) ∧ (x3 = ((-1)) →
 hk h3 a0 = 7 ∧ hk h3 (hr h3 a0 6) = 1 ∧ hk h3 (hr h3 (hr h3 a0 6) 6) = 2 ∧ call m_X1_programOf [pA (hr h3 (hr h3 a0 6) 6), pI i1] h3 (fun x4 h4 =>
 InR x4 ∧ InR ((-1)) ∧ (x4 = ((-1)) →
 hk h4 a0 = 7 ∧ hk h4 (hr h4 a0 6) = 1 ∧ call m_X0_toldEndOf [pA (hr h4 a0 6), pI i1] h4 (fun x5 h5 =>
 InR x5 ∧ InR ((-1)) ∧ (x5 = ((-1)) →
 Q ((-1)) h5) ∧
(x5 ≠ ((-1)) →
 Q (20 + x5) h5)) X) ∧
(x4 ≠ ((-1)) →
 Q (10 + x4) h4)) X) ∧
(x3 ≠ ((-1)) →
 Q x3 h3)) X) X) X) : wpc k_X6_whereIs [] call mc ms fr Q X [] K 400 (pto 0 k_X6_whereIs) [some (pA a0), some (pI i1), z2, z3] [] h c s :=
  H
set_option maxRecDepth 100000 in
theorem v_X6_busiest_0 (a0 : Nat) (z1 : Option PV) (z2 : Option PV) (z3 : Option PV) (z4 : Option PV) (h : PH) (c s : Nat) (H : hk h a0 = 7 ∧ (c + 1 ≤ mc ∧ s + 6 ≤ ms) ∧ call m_X6_needHall [pA a0] h (fun _ h1 =>
 K 10 [some (pA a0), some (pI ((-1))), some (pI ((-1))), some (pI 0), z4] [] h1 (c + 1) (s + 6)) X) : wpc k_X6_busiest [] call mc ms fr Q X [10] K 400 (pto 0 k_X6_busiest) [some (pA a0), z1, z2, z3, z4] [] h c s :=
  H
set_option maxRecDepth 100000 in
theorem v_X6_busiest_10 (a0 : Nat) (i1 : Int) (i2 : Int) (i3 : Int) (z4 : Option PV) (h : PH) (c s : Nat) (H : hk h a0 = 7 ∧ hk h (hr h a0 5) = 6 ∧ hk h (hr h (hr h a0 5) 1) = 3 ∧ InR i3 ∧ InR (hi h (hr h (hr h a0 5) 1) 2) ∧ (i3 < (hi h (hr h (hr h a0 5) 1) 2) →
 hk h a0 = 7 ∧ hk h (hr h a0 6) = 1 ∧ hk h (hr h (hr h a0 6) 5) = 2 ∧ call m_X1_sizeOf [pA (hr h (hr h a0 6) 5), pI i3] h (fun x1 h1 =>
 InR x1 ∧ InR i2 ∧ (i2 < x1 →
 K 10 [some (pA a0), some (pI i3), some (pI x1), some (pI (i3 + 1)), some (pI x1)] [] h1 c s) ∧
(x1 ≤ i2 →
 K 10 [some (pA a0), some (pI i1), some (pI i2), some (pI (i3 + 1)), some (pI x1)] [] h1 c s)) X) ∧
((hi h (hr h (hr h a0 5) 1) 2) ≤ i3 →
 Q i1 h)) : wpc k_X6_busiest [] call mc ms fr Q X [10] K 400 (pto 10 k_X6_busiest) [some (pA a0), some (pI i1), some (pI i2), some (pI i3), z4] [] h c s :=
  H
set_option maxRecDepth 100000 in
theorem v_X6_tiredest_0 (a0 : Nat) (i1 : Int) (z2 : Option PV) (z3 : Option PV) (z4 : Option PV) (z5 : Option PV) (h : PH) (c s : Nat) (H : hk h a0 = 7 ∧ (c + 1 ≤ mc ∧ s + 6 ≤ ms) ∧ call m_X6_needHall [pA a0] h (fun _ h1 =>
 hk h1 a0 = 7 ∧ ((c + 1) + 1 ≤ mc ∧ (s + 6) + 6 ≤ ms) ∧ call m_X6_needProgram [pA a0, pI i1] h1 (fun _ h2 =>
 K 16 [some (pA a0), some (pI i1), some (pI ((-1))), some (pI ((-1))), some (pI 0), z5] [] h2 ((c + 1) + 1) ((s + 6) + 6)) X) X) : wpc k_X6_tiredest [] call mc ms fr Q X [16] K 400 (pto 0 k_X6_tiredest) [some (pA a0), some (pI i1), z2, z3, z4, z5] [] h c s :=
  H
set_option maxRecDepth 100000 in
theorem v_X6_tiredest_16 (a0 : Nat) (i1 : Int) (i2 : Int) (i3 : Int) (i4 : Int) (z5 : Option PV) (h : PH) (c s : Nat) (H : hk h a0 = 7 ∧ hk h (hr h a0 5) = 6 ∧ hk h (hr h (hr h a0 5) 0) = 3 ∧ InR i4 ∧ InR (hi h (hr h (hr h a0 5) 0) 2) ∧ (i4 < (hi h (hr h (hr h a0 5) 0) 2) →
 hk h a0 = 7 ∧ hk h (hr h a0 6) = 1 ∧ call m_X0_tiredOf [pA (hr h a0 6), pI i1, pI i4] h (fun x1 h1 =>
 InR x1 ∧ InR i3 ∧ (i3 < x1 →
 K 16 [some (pA a0), some (pI i1), some (pI i4), some (pI x1), some (pI (i4 + 1)), some (pI x1)] [] h1 c s) ∧
(x1 ≤ i3 →
 K 16 [some (pA a0), some (pI i1), some (pI i2), some (pI i3), some (pI (i4 + 1)), some (pI x1)] [] h1 c s)) X) ∧
((hi h (hr h (hr h a0 5) 0) 2) ≤ i4 →
 Q i2 h)) : wpc k_X6_tiredest [] call mc ms fr Q X [16] K 400 (pto 16 k_X6_tiredest) [some (pA a0), some (pI i1), some (pI i2), some (pI i3), some (pI i4), z5] [] h c s :=
  H
set_option maxRecDepth 100000 in
theorem v_X6_oldest_0 (a0 : Nat) (z1 : Option PV) (z2 : Option PV) (z3 : Option PV) (h : PH) (c s : Nat) (H : hk h a0 = 7 ∧ (c + 1 ≤ mc ∧ s + 6 ≤ ms) ∧ call m_X6_needHall [pA a0] h (fun _ h1 =>
 K 8 [some (pA a0), some (pI ((-1))), some (pI 0), z3] [] h1 (c + 1) (s + 6)) X) : wpc k_X6_oldest [] call mc ms fr Q X [8] K 400 (pto 0 k_X6_oldest) [some (pA a0), z1, z2, z3] [] h c s :=
  H
set_option maxRecDepth 100000 in
theorem v_X6_oldest_8 (a0 : Nat) (i1 : Int) (i2 : Int) (z3 : Option PV) (h : PH) (c s : Nat) (H : hk h a0 = 7 ∧ hk h (hr h a0 5) = 6 ∧ hk h (hr h (hr h a0 5) 1) = 3 ∧ InR i2 ∧ InR (hi h (hr h (hr h a0 5) 1) 2) ∧ (i2 < (hi h (hr h (hr h a0 5) 1) 2) →
 hk h a0 = 7 ∧ hk h (hr h a0 6) = 1 ∧ hk h (hr h (hr h a0 6) 5) = 2 ∧ call m_X1_sizeOf [pA (hr h (hr h a0 6) 5), pI i2] h (fun x1 h1 =>
 InR x1 ∧ (0 < x1 →
 hk h1 a0 = 7 ∧ hk h1 (hr h1 a0 6) = 1 ∧ hk h1 (hr h1 (hr h1 a0 6) 5) = 2 ∧ call m_X1_part [pA (hr h1 (hr h1 a0 6) 5), pI i2, pI 0, pI 0] h1 (fun x2 h2 =>
 InR i1 ∧ InR ((-1)) ∧ (i1 = ((-1)) →
 K 8 [some (pA a0), some (pI x2), some (pI (i2 + 1)), some (pI x2)] [] h2 c s) ∧
(i1 ≠ ((-1)) →
 InR x2 ∧ InR i1 ∧ (x2 < i1 →
 K 8 [some (pA a0), some (pI x2), some (pI (i2 + 1)), some (pI x2)] [] h2 c s) ∧
(i1 ≤ x2 →
 K 8 [some (pA a0), some (pI i1), some (pI (i2 + 1)), some (pI x2)] [] h2 c s))) X) ∧
(x1 ≤ 0 →
 K 8 [some (pA a0), some (pI i1), some (pI (i2 + 1)), z3] [] h1 c s)) X) ∧
((hi h (hr h (hr h a0 5) 1) 2) ≤ i2 →
 Q i1 h)) : wpc k_X6_oldest [] call mc ms fr Q X [8] K 400 (pto 8 k_X6_oldest) [some (pA a0), some (pI i1), some (pI i2), z3] [] h c s :=
  H
set_option maxRecDepth 100000 in
theorem v_X6_loser_0 (a0 : Nat) (i1 : Int) (i2 : Int) (z3 : Option PV) (z4 : Option PV) (h : PH) (c s : Nat) (H : hk h a0 = 7 ∧ (c + 1 ≤ mc ∧ s + 6 ≤ ms) ∧ call m_X6_needHall [pA a0] h (fun _ h1 =>
 hk h1 a0 = 7 ∧ ((c + 1) + 1 ≤ mc ∧ (s + 6) + 6 ≤ ms) ∧ call m_X6_needProgram [pA a0, pI i1] h1 (fun _ h2 =>
 hk h2 a0 = 7 ∧ (((c + 1) + 1) + 1 ≤ mc ∧ ((s + 6) + 6) + 6 ≤ ms) ∧ call m_X6_needKind [pA a0, pI i2] h2 (fun _ h3 =>
 hk h3 a0 = 7 ∧ hk h3 (hr h3 a0 6) = 1 ∧ hk h3 (hr h3 (hr h3 a0 6) 5) = 2 ∧ call m_X1_sizeOf [pA (hr h3 (hr h3 a0 6) 5), pI i1] h3 (fun x4 h4 =>
 hk h4 a0 = 7 ∧ hk h4 (hr h4 a0 6) = 1 ∧ call m_X0_settingOf [pA (hr h4 a0 6), pI 3] h4 (fun x5 h5 =>
 InR x4 ∧ InR x5 ∧ (x4 < x5 →
 Q ((-1)) h5) ∧
(x5 ≤ x4 →
 hk h5 a0 = 7 ∧ hk h5 (hr h5 a0 6) = 1 ∧ call m_X0_lastInOrder [pA (hr h5 a0 6), pI i1] h5 (fun x6 h6 =>
 hk h6 a0 = 7 ∧ hk h6 (hr h6 a0 6) = 1 ∧ hk h6 (hr h6 (hr h6 a0 6) 5) = 2 ∧ call m_X1_part [pA (hr h6 (hr h6 a0 6) 5), pI i1, pI x6, pI 1] h6 (fun x7 h7 =>
 hk h7 a0 = 7 ∧ hk h7 (hr h7 a0 6) = 1 ∧ call m_X0_urgencyOf [pA (hr h7 a0 6), pI i1, pI i2] h7 (fun x8 h8 =>
 hk h8 a0 = 7 ∧ hk h8 (hr h8 a0 6) = 1 ∧ call m_X0_urgencyOf [pA (hr h8 a0 6), pI i1, pI x7] h8 (fun x9 h9 =>
 InR x8 ∧ InR x9 ∧ (x9 < x8 →
 hk h9 a0 = 7 ∧ hk h9 (hr h9 a0 6) = 1 ∧ hk h9 (hr h9 (hr h9 a0 6) 5) = 2 ∧ call m_X1_part [pA (hr h9 (hr h9 a0 6) 5), pI i1, pI x6, pI 0] h9 (fun x10 h10 =>
 Q x10 h10) X) ∧
(x8 ≤ x9 →
 hk h9 a0 = 7 ∧ hk h9 (hr h9 a0 6) = 1 ∧ Q (hi h9 (hr h9 a0 6) 11) h9)) X) X) X) X)) X) X) X) X) X) : wpc k_X6_loser [] call mc ms fr Q X [] K 400 (pto 0 k_X6_loser) [some (pA a0), some (pI i1), some (pI i2), z3, z4] [] h c s :=
  H
set_option maxRecDepth 100000 in
theorem v_X6_raisers_0 (a0 : Nat) (i1 : Int) (z2 : Option PV) (z3 : Option PV) (h : PH) (c s : Nat) (H : hk h a0 = 7 ∧ (c + 1 ≤ mc ∧ s + 6 ≤ ms) ∧ call m_X6_needHall [pA a0] h (fun _ h1 =>
 hk h1 a0 = 7 ∧ ((c + 1) + 1 ≤ mc ∧ (s + 6) + 6 ≤ ms) ∧ call m_X6_needKind [pA a0, pI i1] h1 (fun _ h2 =>
 K 13 [some (pA a0), some (pI i1), some (pI 0), some (pI 0)] [] h2 ((c + 1) + 1) ((s + 6) + 6)) X) X) : wpc k_X6_raisers [] call mc ms fr Q X [13] K 400 (pto 0 k_X6_raisers) [some (pA a0), some (pI i1), z2, z3] [] h c s :=
  H
set_option maxRecDepth 100000 in
theorem v_X6_raisers_13 (a0 : Nat) (i1 : Int) (i2 : Int) (i3 : Int) (h : PH) (c s : Nat) (H : hk h a0 = 7 ∧ hk h (hr h a0 5) = 6 ∧ hk h (hr h (hr h a0 5) 1) = 3 ∧ InR i3 ∧ InR (hi h (hr h (hr h a0 5) 1) 2) ∧ (i3 < (hi h (hr h (hr h a0 5) 1) 2) →
 hk h a0 = 7 ∧ hk h (hr h a0 5) = 6 ∧ call m_X5_raises [pA (hr h a0 5), pI i3, pI i1] h (fun x1 h1 =>
 InR x1 ∧ (x1 = 0 →
 K 13 [some (pA a0), some (pI i1), some (pI i2), some (pI (i3 + 1))] [] h1 c s) ∧
(x1 ≠ 0 →
 K 13 [some (pA a0), some (pI i1), some (pI (bor i2 (bshl 1 i3))), some (pI (i3 + 1))] [] h1 c s)) X) ∧
((hi h (hr h (hr h a0 5) 1) 2) ≤ i3 →
 Q i2 h)) : wpc k_X6_raisers [] call mc ms fr Q X [13] K 400 (pto 13 k_X6_raisers) [some (pA a0), some (pI i1), some (pI i2), some (pI i3)] [] h c s :=
  H
set_option maxRecDepth 100000 in
theorem v_X6_parseError_0 (a0 : Nat) (h : PH) (c s : Nat) (H : hk h a0 = 7 ∧ Q (hi h a0 2) h) : wpc k_X6_parseError [] call mc ms fr Q X [] K 400 (pto 0 k_X6_parseError) [some (pA a0)] [] h c s :=
  H
set_option maxRecDepth 100000 in
theorem v_X6_errorPosition_0 (a0 : Nat) (h : PH) (c s : Nat) (H : hk h a0 = 7 ∧ Q (hi h a0 3) h) : wpc k_X6_errorPosition [] call mc ms fr Q X [] K 400 (pto 0 k_X6_errorPosition) [some (pA a0)] [] h c s :=
  H
set_option maxRecDepth 100000 in
theorem v_X6_buffered_0 (a0 : Nat) (h : PH) (c s : Nat) (H : hk h a0 = 7 ∧ Q (hi h a0 1) h) : wpc k_X6_buffered [] call mc ms fr Q X [] K 400 (pto 0 k_X6_buffered) [some (pA a0)] [] h c s :=
  H
end VCS
theorem S_X6_running {d : Nat} {h : PH} {B A : Nat} {EP E D : Nat → Int → Int} {s : Int → Int} {N : Int} {Q : Int → PH → Prop} {X : Nat → PH → Prop} {p i w : Int} (T : FT h B A EP E D s) (W : WD D s N) (G : SG h) (hvp : InR p) (hvi : InR i) (hvw : InR w) (H : ∀ x : Int, ck (ck (ck (tL D) p 0 (D 0 4 - 1) 2) i 0 (s (511 + p) - 1) 2) w 0 (4) 3 = 0 → x = sv s p (s (511 + p) - 1 - i) w → Q x h) (HX : ∀ (e n' : Nat), (ck (ck (ck (tL D) p 0 (D 0 4 - 1) 2) i 0 (s (511 + p) - 1) 2) w 0 (4) 3 = 1 ∧ e = 0 ∨ ck (ck (ck (tL D) p 0 (D 0 4 - 1) 2) i 0 (s (511 + p) - 1) 2) w 0 (4) 3 = 2 ∧ e = 2 ∨ ck (ck (ck (tL D) p 0 (D 0 4 - 1) 2) i 0 (s (511 + p) - 1) 2) w 0 (4) 3 = 3 ∧ e = 1) → hn h ≤ n' → X e (hup h n')) : RUN GQ (d + 8) m_X6_running [pA 64, pI p, pI i, pI w] h Q X := by
  obtain ⟨w1, w2, w3, wN, ws1, wI⟩ := id W
  have kL := tL_or D
  have M := T.M
  have L := T.L
  have k1 := ck_or (tL D) p 0 (D 0 4 - 1) 2
  have k2 := ck_or (ck (tL D) p 0 (D 0 4 - 1) 2) i 0 (s (511 + p) - 1) 2
  have k3 := ck_or (ck (ck (tL D) p 0 (D 0 4 - 1) 2) i 0 (s (511 + p) - 1) 2) w 0 (4) 3
  have rr := rpv_rng (w := w)
  rw [e_X6_running]
  refine WP.of (RUN.mono GQ _) (cuts := []) (n := 400) (v_X6_running_0 _ _ _ _ _ _ _ _ ?_)
  refine ⟨T.k, ?_⟩
  refine ⟨⟨by omega, by omega⟩, ?_⟩
  refine S_X6_needHall T (fun c1 => ?_) (fun c1 n1 l1 => ?_)
  · obtain ⟨I, V, sw⟩ := wI (by omega)
    obtain ⟨R, U⟩ := T.u (by omega)
    obtain ⟨v2, v3, v4, vh⟩ := id V
    have I1 := I.e1
    have I2 := I.e2
    refine ⟨T.k, ?_⟩
    refine ⟨⟨by omega, by omega⟩, ?_⟩
    refine S_X6_needProgram T U V (by omega) (fun c6 => ?_) (fun c6 n6 l6 => ?_)
    · have hp6 : 0 ≤ p ∧ p < 6 := by omega
      have q0 := I.qn hp6
      have q13 := I.hq.1
      have s0 := I.sn hp6
      refine ⟨T.k, ?_⟩
      try rw [T.r6]
      refine ⟨Bx.k M 0 (by decide) rfl, ?_⟩
      try rw [show hr h A 6 = A + 9 from Bx.r M 0 6 9 (by decide)]
      refine ⟨Bx.k M 9 (by decide) rfl, ?_⟩
      refine S_X1_sizeOf_sR M R I (by omega) (fun x17 e17 => ?_)
      subst e17
      refine ⟨ir (by omega) (by omega), fun c23 => ?_, fun c23 => ?_⟩
      · refine ⟨⟨by omega, by omega⟩, ?_⟩
        refine S_X6_needIndex (by omega) (fun c37 => ?_) (fun c37 n37 l37 => ?_)
        · exact absurd rfl c37
        · exact HX 2 _ (by omega) l37
      · refine ⟨ir (by omega) (by omega), ir (by omega) (by omega), fun c29 => ?_, fun c29 => ?_⟩
        · refine ⟨⟨by omega, by omega⟩, ?_⟩
          refine S_X6_needIndex (by omega) (fun c37 => ?_) (fun c37 n37 l37 => ?_)
          · refine ⟨ir (by omega) (by omega), fun c41 => ?_, fun c41 => ?_⟩
            · refine ⟨⟨by omega, by omega⟩, ?_⟩
              refine S_X6_needArgument (by omega) (fun c57 => ?_) (fun c57 n57 l57 => ?_)
              · exact absurd rfl c57
              · exact HX 1 _ (by omega) l57
            · refine (G.g6).al (fun el48 => ?_)
              refine ⟨ir (by omega) (by omega), ir (by omega) (by omega), fun c49 => ?_, fun c49 => ?_⟩
              · refine ⟨⟨by omega, by omega⟩, ?_⟩
                refine S_X6_needArgument (by omega) (fun c57 => ?_) (fun c57 n57 l57 => ?_)
                · refine ⟨T.k, ?_⟩
                  try rw [T.r6]
                  refine ⟨Bx.k M 0 (by decide) rfl, ?_⟩
                  try rw [show hr h A 6 = A + 9 from Bx.r M 0 6 9 (by decide)]
                  refine (G.g6).ld (by omega) (by omega) (fun er => ?_)
                  rw [er]
                  clear er
                  refine ⟨Bx.k M 9 (by decide) rfl, ?_⟩
                  refine S_X1_part_sR M R I (by omega) (by omega) (by omega) (by omega) (fun x79 e79 => ?_)
                  subst e79
                  rw [svc_rpv (by omega)]
                  first
                  | (exfalso; omega)
                  | (refine H _ (by omega) ?_
                     first | rfl | assumption)
                · exact absurd c57 (by decide)
              · refine ⟨⟨by omega, by omega⟩, ?_⟩
                refine S_X6_needArgument (by omega) (fun c57 => ?_) (fun c57 n57 l57 => ?_)
                · exact absurd rfl c57
                · exact HX 1 _ (by omega) l57
          · exact absurd c37 (by decide)
        · refine ⟨⟨by omega, by omega⟩, ?_⟩
          refine S_X6_needIndex (by omega) (fun c37 => ?_) (fun c37 n37 l37 => ?_)
          · exact absurd rfl c37
          · exact HX 2 _ (by omega) l37
    · exact HX 2 _ (by omega) l6
  · exact HX 0 _ (by omega) l1
theorem S_X6_whereIs {d : Nat} {h : PH} {B A : Nat} {EP E D : Nat → Int → Int} {s : Int → Int} {N : Int} {Q : Int → PH → Prop} {X : Nat → PH → Prop} {g : Int} (T : FT h B A EP E D s) (W : WD D s N) (hvg : InR g) (H : ∀ x : Int, ck (tL D) g 0 (s 1 - 1) 2 = 0 → x = wis D s g → Q x h) (HX : ∀ (e n' : Nat), (ck (tL D) g 0 (s 1 - 1) 2 = 1 ∧ e = 0 ∨ ck (tL D) g 0 (s 1 - 1) 2 = 2 ∧ e = 2) → hn h ≤ n' → X e (hup h n')) : RUN GQ (d + 8) m_X6_whereIs [pA 64, pI g] h Q X := by
  obtain ⟨w1, w2, w3, wN, ws1, wI⟩ := id W
  have kL := tL_or D
  have M := T.M
  have L := T.L
  have k1 := ck_or (tL D) g 0 (s 1 - 1) 2
  rw [e_X6_whereIs]
  refine WP.of (RUN.mono GQ _) (cuts := []) (n := 400) (v_X6_whereIs_0 _ _ _ _ _ _ _ ?_)
  refine ⟨T.k, ?_⟩
  refine ⟨⟨by omega, by omega⟩, ?_⟩
  refine S_X6_needHall T (fun c1 => ?_) (fun c1 n1 l1 => ?_)
  · obtain ⟨I, V, sw⟩ := wI (by omega)
    obtain ⟨R, U⟩ := T.u (by omega)
    obtain ⟨v2, v3, v4, vh⟩ := id V
    have I1 := I.e1
    have I2 := I.e2
    have tl : 0 ≤ tld s ∧ tld s ≤ s 2 ∧ tld s ≤ 40 := by unfold tld; split <;> omega
    refine ⟨T.k, ?_⟩
    refine ⟨⟨by omega, by omega⟩, ?_⟩
    refine S_X6_needSignal T R (by exact ir (by omega) (by omega)) (by omega) (fun c6 => ?_) (fun c6 n6 l6 => ?_)
    · refine ⟨T.k, ?_⟩
      try rw [T.r6]
      refine ⟨Bx.k M 0 (by decide) rfl, ?_⟩
      try rw [show hr h A 5 = A + 6 from Bx.r M 0 5 6 (by decide)]
      refine ⟨Bx.k M 6 (by decide) rfl, ?_⟩
      refine S_X1_programOf_q M R I (by omega) (by omega) (fun x17 e17 => ?_)
      subst e17
      have pe := pnl_eq (g := g) I v4
      have pr := ppl_spec (s := s) (g := g) (a := 115) (f := qv) 6 0 (by omega)
      refine ⟨ir (by omega) (by omega), ir (by omega) (by omega), fun c23 => ?_, fun c23 => ?_⟩
      · refine ⟨T.k, ?_⟩
        try rw [T.r6]
        refine ⟨Bx.k M 0 (by decide) rfl, ?_⟩
        try rw [show hr h A 6 = A + 9 from Bx.r M 0 6 9 (by decide)]
        refine ⟨Bx.k M 9 (by decide) rfl, ?_⟩
        refine S_X1_programOf_s M R I (by omega) (by omega) (fun x36 e36 => ?_)
        subst e36
        have ps := ppl_spec (s := s) (g := g) (a := 511) (f := sv) 6 0 (by omega)
        refine ⟨ir (by omega) (by omega), ir (by omega) (by omega), fun c42 => ?_, fun c42 => ?_⟩
        · refine ⟨T.k, ?_⟩
          try rw [T.r6]
          refine ⟨Bx.k M 0 (by decide) rfl, ?_⟩
          refine S_X0_toldEndOf M R I (by omega) (by omega) (fun x55 e55 => ?_)
          subst e55
          have tr := tef_rng (g := g) I (tld s).toNat 0 (by omega) (by omega) (by omega)
          refine ⟨ir (by omega) (by omega), ir (by omega) (by omega), fun c61 => ?_, fun c61 => ?_⟩
          · first
            | (exfalso; omega)
            | (refine H _ (by omega) ?_
               (unfold wis; rw [pe]; (repeat' split) <;> omega))
          · first
            | (exfalso; omega)
            | (refine H _ (by omega) ?_
               (unfold wis; rw [pe]; (repeat' split) <;> omega))
        · first
          | (exfalso; omega)
          | (refine H _ (by omega) ?_
             (unfold wis; rw [pe]; (repeat' split) <;> omega))
      · first
        | (exfalso; omega)
        | (refine H _ (by omega) ?_
           (unfold wis; rw [pe]; (repeat' split) <;> omega))
    · exact HX 2 _ (by omega) l6
  · exact HX 0 _ (by omega) l1
theorem L_X6_busiest_10 {d : Nat} {h : PH} {B A : Nat} {EP E D : Nat → Int → Int} {s : Int → Int} {N : Int} {Q : Int → PH → Prop} {X : Nat → PH → Prop} (T : FT h B A EP E D s) (I : HI (D 0 3) (D 0 4) (D 0 2) N s) (V : PIv D) (R : HR E (D 0 2) (D 0 3) s) (U : PT EP D) (wN : N ≤ 1990000000) : ∀ (n : Nat) (bs mo p : Int) (z4 : Option PV), (0 ≤ p) → (p + n = D 0 4) → (bs = -1 ∧ mo = -1 ∨ (0 ≤ bs ∧ bs < p) ∧ mo = s (115 + bs)) → (∀ x : Int, x = bsl s n p bs → Q x h) → WP k_X6_busiest [] (RUN GQ (d + 6)) 24 1700 (d + 7) Q X 10 [some (pA 64), some (pI bs), some (pI mo), some (pI p), z4] [] h 1 6 := by
  intro n
  induction n with
  | zero =>
    intro bs mo p z4 hp0 hn0 hb H
    have M := T.M
    have L := T.L
    obtain ⟨v2, v3, v4, vh⟩ := id V
    have I1 := I.e1
    have I2 := I.e2
    refine WP.of (RUN.mono GQ _) (cuts := [10]) (n := 400) (v_X6_busiest_10 _ _ _ _ _ _ _ _ ?_)
    refine ⟨T.k, ?_⟩
    try rw [T.r5]
    refine ⟨Bx.k L 0 (by decide) rfl, ?_⟩
    try rw [show hr h B 1 = B + 4 from Bx.r L 0 1 4 (by decide)]
    refine ⟨Bx.k L 4 (by decide) rfl, ?_⟩
    try rw [show hi h (B + 4) 2 = _ from Bx.f2 L 4 (by decide)]
    rw [U.p]
    refine ⟨ir (by omega) (by omega), ir (by omega) (by omega), fun c21 => ?_, fun c21 => ?_⟩
    · exfalso; omega
    · exact H _ rfl
  | succ n ih =>
    intro bs mo p z4 hp0 hn0 hb H
    have M := T.M
    have L := T.L
    obtain ⟨v2, v3, v4, vh⟩ := id V
    have I1 := I.e1
    have I2 := I.e2
    have q1 := I.qn (p := p) ⟨by omega, by omega⟩
    have q13 := I.hq.1
    have q2 : bs ≠ -1 → 0 ≤ s (115 + bs) ∧ s (115 + bs) ≤ 13 := fun h => by have := I.qn (p := bs) ⟨by omega, by omega⟩; omega
    refine WP.of (RUN.mono GQ _) (cuts := [10]) (n := 400) (v_X6_busiest_10 _ _ _ _ _ _ _ _ ?_)
    refine ⟨T.k, ?_⟩
    try rw [T.r5]
    refine ⟨Bx.k L 0 (by decide) rfl, ?_⟩
    try rw [show hr h B 1 = B + 4 from Bx.r L 0 1 4 (by decide)]
    refine ⟨Bx.k L 4 (by decide) rfl, ?_⟩
    try rw [show hi h (B + 4) 2 = _ from Bx.f2 L 4 (by decide)]
    rw [U.p]
    refine ⟨ir (by omega) (by omega), ir (by omega) (by omega), fun c21 => ?_, fun c21 => ?_⟩
    · refine ⟨T.k, ?_⟩
      try rw [T.r6]
      refine ⟨Bx.k M 0 (by decide) rfl, ?_⟩
      try rw [show hr h A 5 = A + 6 from Bx.r M 0 5 6 (by decide)]
      refine ⟨Bx.k M 6 (by decide) rfl, ?_⟩
      refine S_X1_sizeOf_qR M R I (by omega) (fun x32 e32 => ?_)
      subst e32
      refine ⟨ir (by omega) (by omega), ir (by omega) (by omega), fun c40 => ?_, fun c40 => ?_⟩
      · refine ih _ _ _ _ (by omega) (by omega) (by omega) ?_
        have e : bsl s (n + 1) p bs = bsl s n (p + 1) (if bs = -1 ∨ s (115 + bs) < s (115 + p) then p else bs) := rfl
        rw [e] at H
        first | (rw [if_pos (by omega)] at H; exact H) | (rw [if_neg (by omega)] at H; exact H)
      · refine ih _ _ _ _ (by omega) (by omega) (by omega) ?_
        have e : bsl s (n + 1) p bs = bsl s n (p + 1) (if bs = -1 ∨ s (115 + bs) < s (115 + p) then p else bs) := rfl
        rw [e] at H
        first | (rw [if_pos (by omega)] at H; exact H) | (rw [if_neg (by omega)] at H; exact H)
    · exfalso; omega
theorem S_X6_busiest {d : Nat} {h : PH} {B A : Nat} {EP E D : Nat → Int → Int} {s : Int → Int} {N : Int} {Q : Int → PH → Prop} {X : Nat → PH → Prop} (T : FT h B A EP E D s) (W : WD D s N)  (H : ∀ x : Int, (tL D) = 0 → x = bsl s (D 0 4).toNat 0 (-1) → Q x h) (HX : ∀ (e n' : Nat), ((tL D) = 1 ∧ e = 0) → hn h ≤ n' → X e (hup h n')) : RUN GQ (d + 7) m_X6_busiest [pA 64] h Q X := by
  obtain ⟨w1, w2, w3, wN, ws1, wI⟩ := id W
  have kL := tL_or D
  have M := T.M
  have L := T.L
  rw [e_X6_busiest]
  refine WP.of (RUN.mono GQ _) (cuts := [10]) (n := 400) (v_X6_busiest_0 _ _ _ _ _ _ _ _ ?_)
  refine ⟨T.k, ?_⟩
  refine ⟨⟨by omega, by omega⟩, ?_⟩
  refine S_X6_needHall T (fun c1 => ?_) (fun c1 n1 l1 => ?_)
  · obtain ⟨I, V, sw⟩ := wI (by omega)
    obtain ⟨R, U⟩ := T.u (by omega)
    obtain ⟨v2, v3, v4, vh⟩ := id V
    have I1 := I.e1
    have I2 := I.e2
    refine L_X6_busiest_10 T I V R U wN ((D 0 4).toNat) _ _ _ _ (by omega) (by omega) (by exact Or.inl ⟨rfl, rfl⟩) ?_
    exact fun x e => H x (by omega) e
  · exact HX 0 _ (by omega) l1
theorem L_X6_tiredest_16 {d : Nat} {h : PH} {B A : Nat} {EP E D : Nat → Int → Int} {s : Int → Int} {N : Int} {Q : Int → PH → Prop} {X : Nat → PH → Prop} {p : Int} (T : FT h B A EP E D s) (I : HI (D 0 3) (D 0 4) (D 0 2) N s) (V : PIv D) (R : HR E (D 0 2) (D 0 3) s) (U : PT EP D) (wN : N ≤ 1990000000) (hp6 : 0 ≤ p ∧ p < 6) : ∀ (n : Nat) (bs mo k : Int) (z5 : Option PV), (0 ≤ k) → (k + n = D 0 3) → (bs = -1 ∧ mo = -1 ∨ (0 ≤ bs ∧ bs < k) ∧ mo = td s p bs) → (∀ x : Int, x = trl s p n k bs → Q x h) → WP k_X6_tiredest [] (RUN GQ (d + 7)) 24 1700 (d + 8) Q X 16 [some (pA 64), some (pI p), some (pI bs), some (pI mo), some (pI k), z5] [] h 2 12 := by
  intro n
  induction n with
  | zero =>
    intro bs mo k z5 hk0 hn0 hb H
    have M := T.M
    have L := T.L
    obtain ⟨v2, v3, v4, vh⟩ := id V
    have I1 := I.e1
    have I2 := I.e2
    refine WP.of (RUN.mono GQ _) (cuts := [16]) (n := 400) (v_X6_tiredest_16 _ _ _ _ _ _ _ _ _ ?_)
    refine ⟨T.k, ?_⟩
    try rw [T.r5]
    refine ⟨Bx.k L 0 (by decide) rfl, ?_⟩
    try rw [show hr h B 0 = B + 1 from Bx.r L 0 0 1 (by decide)]
    refine ⟨Bx.k L 1 (by decide) rfl, ?_⟩
    try rw [show hi h (B + 1) 2 = _ from Bx.f2 L 1 (by decide)]
    rw [U.k]
    refine ⟨ir (by omega) (by omega), ir (by omega) (by omega), fun c28 => ?_, fun c28 => ?_⟩
    · exfalso; omega
    · exact H _ rfl
  | succ n ih =>
    intro bs mo k z5 hk0 hn0 hb H
    have M := T.M
    have L := T.L
    obtain ⟨v2, v3, v4, vh⟩ := id V
    have I1 := I.e1
    have I2 := I.e2
    have q1 := I.td (p := p) (k := k) hp6 ⟨by omega, by omega⟩
    have q2 : bs ≠ -1 → 0 ≤ td s p bs ∧ td s p bs ≤ 99 := fun h => I.td hp6 ⟨by omega, by omega⟩
    refine WP.of (RUN.mono GQ _) (cuts := [16]) (n := 400) (v_X6_tiredest_16 _ _ _ _ _ _ _ _ _ ?_)
    refine ⟨T.k, ?_⟩
    try rw [T.r5]
    refine ⟨Bx.k L 0 (by decide) rfl, ?_⟩
    try rw [show hr h B 0 = B + 1 from Bx.r L 0 0 1 (by decide)]
    refine ⟨Bx.k L 1 (by decide) rfl, ?_⟩
    try rw [show hi h (B + 1) 2 = _ from Bx.f2 L 1 (by decide)]
    rw [U.k]
    refine ⟨ir (by omega) (by omega), ir (by omega) (by omega), fun c28 => ?_, fun c28 => ?_⟩
    · refine ⟨T.k, ?_⟩
      try rw [T.r6]
      refine ⟨Bx.k M 0 (by decide) rfl, ?_⟩
      refine S_X0_tiredOf M R I (by omega) (by omega) (fun x38 e38 => ?_)
      subst e38
      refine ⟨ir (by omega) (by omega), ir (by omega) (by omega), fun c46 => ?_, fun c46 => ?_⟩
      · refine ih _ _ _ _ (by omega) (by omega) (by omega) ?_
        have e : trl s p (n + 1) k bs = trl s p n (k + 1) (if bs = -1 ∨ td s p bs < td s p k then k else bs) := rfl
        rw [e] at H
        first | (rw [if_pos (by omega)] at H; exact H) | (rw [if_neg (by omega)] at H; exact H)
      · refine ih _ _ _ _ (by omega) (by omega) (by omega) ?_
        have e : trl s p (n + 1) k bs = trl s p n (k + 1) (if bs = -1 ∨ td s p bs < td s p k then k else bs) := rfl
        rw [e] at H
        first | (rw [if_pos (by omega)] at H; exact H) | (rw [if_neg (by omega)] at H; exact H)
    · exfalso; omega
theorem S_X6_tiredest {d : Nat} {h : PH} {B A : Nat} {EP E D : Nat → Int → Int} {s : Int → Int} {N : Int} {Q : Int → PH → Prop} {X : Nat → PH → Prop} {p : Int} (T : FT h B A EP E D s) (W : WD D s N) (hvp : InR p) (H : ∀ x : Int, ck (tL D) p 0 (D 0 4 - 1) 2 = 0 → x = trl s p (D 0 3).toNat 0 (-1) → Q x h) (HX : ∀ (e n' : Nat), (ck (tL D) p 0 (D 0 4 - 1) 2 = 1 ∧ e = 0 ∨ ck (tL D) p 0 (D 0 4 - 1) 2 = 2 ∧ e = 2) → hn h ≤ n' → X e (hup h n')) : RUN GQ (d + 8) m_X6_tiredest [pA 64, pI p] h Q X := by
  obtain ⟨w1, w2, w3, wN, ws1, wI⟩ := id W
  have kL := tL_or D
  have M := T.M
  have L := T.L
  have k1 := ck_or (tL D) p 0 (D 0 4 - 1) 2
  rw [e_X6_tiredest]
  refine WP.of (RUN.mono GQ _) (cuts := [16]) (n := 400) (v_X6_tiredest_0 _ _ _ _ _ _ _ _ _ ?_)
  refine ⟨T.k, ?_⟩
  refine ⟨⟨by omega, by omega⟩, ?_⟩
  refine S_X6_needHall T (fun c1 => ?_) (fun c1 n1 l1 => ?_)
  · obtain ⟨I, V, sw⟩ := wI (by omega)
    obtain ⟨R, U⟩ := T.u (by omega)
    obtain ⟨v2, v3, v4, vh⟩ := id V
    have I1 := I.e1
    have I2 := I.e2
    refine ⟨T.k, ?_⟩
    refine ⟨⟨by omega, by omega⟩, ?_⟩
    refine S_X6_needProgram T U V (by omega) (fun c6 => ?_) (fun c6 n6 l6 => ?_)
    · have hp6 : 0 ≤ p ∧ p < 6 := by omega
      have q0 := I.qn hp6
      have q13 := I.hq.1
      have s0 := I.sn hp6
      refine L_X6_tiredest_16 T I V R U wN hp6 ((D 0 3).toNat) _ _ _ _ (by omega) (by omega) (by exact Or.inl ⟨rfl, rfl⟩) ?_
      exact fun x e => H x (by omega) e
    · exact HX 2 _ (by omega) l6
  · exact HX 0 _ (by omega) l1
theorem L_X6_oldest_8 {d : Nat} {h : PH} {B A : Nat} {EP E D : Nat → Int → Int} {s : Int → Int} {N : Int} {Q : Int → PH → Prop} {X : Nat → PH → Prop} (T : FT h B A EP E D s) (I : HI (D 0 3) (D 0 4) (D 0 2) N s) (V : PIv D) (R : HR E (D 0 2) (D 0 3) s) (U : PT EP D) (wN : N ≤ 1990000000) : ∀ (n : Nat) (l p : Int) (z3 : Option PV), (0 ≤ p) → (p + n = D 0 4) → (-1 ≤ l ∧ l ≤ 2000000000) → (∀ x : Int, x = ool s n p l → Q x h) → WP k_X6_oldest [] (RUN GQ (d + 6)) 24 1700 (d + 7) Q X 8 [some (pA 64), some (pI l), some (pI p), z3] [] h 1 6 := by
  intro n
  induction n with
  | zero =>
    intro l p z3 hp0 hn0 hb H
    have M := T.M
    have L := T.L
    obtain ⟨v2, v3, v4, vh⟩ := id V
    have I1 := I.e1
    have I2 := I.e2
    refine WP.of (RUN.mono GQ _) (cuts := [8]) (n := 400) (v_X6_oldest_8 _ _ _ _ _ _ _ ?_)
    refine ⟨T.k, ?_⟩
    try rw [T.r5]
    refine ⟨Bx.k L 0 (by decide) rfl, ?_⟩
    try rw [show hr h B 1 = B + 4 from Bx.r L 0 1 4 (by decide)]
    refine ⟨Bx.k L 4 (by decide) rfl, ?_⟩
    try rw [show hi h (B + 4) 2 = _ from Bx.f2 L 4 (by decide)]
    rw [U.p]
    refine ⟨ir (by omega) (by omega), ir (by omega) (by omega), fun c19 => ?_, fun c19 => ?_⟩
    · exfalso; omega
    · exact H _ rfl
  | succ n ih =>
    intro l p z3 hp0 hn0 hb H
    have M := T.M
    have L := T.L
    obtain ⟨v2, v3, v4, vh⟩ := id V
    have I1 := I.e1
    have I2 := I.e2
    have q1 := I.qn (p := p) ⟨by omega, by omega⟩
    have q13 := I.hq.1
    have e1 := I.e1
    have q2 : 0 < s (115 + p) → 0 ≤ qv s p 0 0 ∧ qv s p 0 0 < s 1 := fun h => (I.qe (p := p) (i := 0) ⟨by omega, by omega⟩ ⟨by omega, h⟩).1
    refine WP.of (RUN.mono GQ _) (cuts := [8]) (n := 400) (v_X6_oldest_8 _ _ _ _ _ _ _ ?_)
    refine ⟨T.k, ?_⟩
    try rw [T.r5]
    refine ⟨Bx.k L 0 (by decide) rfl, ?_⟩
    try rw [show hr h B 1 = B + 4 from Bx.r L 0 1 4 (by decide)]
    refine ⟨Bx.k L 4 (by decide) rfl, ?_⟩
    try rw [show hi h (B + 4) 2 = _ from Bx.f2 L 4 (by decide)]
    rw [U.p]
    refine ⟨ir (by omega) (by omega), ir (by omega) (by omega), fun c19 => ?_, fun c19 => ?_⟩
    · refine ⟨T.k, ?_⟩
      try rw [T.r6]
      refine ⟨Bx.k M 0 (by decide) rfl, ?_⟩
      try rw [show hr h A 5 = A + 6 from Bx.r M 0 5 6 (by decide)]
      refine ⟨Bx.k M 6 (by decide) rfl, ?_⟩
      refine S_X1_sizeOf_qR M R I (by omega) (fun x30 e30 => ?_)
      subst e30
      refine ⟨ir (by omega) (by omega), fun c33 => ?_, fun c33 => ?_⟩
      · refine ⟨T.k, ?_⟩
        try rw [T.r6]
        refine ⟨Bx.k M 0 (by decide) rfl, ?_⟩
        try rw [show hr h A 5 = A + 6 from Bx.r M 0 5 6 (by decide)]
        refine ⟨Bx.k M 6 (by decide) rfl, ?_⟩
        refine S_X1_part_qR M R I (by omega) (by omega) (by omega) (fun x46 e46 => ?_)
        subst e46
        refine ⟨ir (by omega) (by omega), ir (by omega) (by omega), fun c52 => ?_, fun c52 => ?_⟩
        · refine ih _ _ _ (by omega) (by omega) (by omega) ?_
          have e : ool s (n + 1) p l = ool s n (p + 1) (if 0 < s (115 + p) ∧ (l = -1 ∨ qv s p 0 0 < l) then qv s p 0 0 else l) := rfl
          rw [e] at H
          first | (rw [if_pos (by omega)] at H; exact H) | (rw [if_neg (by omega)] at H; exact H)
        · refine ⟨ir (by omega) (by omega), ir (by omega) (by omega), fun c57 => ?_, fun c57 => ?_⟩
          · refine ih _ _ _ (by omega) (by omega) (by omega) ?_
            have e : ool s (n + 1) p l = ool s n (p + 1) (if 0 < s (115 + p) ∧ (l = -1 ∨ qv s p 0 0 < l) then qv s p 0 0 else l) := rfl
            rw [e] at H
            first | (rw [if_pos (by omega)] at H; exact H) | (rw [if_neg (by omega)] at H; exact H)
          · refine ih _ _ _ (by omega) (by omega) (by omega) ?_
            have e : ool s (n + 1) p l = ool s n (p + 1) (if 0 < s (115 + p) ∧ (l = -1 ∨ qv s p 0 0 < l) then qv s p 0 0 else l) := rfl
            rw [e] at H
            first | (rw [if_pos (by omega)] at H; exact H) | (rw [if_neg (by omega)] at H; exact H)
      · refine ih _ _ _ (by omega) (by omega) (by omega) ?_
        have e : ool s (n + 1) p l = ool s n (p + 1) (if 0 < s (115 + p) ∧ (l = -1 ∨ qv s p 0 0 < l) then qv s p 0 0 else l) := rfl
        rw [e] at H
        first | (rw [if_pos (by omega)] at H; exact H) | (rw [if_neg (by omega)] at H; exact H)
    · exfalso; omega
theorem S_X6_oldest {d : Nat} {h : PH} {B A : Nat} {EP E D : Nat → Int → Int} {s : Int → Int} {N : Int} {Q : Int → PH → Prop} {X : Nat → PH → Prop} (T : FT h B A EP E D s) (W : WD D s N)  (H : ∀ x : Int, (tL D) = 0 → x = ool s (D 0 4).toNat 0 (-1) → Q x h) (HX : ∀ (e n' : Nat), ((tL D) = 1 ∧ e = 0) → hn h ≤ n' → X e (hup h n')) : RUN GQ (d + 7) m_X6_oldest [pA 64] h Q X := by
  obtain ⟨w1, w2, w3, wN, ws1, wI⟩ := id W
  have kL := tL_or D
  have M := T.M
  have L := T.L
  rw [e_X6_oldest]
  refine WP.of (RUN.mono GQ _) (cuts := [8]) (n := 400) (v_X6_oldest_0 _ _ _ _ _ _ _ ?_)
  refine ⟨T.k, ?_⟩
  refine ⟨⟨by omega, by omega⟩, ?_⟩
  refine S_X6_needHall T (fun c1 => ?_) (fun c1 n1 l1 => ?_)
  · obtain ⟨I, V, sw⟩ := wI (by omega)
    obtain ⟨R, U⟩ := T.u (by omega)
    obtain ⟨v2, v3, v4, vh⟩ := id V
    have I1 := I.e1
    have I2 := I.e2
    refine L_X6_oldest_8 T I V R U wN ((D 0 4).toNat) _ _ _ (by omega) (by omega) (by omega) ?_
    exact fun x e => H x (by omega) e
  · exact HX 0 _ (by omega) l1
theorem S_X6_loser {d : Nat} {h : PH} {B A : Nat} {EP E D : Nat → Int → Int} {s : Int → Int} {N : Int} {Q : Int → PH → Prop} {X : Nat → PH → Prop} {p k : Int} (T : FT h B A EP E D s) (W : WD D s N) (hvp : InR p) (hvk : InR k) (H : ∀ x : Int, ck (ck (tL D) p 0 (D 0 4 - 1) 2) k 0 (D 0 3 - 1) 2 = 0 → x = losv D s p k → Q x h) (HX : ∀ (e n' : Nat), (ck (ck (tL D) p 0 (D 0 4 - 1) 2) k 0 (D 0 3 - 1) 2 = 1 ∧ e = 0 ∨ ck (ck (tL D) p 0 (D 0 4 - 1) 2) k 0 (D 0 3 - 1) 2 = 2 ∧ e = 2) → hn h ≤ n' → X e (hup h n')) : RUN GQ (d + 8) m_X6_loser [pA 64, pI p, pI k] h Q X := by
  obtain ⟨w1, w2, w3, wN, ws1, wI⟩ := id W
  have kL := tL_or D
  have M := T.M
  have L := T.L
  have k1 := ck_or (tL D) p 0 (D 0 4 - 1) 2
  have k2 := ck_or (ck (tL D) p 0 (D 0 4 - 1) 2) k 0 (D 0 3 - 1) 2
  rw [e_X6_loser]
  refine WP.of (RUN.mono GQ _) (cuts := []) (n := 400) (v_X6_loser_0 _ _ _ _ _ _ _ _ ?_)
  refine ⟨T.k, ?_⟩
  refine ⟨⟨by omega, by omega⟩, ?_⟩
  refine S_X6_needHall T (fun c1 => ?_) (fun c1 n1 l1 => ?_)
  · obtain ⟨I, V, sw⟩ := wI (by omega)
    obtain ⟨R, U⟩ := T.u (by omega)
    obtain ⟨v2, v3, v4, vh⟩ := id V
    have I1 := I.e1
    have I2 := I.e2
    refine ⟨T.k, ?_⟩
    refine ⟨⟨by omega, by omega⟩, ?_⟩
    refine S_X6_needProgram T U V (by omega) (fun c6 => ?_) (fun c6 n6 l6 => ?_)
    · have hp6 : 0 ≤ p ∧ p < 6 := by omega
      have q0 := I.qn hp6
      have q13 := I.hq.1
      have s0 := I.sn hp6
      refine ⟨T.k, ?_⟩
      refine ⟨⟨by omega, by omega⟩, ?_⟩
      refine S_X6_needKind T U V (by omega) (fun c11 => ?_) (fun c11 n11 l11 => ?_)
      · have uk := I.ur (p := p) (k := k) hp6 ⟨by omega, by omega⟩
        refine ⟨T.k, ?_⟩
        try rw [T.r6]
        refine ⟨Bx.k M 0 (by decide) rfl, ?_⟩
        try rw [show hr h A 5 = A + 6 from Bx.r M 0 5 6 (by decide)]
        refine ⟨Bx.k M 6 (by decide) rfl, ?_⟩
        refine S_X1_sizeOf_qR M R I (by omega) (fun x22 e22 => ?_)
        subst e22
        refine ⟨T.k, ?_⟩
        try rw [T.r6]
        refine ⟨Bx.k M 0 (by decide) rfl, ?_⟩
        refine S_X0_settingOf M (by omega) (fun x30 e30 => ?_)
        subst e30
        rw [R.cap]
        refine ⟨ir (by omega) (by omega), ir (by omega) (by omega), fun c33 => ?_, fun c33 => ?_⟩
        · first
          | (exfalso; omega)
          | (refine H _ (by omega) ?_
             unfold losv
             (repeat' split) <;> first | rfl | (exfalso; omega))
        · refine ⟨T.k, ?_⟩
          try rw [T.r6]
          refine ⟨Bx.k M 0 (by decide) rfl, ?_⟩
          refine S_X0_lastInOrder M R I v3 (by omega) (by omega) (fun x43 e43 => ?_)
          subst e43
          have pl := plc_spec (s := s) (p := p) (x := s (115 + p) - 1) ⟨by omega, by omega⟩
          have qe := I.qe hp6 pl.1
          unfold QE at qe
          have ul := I.ur (p := p) (k := qv s p (plc s p (s (115 + p) - 1)) 1) hp6 ⟨by omega, by omega⟩
          refine ⟨T.k, ?_⟩
          try rw [T.r6]
          refine ⟨Bx.k M 0 (by decide) rfl, ?_⟩
          try rw [show hr h A 5 = A + 6 from Bx.r M 0 5 6 (by decide)]
          refine ⟨Bx.k M 6 (by decide) rfl, ?_⟩
          refine S_X1_part_qR M R I (by omega) (by omega) (by omega) (fun x57 e57 => ?_)
          subst e57
          refine ⟨T.k, ?_⟩
          try rw [T.r6]
          refine ⟨Bx.k M 0 (by decide) rfl, ?_⟩
          refine S_X0_urgencyOf M R I (by omega) (by omega) (by omega) (fun x68 e68 => ?_)
          subst e68
          refine ⟨T.k, ?_⟩
          try rw [T.r6]
          refine ⟨Bx.k M 0 (by decide) rfl, ?_⟩
          refine S_X0_urgencyOf M R I (by omega) (by omega) (by omega) (fun x78 e78 => ?_)
          subst e78
          refine ⟨ir (by omega) (by omega), ir (by omega) (by omega), fun c81 => ?_, fun c81 => ?_⟩
          · refine ⟨T.k, ?_⟩
            try rw [T.r6]
            refine ⟨Bx.k M 0 (by decide) rfl, ?_⟩
            try rw [show hr h A 5 = A + 6 from Bx.r M 0 5 6 (by decide)]
            refine ⟨Bx.k M 6 (by decide) rfl, ?_⟩
            refine S_X1_part_qR M R I (by omega) (by omega) (by omega) (fun x102 e102 => ?_)
            subst e102
            first
            | (exfalso; omega)
            | (refine H _ (by omega) ?_
               unfold losv
               (repeat' split) <;> first | rfl | (exfalso; omega))
          · refine ⟨T.k, ?_⟩
            try rw [T.r6]
            refine ⟨Bx.k M 0 (by decide) rfl, ?_⟩
            try rw [show hi h A 11 = _ from Bx.f11 M 0 (by decide)]
            rw [R.fl.2.2.1]
            first
            | (exfalso; omega)
            | (refine H _ (by omega) ?_
               unfold losv
               (repeat' split) <;> first | rfl | (exfalso; omega))
      · exact HX 2 _ (by omega) l11
    · exact HX 2 _ (by omega) l6
  · exact HX 0 _ (by omega) l1
theorem L_X6_raisers_13 {d : Nat} {h : PH} {B A : Nat} {EP E D : Nat → Int → Int} {s : Int → Int} {N : Int} {Q : Int → PH → Prop} {X : Nat → PH → Prop} {k : Int} (T : FT h B A EP E D s) (I : HI (D 0 3) (D 0 4) (D 0 2) N s) (V : PIv D) (R : HR E (D 0 2) (D 0 3) s) (U : PT EP D) (wN : N ≤ 1990000000) (hvk : InR k) : ∀ (n : Nat) (acc p : Int), (0 ≤ p) → (p + n = D 0 4) → (InR acc) → (∀ x : Int, x = rasl D k n p acc → Q x h) → WP k_X6_raisers [] (RUN GQ (d + 7)) 24 1700 (d + 8) Q X 13 [some (pA 64), some (pI k), some (pI acc), some (pI p)] [] h 2 12 := by
  intro n
  induction n with
  | zero =>
    intro acc p hp0 hn0 ha H
    have M := T.M
    have L := T.L
    obtain ⟨v2, v3, v4, vh⟩ := id V
    have I1 := I.e1
    have I2 := I.e2
    refine WP.of (RUN.mono GQ _) (cuts := [13]) (n := 400) (v_X6_raisers_13 _ _ _ _ _ _ _ ?_)
    refine ⟨T.k, ?_⟩
    try rw [T.r5]
    refine ⟨Bx.k L 0 (by decide) rfl, ?_⟩
    try rw [show hr h B 1 = B + 4 from Bx.r L 0 1 4 (by decide)]
    refine ⟨Bx.k L 4 (by decide) rfl, ?_⟩
    try rw [show hi h (B + 4) 2 = _ from Bx.f2 L 4 (by decide)]
    rw [U.p]
    refine ⟨ir (by omega) (by omega), ir (by omega) (by omega), fun c24 => ?_, fun c24 => ?_⟩
    · exfalso; omega
    · exact H _ rfl
  | succ n ih =>
    intro acc p hp0 hn0 ha H
    have M := T.M
    have L := T.L
    obtain ⟨v2, v3, v4, vh⟩ := id V
    have I1 := I.e1
    have I2 := I.e2
    have r01 := rak_01 (D := D) (p := p) (k := k) (D 0 3).toNat 0
    refine WP.of (RUN.mono GQ _) (cuts := [13]) (n := 400) (v_X6_raisers_13 _ _ _ _ _ _ _ ?_)
    refine ⟨T.k, ?_⟩
    try rw [T.r5]
    refine ⟨Bx.k L 0 (by decide) rfl, ?_⟩
    try rw [show hr h B 1 = B + 4 from Bx.r L 0 1 4 (by decide)]
    refine ⟨Bx.k L 4 (by decide) rfl, ?_⟩
    try rw [show hi h (B + 4) 2 = _ from Bx.f2 L 4 (by decide)]
    rw [U.p]
    refine ⟨ir (by omega) (by omega), ir (by omega) (by omega), fun c24 => ?_, fun c24 => ?_⟩
    · refine ⟨T.k, ?_⟩
      try rw [T.r5]
      refine ⟨Bx.k L 0 (by decide) rfl, ?_⟩
      refine S_X5_raises L U V (by omega) (by omega) (fun x33 e33 => ?_)
      subst e33
      refine ⟨ir (by omega) (by omega), fun c36 => ?_, fun c36 => ?_⟩
      · refine ih _ _ (by omega) (by omega) (by first | exact ha | exact bor_InR _ _) ?_
        have e : rasl D k (n + 1) p acc = rasl D k n (p + 1) (bor acc (bshl (rak D p k (D 0 3).toNat 0) p)) := rfl
        rw [e] at H
        first
        | (rw [show rak D p k (D 0 3).toNat 0 = 0 by omega, bshl_0, bor_0 ha] at H; exact H)
        | (rw [show rak D p k (D 0 3).toNat 0 = 1 by omega] at H; exact H)
      · refine ih _ _ (by omega) (by omega) (by first | exact ha | exact bor_InR _ _) ?_
        have e : rasl D k (n + 1) p acc = rasl D k n (p + 1) (bor acc (bshl (rak D p k (D 0 3).toNat 0) p)) := rfl
        rw [e] at H
        first
        | (rw [show rak D p k (D 0 3).toNat 0 = 0 by omega, bshl_0, bor_0 ha] at H; exact H)
        | (rw [show rak D p k (D 0 3).toNat 0 = 1 by omega] at H; exact H)
    · exfalso; omega
theorem S_X6_raisers {d : Nat} {h : PH} {B A : Nat} {EP E D : Nat → Int → Int} {s : Int → Int} {N : Int} {Q : Int → PH → Prop} {X : Nat → PH → Prop} {k : Int} (T : FT h B A EP E D s) (W : WD D s N) (hvk : InR k) (H : ∀ x : Int, ck (tL D) k 0 (D 0 3 - 1) 2 = 0 → x = rasl D k (D 0 4).toNat 0 0 → Q x h) (HX : ∀ (e n' : Nat), (ck (tL D) k 0 (D 0 3 - 1) 2 = 1 ∧ e = 0 ∨ ck (tL D) k 0 (D 0 3 - 1) 2 = 2 ∧ e = 2) → hn h ≤ n' → X e (hup h n')) : RUN GQ (d + 8) m_X6_raisers [pA 64, pI k] h Q X := by
  obtain ⟨w1, w2, w3, wN, ws1, wI⟩ := id W
  have kL := tL_or D
  have M := T.M
  have L := T.L
  have k1 := ck_or (tL D) k 0 (D 0 3 - 1) 2
  rw [e_X6_raisers]
  refine WP.of (RUN.mono GQ _) (cuts := [13]) (n := 400) (v_X6_raisers_0 _ _ _ _ _ _ _ ?_)
  refine ⟨T.k, ?_⟩
  refine ⟨⟨by omega, by omega⟩, ?_⟩
  refine S_X6_needHall T (fun c1 => ?_) (fun c1 n1 l1 => ?_)
  · obtain ⟨I, V, sw⟩ := wI (by omega)
    obtain ⟨R, U⟩ := T.u (by omega)
    obtain ⟨v2, v3, v4, vh⟩ := id V
    have I1 := I.e1
    have I2 := I.e2
    refine ⟨T.k, ?_⟩
    refine ⟨⟨by omega, by omega⟩, ?_⟩
    refine S_X6_needKind T U V (by omega) (fun c6 => ?_) (fun c6 n6 l6 => ?_)
    · refine L_X6_raisers_13 T I V R U wN hvk ((D 0 4).toNat) _ _ (by omega) (by omega) (by exact ⟨by decide, by decide⟩) ?_
      exact fun x e => H x (by omega) e
    · exact HX 2 _ (by omega) l6
  · exact HX 0 _ (by omega) l1
theorem S_X6_parseError {d : Nat} {h : PH} {B A : Nat} {EP E D : Nat → Int → Int} {s : Int → Int} {Q : Int → PH → Prop} {X : Nat → PH → Prop} (T : FT h B A EP E D s)  (H : ∀ x : Int, x = D 0 18 → Q x h) : RUN GQ (d + 1) m_X6_parseError [pA 64] h Q X := by
  rw [e_X6_parseError]
  refine WP.of (RUN.mono GQ _) (cuts := []) (n := 400) (v_X6_parseError_0 _ _ _ _ ?_)
  refine ⟨T.k, ?_⟩
  try rw [T.f2]
  exact H _ rfl
theorem S_X6_errorPosition {d : Nat} {h : PH} {B A : Nat} {EP E D : Nat → Int → Int} {s : Int → Int} {Q : Int → PH → Prop} {X : Nat → PH → Prop} (T : FT h B A EP E D s)  (H : ∀ x : Int, x = D 0 19 → Q x h) : RUN GQ (d + 1) m_X6_errorPosition [pA 64] h Q X := by
  rw [e_X6_errorPosition]
  refine WP.of (RUN.mono GQ _) (cuts := []) (n := 400) (v_X6_errorPosition_0 _ _ _ _ ?_)
  refine ⟨T.k, ?_⟩
  try rw [T.f3]
  exact H _ rfl
theorem S_X6_buffered {d : Nat} {h : PH} {B A : Nat} {EP E D : Nat → Int → Int} {s : Int → Int} {Q : Int → PH → Prop} {X : Nat → PH → Prop} (T : FT h B A EP E D s)  (H : ∀ x : Int, x = D 0 17 → Q x h) : RUN GQ (d + 1) m_X6_buffered [pA 64] h Q X := by
  rw [e_X6_buffered]
  refine WP.of (RUN.mono GQ _) (cuts := []) (n := 400) (v_X6_buffered_0 _ _ _ _ ?_)
  refine ⟨T.k, ?_⟩
  try rw [T.f1]
  exact H _ rfl
