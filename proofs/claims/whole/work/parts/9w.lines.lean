/-! the model reads lines (3) (written by wip/whole/tools/eng.py) -/
section VCS
variable {call : PC} {mc ms fr : Nat} {Q : Int → PH → Prop} {X : Nat → PH → Prop} {K : PK}
set_option maxRecDepth 100000 in
theorem v_X7_act_0 (a0 : Nat) (i1 : Int) (z2 : Option PV) (z3 : Option PV) (z4 : Option PV) (z5 : Option PV) (z6 : Option PV) (h : PH) (c s : Nat) (H : hk h a0 = 8 ∧ call m_X7_actHere [pA a0] h (fun x1 h1 =>
 InR x1 ∧ InR ((-1)) ∧ (x1 = ((-1)) →
 hk h1 a0 = 8 ∧ call m_X7_failsIf [pA a0, pI 1, pI 1] h1 (fun _ h2 =>
 hk h2 a0 = 8 ∧ InR (hi h2 a0 25) ∧ ((hi h2 a0 25) = 0 →
 hk h2 a0 = 8 ∧ (hk h2 (hr h2 a0 40) = 20 ∨ hk h2 (hr h2 a0 40) = 26) ∧ (0 ≤ i1 ∧ i1 < (hl h2 (hr h2 a0 40) : Int)) ∧ InR (hi h2 (hr h2 a0 40) (Int.toNat i1)) ∧ InR 4 ∧ ((hi h2 (hr h2 a0 40) (Int.toNat i1)) = 4 →
 hk h2 a0 = 8 ∧ call m_X7_failsIf [pA a0, pI 1, pI 4] h2 (fun _ h3 =>
 hk h3 a0 = 8 ∧ call m_X7_goesOn [pA a0] h3 (fun _ h4 =>
 hk h4 a0 = 8 ∧ call m_X7_kindHere [pA a0] h4 (fun x5 h5 =>
 InR x1 ∧ (x1 = 0 →
 hk h5 a0 = 8 ∧ call m_X7_programHere [pA a0] h5 (fun x6 h6 =>
 InR x1 ∧ (x1 = 0 →
 hk h6 a0 = 8 ∧ call m_X7_takes [pA a0, pI 0, pI 999] h6 (fun x7 h7 =>
 hk h7 a0 = 8 ∧ InR (hi h7 a0 25) ∧ ((hi h7 a0 25) = 0 →
 hk h7 a0 = 8 ∧ (hk h7 (hr h7 a0 40) = 20 ∨ hk h7 (hr h7 a0 40) = 26) ∧ (0 ≤ i1 ∧ i1 < (hl h7 (hr h7 a0 40) : Int)) ∧ hk h7 a0 = 8 ∧ hk h7 (hr h7 a0 41) = 20 ∧ (0 ≤ (4 * ((4 * i1) + (hi h7 (hr h7 a0 40) (Int.toNat i1)))) ∧ (4 * ((4 * i1) + (hi h7 (hr h7 a0 40) (Int.toNat i1)))) < (hl h7 (hr h7 a0 41) : Int)) ∧ ∀ h8, h8 = hsi h7 (hr h7 a0 41) (Int.toNat ((4 * ((4 * i1) + (hi h7 (hr h7 a0 40) (Int.toNat i1)))))) x1 →
 hk h8 a0 = 8 ∧ hk h8 (hr h8 a0 41) = 20 ∧ (0 ≤ ((4 * ((4 * i1) + (hi h7 (hr h7 a0 40) (Int.toNat i1)))) + 1) ∧ ((4 * ((4 * i1) + (hi h7 (hr h7 a0 40) (Int.toNat i1)))) + 1) < (hl h8 (hr h8 a0 41) : Int)) ∧ ∀ h9, h9 = hsi h8 (hr h8 a0 41) (Int.toNat (((4 * ((4 * i1) + (hi h7 (hr h7 a0 40) (Int.toNat i1)))) + 1))) x5 →
 hk h9 a0 = 8 ∧ hk h9 (hr h9 a0 41) = 20 ∧ (0 ≤ ((4 * ((4 * i1) + (hi h7 (hr h7 a0 40) (Int.toNat i1)))) + 2) ∧ ((4 * ((4 * i1) + (hi h7 (hr h7 a0 40) (Int.toNat i1)))) + 2) < (hl h9 (hr h9 a0 41) : Int)) ∧ ∀ h10, h10 = hsi h9 (hr h9 a0 41) (Int.toNat (((4 * ((4 * i1) + (hi h7 (hr h7 a0 40) (Int.toNat i1)))) + 2))) x6 →
 hk h10 a0 = 8 ∧ hk h10 (hr h10 a0 41) = 20 ∧ (0 ≤ ((4 * ((4 * i1) + (hi h7 (hr h7 a0 40) (Int.toNat i1)))) + 3) ∧ ((4 * ((4 * i1) + (hi h7 (hr h7 a0 40) (Int.toNat i1)))) + 3) < (hl h10 (hr h10 a0 41) : Int)) ∧ ∀ h11, h11 = hsi h10 (hr h10 a0 41) (Int.toNat (((4 * ((4 * i1) + (hi h7 (hr h7 a0 40) (Int.toNat i1)))) + 3))) x7 →
 hk h11 a0 = 8 ∧ (hk h11 (hr h11 a0 40) = 20 ∨ hk h11 (hr h11 a0 40) = 26) ∧ (0 ≤ i1 ∧ i1 < (hl h11 (hr h11 a0 40) : Int)) ∧ hk h11 (hr h11 a0 40) = 20 ∧ (0 ≤ i1 ∧ i1 < (hl h11 (hr h11 a0 40) : Int)) ∧ ∀ h12, h12 = hsi h11 (hr h11 a0 40) (Int.toNat i1) ((hi h11 (hr h11 a0 40) (Int.toNat i1)) + 1) →
 Q 0 h12) ∧
((hi h7 a0 25) ≠ 0 →
 Q 0 h7)) X) ∧
(x1 ≠ 0 →
 hk h6 a0 = 8 ∧ InR (hi h6 a0 25) ∧ ((hi h6 a0 25) = 0 →
 hk h6 a0 = 8 ∧ (hk h6 (hr h6 a0 40) = 20 ∨ hk h6 (hr h6 a0 40) = 26) ∧ (0 ≤ i1 ∧ i1 < (hl h6 (hr h6 a0 40) : Int)) ∧ hk h6 a0 = 8 ∧ hk h6 (hr h6 a0 41) = 20 ∧ (0 ≤ (4 * ((4 * i1) + (hi h6 (hr h6 a0 40) (Int.toNat i1)))) ∧ (4 * ((4 * i1) + (hi h6 (hr h6 a0 40) (Int.toNat i1)))) < (hl h6 (hr h6 a0 41) : Int)) ∧ ∀ h13, h13 = hsi h6 (hr h6 a0 41) (Int.toNat ((4 * ((4 * i1) + (hi h6 (hr h6 a0 40) (Int.toNat i1)))))) x1 →
 hk h13 a0 = 8 ∧ hk h13 (hr h13 a0 41) = 20 ∧ (0 ≤ ((4 * ((4 * i1) + (hi h6 (hr h6 a0 40) (Int.toNat i1)))) + 1) ∧ ((4 * ((4 * i1) + (hi h6 (hr h6 a0 40) (Int.toNat i1)))) + 1) < (hl h13 (hr h13 a0 41) : Int)) ∧ ∀ h14, h14 = hsi h13 (hr h13 a0 41) (Int.toNat (((4 * ((4 * i1) + (hi h6 (hr h6 a0 40) (Int.toNat i1)))) + 1))) x5 →
 hk h14 a0 = 8 ∧ hk h14 (hr h14 a0 41) = 20 ∧ (0 ≤ ((4 * ((4 * i1) + (hi h6 (hr h6 a0 40) (Int.toNat i1)))) + 2) ∧ ((4 * ((4 * i1) + (hi h6 (hr h6 a0 40) (Int.toNat i1)))) + 2) < (hl h14 (hr h14 a0 41) : Int)) ∧ ∀ h15, h15 = hsi h14 (hr h14 a0 41) (Int.toNat (((4 * ((4 * i1) + (hi h6 (hr h6 a0 40) (Int.toNat i1)))) + 2))) x6 →
 hk h15 a0 = 8 ∧ hk h15 (hr h15 a0 41) = 20 ∧ (0 ≤ ((4 * ((4 * i1) + (hi h6 (hr h6 a0 40) (Int.toNat i1)))) + 3) ∧ ((4 * ((4 * i1) + (hi h6 (hr h6 a0 40) (Int.toNat i1)))) + 3) < (hl h15 (hr h15 a0 41) : Int)) ∧ ∀ h16, h16 = hsi h15 (hr h15 a0 41) (Int.toNat (((4 * ((4 * i1) + (hi h6 (hr h6 a0 40) (Int.toNat i1)))) + 3))) ((-1)) →
 hk h16 a0 = 8 ∧ (hk h16 (hr h16 a0 40) = 20 ∨ hk h16 (hr h16 a0 40) = 26) ∧ (0 ≤ i1 ∧ i1 < (hl h16 (hr h16 a0 40) : Int)) ∧ hk h16 (hr h16 a0 40) = 20 ∧ (0 ≤ i1 ∧ i1 < (hl h16 (hr h16 a0 40) : Int)) ∧ ∀ h17, h17 = hsi h16 (hr h16 a0 40) (Int.toNat i1) ((hi h16 (hr h16 a0 40) (Int.toNat i1)) + 1) →
 Q 0 h17) ∧
((hi h6 a0 25) ≠ 0 →
 Q 0 h6))) X) ∧
(x1 ≠ 0 →
 InR x1 ∧ (x1 = 0 →
 hk h5 a0 = 8 ∧ call m_X7_takes [pA a0, pI 0, pI 999] h5 (fun x18 h18 =>
 hk h18 a0 = 8 ∧ InR (hi h18 a0 25) ∧ ((hi h18 a0 25) = 0 →
 hk h18 a0 = 8 ∧ (hk h18 (hr h18 a0 40) = 20 ∨ hk h18 (hr h18 a0 40) = 26) ∧ (0 ≤ i1 ∧ i1 < (hl h18 (hr h18 a0 40) : Int)) ∧ hk h18 a0 = 8 ∧ hk h18 (hr h18 a0 41) = 20 ∧ (0 ≤ (4 * ((4 * i1) + (hi h18 (hr h18 a0 40) (Int.toNat i1)))) ∧ (4 * ((4 * i1) + (hi h18 (hr h18 a0 40) (Int.toNat i1)))) < (hl h18 (hr h18 a0 41) : Int)) ∧ ∀ h19, h19 = hsi h18 (hr h18 a0 41) (Int.toNat ((4 * ((4 * i1) + (hi h18 (hr h18 a0 40) (Int.toNat i1)))))) x1 →
 hk h19 a0 = 8 ∧ hk h19 (hr h19 a0 41) = 20 ∧ (0 ≤ ((4 * ((4 * i1) + (hi h18 (hr h18 a0 40) (Int.toNat i1)))) + 1) ∧ ((4 * ((4 * i1) + (hi h18 (hr h18 a0 40) (Int.toNat i1)))) + 1) < (hl h19 (hr h19 a0 41) : Int)) ∧ ∀ h20, h20 = hsi h19 (hr h19 a0 41) (Int.toNat (((4 * ((4 * i1) + (hi h18 (hr h18 a0 40) (Int.toNat i1)))) + 1))) x5 →
 hk h20 a0 = 8 ∧ hk h20 (hr h20 a0 41) = 20 ∧ (0 ≤ ((4 * ((4 * i1) + (hi h18 (hr h18 a0 40) (Int.toNat i1)))) + 2) ∧ ((4 * ((4 * i1) + (hi h18 (hr h18 a0 40) (Int.toNat i1)))) + 2) < (hl h20 (hr h20 a0 41) : Int)) ∧ ∀ h21, h21 = hsi h20 (hr h20 a0 41) (Int.toNat (((4 * ((4 * i1) + (hi h18 (hr h18 a0 40) (Int.toNat i1)))) + 2))) ((-1)) →
 hk h21 a0 = 8 ∧ hk h21 (hr h21 a0 41) = 20 ∧ (0 ≤ ((4 * ((4 * i1) + (hi h18 (hr h18 a0 40) (Int.toNat i1)))) + 3) ∧ ((4 * ((4 * i1) + (hi h18 (hr h18 a0 40) (Int.toNat i1)))) + 3) < (hl h21 (hr h21 a0 41) : Int)) ∧ ∀ h22, h22 = hsi h21 (hr h21 a0 41) (Int.toNat (((4 * ((4 * i1) + (hi h18 (hr h18 a0 40) (Int.toNat i1)))) + 3))) x18 →
 hk h22 a0 = 8 ∧ (hk h22 (hr h22 a0 40) = 20 ∨ hk h22 (hr h22 a0 40) = 26) ∧ (0 ≤ i1 ∧ i1 < (hl h22 (hr h22 a0 40) : Int)) ∧ hk h22 (hr h22 a0 40) = 20 ∧ (0 ≤ i1 ∧ i1 < (hl h22 (hr h22 a0 40) : Int)) ∧ ∀ h23, h23 = hsi h22 (hr h22 a0 40) (Int.toNat i1) ((hi h22 (hr h22 a0 40) (Int.toNat i1)) + 1) →
 Q 0 h23) ∧
((hi h18 a0 25) ≠ 0 →
 Q 0 h18)) X) ∧
(x1 ≠ 0 →
 hk h5 a0 = 8 ∧ InR (hi h5 a0 25) ∧ ((hi h5 a0 25) = 0 →
 hk h5 a0 = 8 ∧ (hk h5 (hr h5 a0 40) = 20 ∨ hk h5 (hr h5 a0 40) = 26) ∧ (0 ≤ i1 ∧ i1 < (hl h5 (hr h5 a0 40) : Int)) ∧ hk h5 a0 = 8 ∧ hk h5 (hr h5 a0 41) = 20 ∧ (0 ≤ (4 * ((4 * i1) + (hi h5 (hr h5 a0 40) (Int.toNat i1)))) ∧ (4 * ((4 * i1) + (hi h5 (hr h5 a0 40) (Int.toNat i1)))) < (hl h5 (hr h5 a0 41) : Int)) ∧ ∀ h24, h24 = hsi h5 (hr h5 a0 41) (Int.toNat ((4 * ((4 * i1) + (hi h5 (hr h5 a0 40) (Int.toNat i1)))))) x1 →
 hk h24 a0 = 8 ∧ hk h24 (hr h24 a0 41) = 20 ∧ (0 ≤ ((4 * ((4 * i1) + (hi h5 (hr h5 a0 40) (Int.toNat i1)))) + 1) ∧ ((4 * ((4 * i1) + (hi h5 (hr h5 a0 40) (Int.toNat i1)))) + 1) < (hl h24 (hr h24 a0 41) : Int)) ∧ ∀ h25, h25 = hsi h24 (hr h24 a0 41) (Int.toNat (((4 * ((4 * i1) + (hi h5 (hr h5 a0 40) (Int.toNat i1)))) + 1))) x5 →
 hk h25 a0 = 8 ∧ hk h25 (hr h25 a0 41) = 20 ∧ (0 ≤ ((4 * ((4 * i1) + (hi h5 (hr h5 a0 40) (Int.toNat i1)))) + 2) ∧ ((4 * ((4 * i1) + (hi h5 (hr h5 a0 40) (Int.toNat i1)))) + 2) < (hl h25 (hr h25 a0 41) : Int)) ∧ ∀ h26, h26 = hsi h25 (hr h25 a0 41) (Int.toNat (((4 * ((4 * i1) + (hi h5 (hr h5 a0 40) (Int.toNat i1)))) + 2))) ((-1)) →
 hk h26 a0 = 8 ∧ hk h26 (hr h26 a0 41) = 20 ∧ (0 ≤ ((4 * ((4 * i1) + (hi h5 (hr h5 a0 40) (Int.toNat i1)))) + 3) ∧ ((4 * ((4 * i1) + (hi h5 (hr h5 a0 40) (Int.toNat i1)))) + 3) < (hl h26 (hr h26 a0 41) : Int)) ∧ ∀ h27, h27 = hsi h26 (hr h26 a0 41) (Int.toNat (((4 * ((4 * i1) + (hi h5 (hr h5 a0 40) (Int.toNat i1)))) + 3))) ((-1)) →
 hk h27 a0 = 8 ∧ (hk h27 (hr h27 a0 40) = 20 ∨ hk h27 (hr h27 a0 40) = 26) ∧ (0 ≤ i1 ∧ i1 < (hl h27 (hr h27 a0 40) : Int)) ∧ hk h27 (hr h27 a0 40) = 20 ∧ (0 ≤ i1 ∧ i1 < (hl h27 (hr h27 a0 40) : Int)) ∧ ∀ h28, h28 = hsi h27 (hr h27 a0 40) (Int.toNat i1) ((hi h27 (hr h27 a0 40) (Int.toNat i1)) + 1) →
 Q 0 h28) ∧
((hi h5 a0 25) ≠ 0 →
 Q 0 h5)))) X) X) X) ∧
((hi h2 (hr h2 a0 40) (Int.toNat i1)) ≠ 4 →
 hk h2 a0 = 8 ∧ call m_X7_failsIf [pA a0, pI 0, pI 4] h2 (fun _ h29 =>
 hk h29 a0 = 8 ∧ call m_X7_goesOn [pA a0] h29 (fun _ h30 =>
 hk h30 a0 = 8 ∧ call m_X7_kindHere [pA a0] h30 (fun x31 h31 =>
 InR x1 ∧ (x1 = 0 →
 hk h31 a0 = 8 ∧ call m_X7_programHere [pA a0] h31 (fun x32 h32 =>
 InR x1 ∧ (x1 = 0 →
 hk h32 a0 = 8 ∧ call m_X7_takes [pA a0, pI 0, pI 999] h32 (fun x33 h33 =>
 hk h33 a0 = 8 ∧ InR (hi h33 a0 25) ∧ ((hi h33 a0 25) = 0 →
 hk h33 a0 = 8 ∧ (hk h33 (hr h33 a0 40) = 20 ∨ hk h33 (hr h33 a0 40) = 26) ∧ (0 ≤ i1 ∧ i1 < (hl h33 (hr h33 a0 40) : Int)) ∧ hk h33 a0 = 8 ∧ hk h33 (hr h33 a0 41) = 20 ∧ (0 ≤ (4 * ((4 * i1) + (hi h33 (hr h33 a0 40) (Int.toNat i1)))) ∧ (4 * ((4 * i1) + (hi h33 (hr h33 a0 40) (Int.toNat i1)))) < (hl h33 (hr h33 a0 41) : Int)) ∧ ∀ h34, h34 = hsi h33 (hr h33 a0 41) (Int.toNat ((4 * ((4 * i1) + (hi h33 (hr h33 a0 40) (Int.toNat i1)))))) x1 →
 hk h34 a0 = 8 ∧ hk h34 (hr h34 a0 41) = 20 ∧ (0 ≤ ((4 * ((4 * i1) + (hi h33 (hr h33 a0 40) (Int.toNat i1)))) + 1) ∧ ((4 * ((4 * i1) + (hi h33 (hr h33 a0 40) (Int.toNat i1)))) + 1) < (hl h34 (hr h34 a0 41) : Int)) ∧ ∀ h35, h35 = hsi h34 (hr h34 a0 41) (Int.toNat (((4 * ((4 * i1) + (hi h33 (hr h33 a0 40) (Int.toNat i1)))) + 1))) x31 →
 hk h35 a0 = 8 ∧ hk h35 (hr h35 a0 41) = 20 ∧ (0 ≤ ((4 * ((4 * i1) + (hi h33 (hr h33 a0 40) (Int.toNat i1)))) + 2) ∧ ((4 * ((4 * i1) + (hi h33 (hr h33 a0 40) (Int.toNat i1)))) + 2) < (hl h35 (hr h35 a0 41) : Int)) ∧ ∀ h36, h36 = hsi h35 (hr h35 a0 41) (Int.toNat (((4 * ((4 * i1) + (hi h33 (hr h33 a0 40) (Int.toNat i1)))) + 2))) x32 →
 hk h36 a0 = 8 ∧ hk h36 (hr h36 a0 41) = 20 ∧ (0 ≤ ((4 * ((4 * i1) + (hi h33 (hr h33 a0 40) (Int.toNat i1)))) + 3) ∧ ((4 * ((4 * i1) + (hi h33 (hr h33 a0 40) (Int.toNat i1)))) + 3) < (hl h36 (hr h36 a0 41) : Int)) ∧ ∀ h37, h37 = hsi h36 (hr h36 a0 41) (Int.toNat (((4 * ((4 * i1) + (hi h33 (hr h33 a0 40) (Int.toNat i1)))) + 3))) x33 →
 hk h37 a0 = 8 ∧ (hk h37 (hr h37 a0 40) = 20 ∨ hk h37 (hr h37 a0 40) = 26) ∧ (0 ≤ i1 ∧ i1 < (hl h37 (hr h37 a0 40) : Int)) ∧ hk h37 (hr h37 a0 40) = 20 ∧ (0 ≤ i1 ∧ i1 < (hl h37 (hr h37 a0 40) : Int)) ∧ ∀ h38, h38 = hsi h37 (hr h37 a0 40) (Int.toNat i1) ((hi h37 (hr h37 a0 40) (Int.toNat i1)) + 1) →
 Q 0 h38) ∧
((hi h33 a0 25) ≠ 0 →
 Q 0 h33)) X) ∧
(x1 ≠ 0 →
 hk h32 a0 = 8 ∧ InR (hi h32 a0 25) ∧ ((hi h32 a0 25) = 0 →
 hk h32 a0 = 8 ∧ (hk h32 (hr h32 a0 40) = 20 ∨ hk h32 (hr h32 a0 40) = 26) ∧ (0 ≤ i1 ∧ i1 < (hl h32 (hr h32 a0 40) : Int)) ∧ hk h32 a0 = 8 ∧ hk h32 (hr h32 a0 41) = 20 ∧ (0 ≤ (4 * ((4 * i1) + (hi h32 (hr h32 a0 40) (Int.toNat i1)))) ∧ (4 * ((4 * i1) + (hi h32 (hr h32 a0 40) (Int.toNat i1)))) < (hl h32 (hr h32 a0 41) : Int)) ∧ ∀ h39, h39 = hsi h32 (hr h32 a0 41) (Int.toNat ((4 * ((4 * i1) + (hi h32 (hr h32 a0 40) (Int.toNat i1)))))) x1 →
 hk h39 a0 = 8 ∧ hk h39 (hr h39 a0 41) = 20 ∧ (0 ≤ ((4 * ((4 * i1) + (hi h32 (hr h32 a0 40) (Int.toNat i1)))) + 1) ∧ ((4 * ((4 * i1) + (hi h32 (hr h32 a0 40) (Int.toNat i1)))) + 1) < (hl h39 (hr h39 a0 41) : Int)) ∧ ∀ h40, h40 = hsi h39 (hr h39 a0 41) (Int.toNat (((4 * ((4 * i1) + (hi h32 (hr h32 a0 40) (Int.toNat i1)))) + 1))) x31 →
 hk h40 a0 = 8 ∧ hk h40 (hr h40 a0 41) = 20 ∧ (0 ≤ ((4 * ((4 * i1) + (hi h32 (hr h32 a0 40) (Int.toNat i1)))) + 2) ∧ ((4 * ((4 * i1) + (hi h32 (hr h32 a0 40) (Int.toNat i1)))) + 2) < (hl h40 (hr h40 a0 41) : Int)) ∧ ∀ h41, h41 = hsi h40 (hr h40 a0 41) (Int.toNat (((4 * ((4 * i1) + (hi h32 (hr h32 a0 40) (Int.toNat i1)))) + 2))) x32 →
 hk h41 a0 = 8 ∧ hk h41 (hr h41 a0 41) = 20 ∧ (0 ≤ ((4 * ((4 * i1) + (hi h32 (hr h32 a0 40) (Int.toNat i1)))) + 3) ∧ ((4 * ((4 * i1) + (hi h32 (hr h32 a0 40) (Int.toNat i1)))) + 3) < (hl h41 (hr h41 a0 41) : Int)) ∧ ∀ h42, h42 = hsi h41 (hr h41 a0 41) (Int.toNat (((4 * ((4 * i1) + (hi h32 (hr h32 a0 40) (Int.toNat i1)))) + 3))) ((-1)) →
 hk h42 a0 = 8 ∧ (hk h42 (hr h42 a0 40) = 20 ∨ hk h42 (hr h42 a0 40) = 26) ∧ (0 ≤ i1 ∧ i1 < (hl h42 (hr h42 a0 40) : Int)) ∧ hk h42 (hr h42 a0 40) = 20 ∧ (0 ≤ i1 ∧ i1 < (hl h42 (hr h42 a0 40) : Int)) ∧ ∀ h43, h43 = hsi h42 (hr h42 a0 40) (Int.toNat i1) ((hi h42 (hr h42 a0 40) (Int.toNat i1)) + 1) →
 Q 0 h43) ∧
((hi h32 a0 25) ≠ 0 →
 Q 0 h32))) X) ∧
(x1 ≠ 0 →
 InR x1 ∧ (x1 = 0 →
 hk h31 a0 = 8 ∧ call m_X7_takes [pA a0, pI 0, pI 999] h31 (fun x44 h44 =>
 hk h44 a0 = 8 ∧ InR (hi h44 a0 25) ∧ ((hi h44 a0 25) = 0 →
 hk h44 a0 = 8 ∧ (hk h44 (hr h44 a0 40) = 20 ∨ hk h44 (hr h44 a0 40) = 26) ∧ (0 ≤ i1 ∧ i1 < (hl h44 (hr h44 a0 40) : Int)) ∧ hk h44 a0 = 8 ∧ hk h44 (hr h44 a0 41) = 20 ∧ (0 ≤ (4 * ((4 * i1) + (hi h44 (hr h44 a0 40) (Int.toNat i1)))) ∧ (4 * ((4 * i1) + (hi h44 (hr h44 a0 40) (Int.toNat i1)))) < (hl h44 (hr h44 a0 41) : Int)) ∧ ∀ h45, h45 = hsi h44 (hr h44 a0 41) (Int.toNat ((4 * ((4 * i1) + (hi h44 (hr h44 a0 40) (Int.toNat i1)))))) x1 →
 hk h45 a0 = 8 ∧ hk h45 (hr h45 a0 41) = 20 ∧ (0 ≤ ((4 * ((4 * i1) + (hi h44 (hr h44 a0 40) (Int.toNat i1)))) + 1) ∧ ((4 * ((4 * i1) + (hi h44 (hr h44 a0 40) (Int.toNat i1)))) + 1) < (hl h45 (hr h45 a0 41) : Int)) ∧ ∀ h46, h46 = hsi h45 (hr h45 a0 41) (Int.toNat (((4 * ((4 * i1) + (hi h44 (hr h44 a0 40) (Int.toNat i1)))) + 1))) x31 →
 hk h46 a0 = 8 ∧ hk h46 (hr h46 a0 41) = 20 ∧ (0 ≤ ((4 * ((4 * i1) + (hi h44 (hr h44 a0 40) (Int.toNat i1)))) + 2) ∧ ((4 * ((4 * i1) + (hi h44 (hr h44 a0 40) (Int.toNat i1)))) + 2) < (hl h46 (hr h46 a0 41) : Int)) ∧ ∀ h47, h47 = hsi h46 (hr h46 a0 41) (Int.toNat (((4 * ((4 * i1) + (hi h44 (hr h44 a0 40) (Int.toNat i1)))) + 2))) ((-1)) →
 hk h47 a0 = 8 ∧ hk h47 (hr h47 a0 41) = 20 ∧ (0 ≤ ((4 * ((4 * i1) + (hi h44 (hr h44 a0 40) (Int.toNat i1)))) + 3) ∧ ((4 * ((4 * i1) + (hi h44 (hr h44 a0 40) (Int.toNat i1)))) + 3) < (hl h47 (hr h47 a0 41) : Int)) ∧ ∀ h48, h48 = hsi h47 (hr h47 a0 41) (Int.toNat (((4 * ((4 * i1) + (hi h44 (hr h44 a0 40) (Int.toNat i1)))) + 3))) x44 →
 hk h48 a0 = 8 ∧ (hk h48 (hr h48 a0 40) = 20 ∨ hk h48 (hr h48 a0 40) = 26) ∧ (0 ≤ i1 ∧ i1 < (hl h48 (hr h48 a0 40) : Int)) ∧ hk h48 (hr h48 a0 40) = 20 ∧ (0 ≤ i1 ∧ i1 < (hl h48 (hr h48 a0 40) : Int)) ∧ ∀ h49, h49 = hsi h48 (hr h48 a0 40) (Int.toNat i1) ((hi h48 (hr h48 a0 40) (Int.toNat i1)) + 1) →
 Q 0 h49) ∧
((hi h44 a0 25) ≠ 0 →
 Q 0 h44)) X) ∧
(x1 ≠ 0 →
 hk h31 a0 = 8 ∧ InR (hi h31 a0 25) ∧ ((hi h31 a0 25) = 0 →
 hk h31 a0 = 8 ∧ (hk h31 (hr h31 a0 40) = 20 ∨ hk h31 (hr h31 a0 40) = 26) ∧ (0 ≤ i1 ∧ i1 < (hl h31 (hr h31 a0 40) : Int)) ∧ hk h31 a0 = 8 ∧ hk h31 (hr h31 a0 41) = 20 ∧ (0 ≤ (4 * ((4 * i1) + (hi h31 (hr h31 a0 40) (Int.toNat i1)))) ∧ (4 * ((4 * i1) + (hi h31 (hr h31 a0 40) (Int.toNat i1)))) < (hl h31 (hr h31 a0 41) : Int)) ∧ ∀ h50, h50 = hsi h31 (hr h31 a0 41) (Int.toNat ((4 * ((4 * i1) + (hi h31 (hr h31 a0 40) (Int.toNat i1)))))) x1 →
 hk h50 a0 = 8 ∧ hk h50 (hr h50 a0 41) = 20 ∧ (0 ≤ ((4 * ((4 * i1) + (hi h31 (hr h31 a0 40) (Int.toNat i1)))) + 1) ∧ ((4 * ((4 * i1) + (hi h31 (hr h31 a0 40) (Int.toNat i1)))) + 1) < (hl h50 (hr h50 a0 41) : Int)) ∧ ∀ h51, h51 = hsi h50 (hr h50 a0 41) (Int.toNat (((4 * ((4 * i1) + (hi h31 (hr h31 a0 40) (Int.toNat i1)))) + 1))) x31 →
 hk h51 a0 = 8 ∧ hk h51 (hr h51 a0 41) = 20 ∧ (0 ≤ ((4 * ((4 * i1) + (hi h31 (hr h31 a0 40) (Int.toNat i1)))) + 2) ∧ ((4 * ((4 * i1) + (hi h31 (hr h31 a0 40) (Int.toNat i1)))) + 2) < (hl h51 (hr h51 a0 41) : Int)) ∧ ∀ h52, h52 = hsi h51 (hr h51 a0 41) (Int.toNat (((4 * ((4 * i1) + (hi h31 (hr h31 a0 40) (Int.toNat i1)))) + 2))) ((-1)) →
 hk h52 a0 = 8 ∧ hk h52 (hr h52 a0 41) = 20 ∧ (0 ≤ ((4 * ((4 * i1) + (hi h31 (hr h31 a0 40) (Int.toNat i1)))) + 3) ∧ ((4 * ((4 * i1) + (hi h31 (hr h31 a0 40) (Int.toNat i1)))) + 3) < (hl h52 (hr h52 a0 41) : Int)) ∧ ∀ h53, h53 = hsi h52 (hr h52 a0 41) (Int.toNat (((4 * ((4 * i1) + (hi h31 (hr h31 a0 40) (Int.toNat i1)))) + 3))) ((-1)) →
 hk h53 a0 = 8 ∧ (hk h53 (hr h53 a0 40) = 20 ∨ hk h53 (hr h53 a0 40) = 26) ∧ (0 ≤ i1 ∧ i1 < (hl h53 (hr h53 a0 40) : Int)) ∧ hk h53 (hr h53 a0 40) = 20 ∧ (0 ≤ i1 ∧ i1 < (hl h53 (hr h53 a0 40) : Int)) ∧ ∀ h54, h54 = hsi h53 (hr h53 a0 40) (Int.toNat i1) ((hi h53 (hr h53 a0 40) (Int.toNat i1)) + 1) →
 Q 0 h54) ∧
((hi h31 a0 25) ≠ 0 →
 Q 0 h31)))) X) X) X)) ∧
((hi h2 a0 25) ≠ 0 →
 hk h2 a0 = 8 ∧ call m_X7_failsIf [pA a0, pI 0, pI 4] h2 (fun _ h55 =>
 hk h55 a0 = 8 ∧ call m_X7_goesOn [pA a0] h55 (fun _ h56 =>
 hk h56 a0 = 8 ∧ call m_X7_kindHere [pA a0] h56 (fun x57 h57 =>
 InR x1 ∧ (x1 = 0 →
 hk h57 a0 = 8 ∧ call m_X7_programHere [pA a0] h57 (fun x58 h58 =>
 InR x1 ∧ (x1 = 0 →
 hk h58 a0 = 8 ∧ call m_X7_takes [pA a0, pI 0, pI 999] h58 (fun x59 h59 =>
 hk h59 a0 = 8 ∧ InR (hi h59 a0 25) ∧ ((hi h59 a0 25) = 0 →
 hk h59 a0 = 8 ∧ (hk h59 (hr h59 a0 40) = 20 ∨ hk h59 (hr h59 a0 40) = 26) ∧ (0 ≤ i1 ∧ i1 < (hl h59 (hr h59 a0 40) : Int)) ∧ hk h59 a0 = 8 ∧ hk h59 (hr h59 a0 41) = 20 ∧ (0 ≤ (4 * ((4 * i1) + (hi h59 (hr h59 a0 40) (Int.toNat i1)))) ∧ (4 * ((4 * i1) + (hi h59 (hr h59 a0 40) (Int.toNat i1)))) < (hl h59 (hr h59 a0 41) : Int)) ∧ ∀ h60, h60 = hsi h59 (hr h59 a0 41) (Int.toNat ((4 * ((4 * i1) + (hi h59 (hr h59 a0 40) (Int.toNat i1)))))) x1 →
 hk h60 a0 = 8 ∧ hk h60 (hr h60 a0 41) = 20 ∧ (0 ≤ ((4 * ((4 * i1) + (hi h59 (hr h59 a0 40) (Int.toNat i1)))) + 1) ∧ ((4 * ((4 * i1) + (hi h59 (hr h59 a0 40) (Int.toNat i1)))) + 1) < (hl h60 (hr h60 a0 41) : Int)) ∧ ∀ h61, h61 = hsi h60 (hr h60 a0 41) (Int.toNat (((4 * ((4 * i1) + (hi h59 (hr h59 a0 40) (Int.toNat i1)))) + 1))) x57 →
 hk h61 a0 = 8 ∧ hk h61 (hr h61 a0 41) = 20 ∧ (0 ≤ ((4 * ((4 * i1) + (hi h59 (hr h59 a0 40) (Int.toNat i1)))) + 2) ∧ ((4 * ((4 * i1) + (hi h59 (hr h59 a0 40) (Int.toNat i1)))) + 2) < (hl h61 (hr h61 a0 41) : Int)) ∧ ∀ h62, h62 = hsi h61 (hr h61 a0 41) (Int.toNat (((4 * ((4 * i1) + (hi h59 (hr h59 a0 40) (Int.toNat i1)))) + 2))) x58 →
 hk h62 a0 = 8 ∧ hk h62 (hr h62 a0 41) = 20 ∧ (0 ≤ ((4 * ((4 * i1) + (hi h59 (hr h59 a0 40) (Int.toNat i1)))) + 3) ∧ ((4 * ((4 * i1) + (hi h59 (hr h59 a0 40) (Int.toNat i1)))) + 3) < (hl h62 (hr h62 a0 41) : Int)) ∧ ∀ h63, h63 = hsi h62 (hr h62 a0 41) (Int.toNat (((4 * ((4 * i1) + (hi h59 (hr h59 a0 40) (Int.toNat i1)))) + 3))) x59 →
 hk h63 a0 = 8 ∧ (hk h63 (hr h63 a0 40) = 20 ∨ hk h63 (hr h63 a0 40) = 26) ∧ (0 ≤ i1 ∧ i1 < (hl h63 (hr h63 a0 40) : Int)) ∧ hk h63 (hr h63 a0 40) = 20 ∧ (0 ≤ i1 ∧ i1 < (hl h63 (hr h63 a0 40) : Int)) ∧ ∀ h64, h64 = hsi h63 (hr h63 a0 40) (Int.toNat i1) ((hi h63 (hr h63 a0 40) (Int.toNat i1)) + 1) →
 Q 0 h64) ∧
((hi h59 a0 25) ≠ 0 →
 Q 0 h59)) X) ∧
(x1 ≠ 0 →
 hk h58 a0 = 8 ∧ InR (hi h58 a0 25) ∧ ((hi h58 a0 25) = 0 →
 hk h58 a0 = 8 ∧ (hk h58 (hr h58 a0 40) = 20 ∨ hk h58 (hr h58 a0 40) = 26) ∧ (0 ≤ i1 ∧ i1 < (hl h58 (hr h58 a0 40) : Int)) ∧ hk h58 a0 = 8 ∧ hk h58 (hr h58 a0 41) = 20 ∧ (0 ≤ (4 * ((4 * i1) + (hi h58 (hr h58 a0 40) (Int.toNat i1)))) ∧ (4 * ((4 * i1) + (hi h58 (hr h58 a0 40) (Int.toNat i1)))) < (hl h58 (hr h58 a0 41) : Int)) ∧ ∀ h65, h65 = hsi h58 (hr h58 a0 41) (Int.toNat ((4 * ((4 * i1) + (hi h58 (hr h58 a0 40) (Int.toNat i1)))))) x1 →
 hk h65 a0 = 8 ∧ hk h65 (hr h65 a0 41) = 20 ∧ (0 ≤ ((4 * ((4 * i1) + (hi h58 (hr h58 a0 40) (Int.toNat i1)))) + 1) ∧ ((4 * ((4 * i1) + (hi h58 (hr h58 a0 40) (Int.toNat i1)))) + 1) < (hl h65 (hr h65 a0 41) : Int)) ∧ ∀ h66, h66 = hsi h65 (hr h65 a0 41) (Int.toNat (((4 * ((4 * i1) + (hi h58 (hr h58 a0 40) (Int.toNat i1)))) + 1))) x57 →
 hk h66 a0 = 8 ∧ hk h66 (hr h66 a0 41) = 20 ∧ (0 ≤ ((4 * ((4 * i1) + (hi h58 (hr h58 a0 40) (Int.toNat i1)))) + 2) ∧ ((4 * ((4 * i1) + (hi h58 (hr h58 a0 40) (Int.toNat i1)))) + 2) < (hl h66 (hr h66 a0 41) : Int)) ∧ ∀ h67, h67 = hsi h66 (hr h66 a0 41) (Int.toNat (((4 * ((4 * i1) + (hi h58 (hr h58 a0 40) (Int.toNat i1)))) + 2))) x58 →
 hk h67 a0 = 8 ∧ hk h67 (hr h67 a0 41) = 20 ∧ (0 ≤ ((4 * ((4 * i1) + (hi h58 (hr h58 a0 40) (Int.toNat i1)))) + 3) ∧ ((4 * ((4 * i1) + (hi h58 (hr h58 a0 40) (Int.toNat i1)))) + 3) < (hl h67 (hr h67 a0 41) : Int)) ∧ ∀ h68, h68 = hsi h67 (hr h67 a0 41) (Int.toNat (((4 * ((4 * i1) + (hi h58 (hr h58 a0 40) (Int.toNat i1)))) + 3))) ((-1)) →
 hk h68 a0 = 8 ∧ (hk h68 (hr h68 a0 40) = 20 ∨ hk h68 (hr h68 a0 40) = 26) ∧ (0 ≤ i1 ∧ i1 < (hl h68 (hr h68 a0 40) : Int)) ∧ hk h68 (hr h68 a0 40) = 20 ∧ (0 ≤ i1 ∧ i1 < (hl h68 (hr h68 a0 40) : Int)) ∧ ∀ h69, h69 = hsi h68 (hr h68 a0 40) (Int.toNat i1) ((hi h68 (hr h68 a0 40) (Int.toNat i1)) + 1) →
 Q 0 h69) ∧
((hi h58 a0 25) ≠ 0 →
 Q 0 h58))) X) ∧
(x1 ≠ 0 →
 InR x1 ∧ (x1 = 0 →
 hk h57 a0 = 8 ∧ call m_X7_takes [pA a0, pI 0, pI 999] h57 (fun x70 h70 =>
 hk h70 a0 = 8 ∧ InR (hi h70 a0 25) ∧ ((hi h70 a0 25) = 0 →
 hk h70 a0 = 8 ∧ (hk h70 (hr h70 a0 40) = 20 ∨ hk h70 (hr h70 a0 40) = 26) ∧ (0 ≤ i1 ∧ i1 < (hl h70 (hr h70 a0 40) : Int)) ∧ hk h70 a0 = 8 ∧ hk h70 (hr h70 a0 41) = 20 ∧ (0 ≤ (4 * ((4 * i1) + (hi h70 (hr h70 a0 40) (Int.toNat i1)))) ∧ (4 * ((4 * i1) + (hi h70 (hr h70 a0 40) (Int.toNat i1)))) < (hl h70 (hr h70 a0 41) : Int)) ∧ ∀ h71, h71 = hsi h70 (hr h70 a0 41) (Int.toNat ((4 * ((4 * i1) + (hi h70 (hr h70 a0 40) (Int.toNat i1)))))) x1 →
 hk h71 a0 = 8 ∧ hk h71 (hr h71 a0 41) = 20 ∧ (0 ≤ ((4 * ((4 * i1) + (hi h70 (hr h70 a0 40) (Int.toNat i1)))) + 1) ∧ ((4 * ((4 * i1) + (hi h70 (hr h70 a0 40) (Int.toNat i1)))) + 1) < (hl h71 (hr h71 a0 41) : Int)) ∧ ∀ h72, h72 = hsi h71 (hr h71 a0 41) (Int.toNat (((4 * ((4 * i1) + (hi h70 (hr h70 a0 40) (Int.toNat i1)))) + 1))) x57 →
 hk h72 a0 = 8 ∧ hk h72 (hr h72 a0 41) = 20 ∧ (0 ≤ ((4 * ((4 * i1) + (hi h70 (hr h70 a0 40) (Int.toNat i1)))) + 2) ∧ ((4 * ((4 * i1) + (hi h70 (hr h70 a0 40) (Int.toNat i1)))) + 2) < (hl h72 (hr h72 a0 41) : Int)) ∧ ∀ h73, h73 = hsi h72 (hr h72 a0 41) (Int.toNat (((4 * ((4 * i1) + (hi h70 (hr h70 a0 40) (Int.toNat i1)))) + 2))) ((-1)) →
 hk h73 a0 = 8 ∧ hk h73 (hr h73 a0 41) = 20 ∧ (0 ≤ ((4 * ((4 * i1) + (hi h70 (hr h70 a0 40) (Int.toNat i1)))) + 3) ∧ ((4 * ((4 * i1) + (hi h70 (hr h70 a0 40) (Int.toNat i1)))) + 3) < (hl h73 (hr h73 a0 41) : Int)) ∧ ∀ h74, h74 = hsi h73 (hr h73 a0 41) (Int.toNat (((4 * ((4 * i1) + (hi h70 (hr h70 a0 40) (Int.toNat i1)))) + 3))) x70 →
 hk h74 a0 = 8 ∧ (hk h74 (hr h74 a0 40) = 20 ∨ hk h74 (hr h74 a0 40) = 26) ∧ (0 ≤ i1 ∧ i1 < (hl h74 (hr h74 a0 40) : Int)) ∧ hk h74 (hr h74 a0 40) = 20 ∧ (0 ≤ i1 ∧ i1 < (hl h74 (hr h74 a0 40) : Int)) ∧ ∀ h75, h75 = hsi h74 (hr h74 a0 40) (Int.toNat i1) ((hi h74 (hr h74 a0 40) (Int.toNat i1)) + 1) →
 Q 0 h75) ∧
((hi h70 a0 25) ≠ 0 →
 Q 0 h70)) X) ∧
(x1 ≠ 0 →
 hk h57 a0 = 8 ∧ InR (hi h57 a0 25) ∧ ((hi h57 a0 25) = 0 →
 hk h57 a0 = 8 ∧ (hk h57 (hr h57 a0 40) = 20 ∨ hk h57 (hr h57 a0 40) = 26) ∧ (0 ≤ i1 ∧ i1 < (hl h57 (hr h57 a0 40) : Int)) ∧ hk h57 a0 = 8 ∧ hk h57 (hr h57 a0 41) = 20 ∧ (0 ≤ (4 * ((4 * i1) + (hi h57 (hr h57 a0 40) (Int.toNat i1)))) ∧ (4 * ((4 * i1) + (hi h57 (hr h57 a0 40) (Int.toNat i1)))) < (hl h57 (hr h57 a0 41) : Int)) ∧ ∀ h76, h76 = hsi h57 (hr h57 a0 41) (Int.toNat ((4 * ((4 * i1) + (hi h57 (hr h57 a0 40) (Int.toNat i1)))))) x1 →
 hk h76 a0 = 8 ∧ hk h76 (hr h76 a0 41) = 20 ∧ (0 ≤ ((4 * ((4 * i1) + (hi h57 (hr h57 a0 40) (Int.toNat i1)))) + 1) ∧ ((4 * ((4 * i1) + (hi h57 (hr h57 a0 40) (Int.toNat i1)))) + 1) < (hl h76 (hr h76 a0 41) : Int)) ∧ ∀ h77, h77 = hsi h76 (hr h76 a0 41) (Int.toNat (((4 * ((4 * i1) + (hi h57 (hr h57 a0 40) (Int.toNat i1)))) + 1))) x57 →
 hk h77 a0 = 8 ∧ hk h77 (hr h77 a0 41) = 20 ∧ (0 ≤ ((4 * ((4 * i1) + (hi h57 (hr h57 a0 40) (Int.toNat i1)))) + 2) ∧ ((4 * ((4 * i1) + (hi h57 (hr h57 a0 40) (Int.toNat i1)))) + 2) < (hl h77 (hr h77 a0 41) : Int)) ∧ ∀ h78, h78 = hsi h77 (hr h77 a0 41) (Int.toNat (((4 * ((4 * i1) + (hi h57 (hr h57 a0 40) (Int.toNat i1)))) + 2))) ((-1)) →
 hk h78 a0 = 8 ∧ hk h78 (hr h78 a0 41) = 20 ∧ (0 ≤ ((4 * ((4 * i1) + (hi h57 (hr h57 a0 40) (Int.toNat i1)))) + 3) ∧ ((4 * ((4 * i1) + (hi h57 (hr h57 a0 40) (Int.toNat i1)))) + 3) < (hl h78 (hr h78 a0 41) : Int)) ∧ ∀ h79, h79 = hsi h78 (hr h78 a0 41) (Int.toNat (((4 * ((4 * i1) + (hi h57 (hr h57 a0 40) (Int.toNat i1)))) + 3))) ((-1)) →
 hk h79 a0 = 8 ∧ (hk h79 (hr h79 a0 40) = 20 ∨ hk h79 (hr h79 a0 40) = 26) ∧ (0 ≤ i1 ∧ i1 < (hl h79 (hr h79 a0 40) : Int)) ∧ hk h79 (hr h79 a0 40) = 20 ∧ (0 ≤ i1 ∧ i1 < (hl h79 (hr h79 a0 40) : Int)) ∧ ∀ h80, h80 = hsi h79 (hr h79 a0 40) (Int.toNat i1) ((hi h79 (hr h79 a0 40) (Int.toNat i1)) + 1) →
 Q 0 h80) ∧
((hi h57 a0 25) ≠ 0 →
 Q 0 h57)))) X) X) X)) X) ∧
(x1 ≠ ((-1)) →
 hk h1 a0 = 8 ∧ call m_X7_failsIf [pA a0, pI 0, pI 1] h1 (fun _ h81 =>
 hk h81 a0 = 8 ∧ InR (hi h81 a0 25) ∧ ((hi h81 a0 25) = 0 →
 hk h81 a0 = 8 ∧ (hk h81 (hr h81 a0 40) = 20 ∨ hk h81 (hr h81 a0 40) = 26) ∧ (0 ≤ i1 ∧ i1 < (hl h81 (hr h81 a0 40) : Int)) ∧ InR (hi h81 (hr h81 a0 40) (Int.toNat i1)) ∧ InR 4 ∧ ((hi h81 (hr h81 a0 40) (Int.toNat i1)) = 4 →
 hk h81 a0 = 8 ∧ call m_X7_failsIf [pA a0, pI 1, pI 4] h81 (fun _ h82 =>
 hk h82 a0 = 8 ∧ call m_X7_goesOn [pA a0] h82 (fun _ h83 =>
 hk h83 a0 = 8 ∧ call m_X7_kindHere [pA a0] h83 (fun x84 h84 =>
 InR x1 ∧ (x1 = 0 →
 hk h84 a0 = 8 ∧ call m_X7_programHere [pA a0] h84 (fun x85 h85 =>
 InR x1 ∧ (x1 = 0 →
 hk h85 a0 = 8 ∧ call m_X7_takes [pA a0, pI 0, pI 999] h85 (fun x86 h86 =>
 hk h86 a0 = 8 ∧ InR (hi h86 a0 25) ∧ ((hi h86 a0 25) = 0 →
 hk h86 a0 = 8 ∧ (hk h86 (hr h86 a0 40) = 20 ∨ hk h86 (hr h86 a0 40) = 26) ∧ (0 ≤ i1 ∧ i1 < (hl h86 (hr h86 a0 40) : Int)) ∧ hk h86 a0 = 8 ∧ hk h86 (hr h86 a0 41) = 20 ∧ (0 ≤ (4 * ((4 * i1) + (hi h86 (hr h86 a0 40) (Int.toNat i1)))) ∧ (4 * ((4 * i1) + (hi h86 (hr h86 a0 40) (Int.toNat i1)))) < (hl h86 (hr h86 a0 41) : Int)) ∧ ∀ h87, h87 = hsi h86 (hr h86 a0 41) (Int.toNat ((4 * ((4 * i1) + (hi h86 (hr h86 a0 40) (Int.toNat i1)))))) x1 →
 hk h87 a0 = 8 ∧ hk h87 (hr h87 a0 41) = 20 ∧ (0 ≤ ((4 * ((4 * i1) + (hi h86 (hr h86 a0 40) (Int.toNat i1)))) + 1) ∧ ((4 * ((4 * i1) + (hi h86 (hr h86 a0 40) (Int.toNat i1)))) + 1) < (hl h87 (hr h87 a0 41) : Int)) ∧ ∀ h88, h88 = hsi h87 (hr h87 a0 41) (Int.toNat (((4 * ((4 * i1) + (hi h86 (hr h86 a0 40) (Int.toNat i1)))) + 1))) x84 →
 hk h88 a0 = 8 ∧ hk h88 (hr h88 a0 41) = 20 ∧ (0 ≤ ((4 * ((4 * i1) + (hi h86 (hr h86 a0 40) (Int.toNat i1)))) + 2) ∧ ((4 * ((4 * i1) + (hi h86 (hr h86 a0 40) (Int.toNat i1)))) + 2) < (hl h88 (hr h88 a0 41) : Int)) ∧ ∀ h89, h89 = hsi h88 (hr h88 a0 41) (Int.toNat (((4 * ((4 * i1) + (hi h86 (hr h86 a0 40) (Int.toNat i1)))) + 2))) x85 →
 hk h89 a0 = 8 ∧ hk h89 (hr h89 a0 41) = 20 ∧ (0 ≤ ((4 * ((4 * i1) + (hi h86 (hr h86 a0 40) (Int.toNat i1)))) + 3) ∧ ((4 * ((4 * i1) + (hi h86 (hr h86 a0 40) (Int.toNat i1)))) + 3) < (hl h89 (hr h89 a0 41) : Int)) ∧ ∀ h90, h90 = hsi h89 (hr h89 a0 41) (Int.toNat (((4 * ((4 * i1) + (hi h86 (hr h86 a0 40) (Int.toNat i1)))) + 3))) x86 →
 hk h90 a0 = 8 ∧ (hk h90 (hr h90 a0 40) = 20 ∨ hk h90 (hr h90 a0 40) = 26) ∧ (0 ≤ i1 ∧ i1 < (hl h90 (hr h90 a0 40) : Int)) ∧ hk h90 (hr h90 a0 40) = 20 ∧ (0 ≤ i1 ∧ i1 < (hl h90 (hr h90 a0 40) : Int)) ∧ ∀ h91, h91 = hsi h90 (hr h90 a0 40) (Int.toNat i1) ((hi h90 (hr h90 a0 40) (Int.toNat i1)) + 1) →
 Q 0 h91) ∧
((hi h86 a0 25) ≠ 0 →
 Q 0 h86)) X) ∧
(x1 ≠ 0 →
 hk h85 a0 = 8 ∧ InR (hi h85 a0 25) ∧ ((hi h85 a0 25) = 0 →
 hk h85 a0 = 8 ∧ (hk h85 (hr h85 a0 40) = 20 ∨ hk h85 (hr h85 a0 40) = 26) ∧ (0 ≤ i1 ∧ i1 < (hl h85 (hr h85 a0 40) : Int)) ∧ hk h85 a0 = 8 ∧ hk h85 (hr h85 a0 41) = 20 ∧ (0 ≤ (4 * ((4 * i1) + (hi h85 (hr h85 a0 40) (Int.toNat i1)))) ∧ (4 * ((4 * i1) + (hi h85 (hr h85 a0 40) (Int.toNat i1)))) < (hl h85 (hr h85 a0 41) : Int)) ∧ ∀ h92, h92 = hsi h85 (hr h85 a0 41) (Int.toNat ((4 * ((4 * i1) + (hi h85 (hr h85 a0 40) (Int.toNat i1)))))) x1 →
 hk h92 a0 = 8 ∧ hk h92 (hr h92 a0 41) = 20 ∧ (0 ≤ ((4 * ((4 * i1) + (hi h85 (hr h85 a0 40) (Int.toNat i1)))) + 1) ∧ ((4 * ((4 * i1) + (hi h85 (hr h85 a0 40) (Int.toNat i1)))) + 1) < (hl h92 (hr h92 a0 41) : Int)) ∧ ∀ h93, h93 = hsi h92 (hr h92 a0 41) (Int.toNat (((4 * ((4 * i1) + (hi h85 (hr h85 a0 40) (Int.toNat i1)))) + 1))) x84 →
 hk h93 a0 = 8 ∧ hk h93 (hr h93 a0 41) = 20 ∧ (0 ≤ ((4 * ((4 * i1) + (hi h85 (hr h85 a0 40) (Int.toNat i1)))) + 2) ∧ ((4 * ((4 * i1) + (hi h85 (hr h85 a0 40) (Int.toNat i1)))) + 2) < (hl h93 (hr h93 a0 41) : Int)) ∧ ∀ h94, h94 = hsi h93 (hr h93 a0 41) (Int.toNat (((4 * ((4 * i1) + (hi h85 (hr h85 a0 40) (Int.toNat i1)))) + 2))) x85 →
 hk h94 a0 = 8 ∧ hk h94 (hr h94 a0 41) = 20 ∧ (0 ≤ ((4 * ((4 * i1) + (hi h85 (hr h85 a0 40) (Int.toNat i1)))) + 3) ∧ ((4 * ((4 * i1) + (hi h85 (hr h85 a0 40) (Int.toNat i1)))) + 3) < (hl h94 (hr h94 a0 41) : Int)) ∧ ∀ h95, h95 = hsi h94 (hr h94 a0 41) (Int.toNat (((4 * ((4 * i1) + (hi h85 (hr h85 a0 40) (Int.toNat i1)))) + 3))) ((-1)) →
 hk h95 a0 = 8 ∧ (hk h95 (hr h95 a0 40) = 20 ∨ hk h95 (hr h95 a0 40) = 26) ∧ (0 ≤ i1 ∧ i1 < (hl h95 (hr h95 a0 40) : Int)) ∧ hk h95 (hr h95 a0 40) = 20 ∧ (0 ≤ i1 ∧ i1 < (hl h95 (hr h95 a0 40) : Int)) ∧ ∀ h96, h96 = hsi h95 (hr h95 a0 40) (Int.toNat i1) ((hi h95 (hr h95 a0 40) (Int.toNat i1)) + 1) →
 Q 0 h96) ∧
((hi h85 a0 25) ≠ 0 →
 Q 0 h85))) X) ∧
(x1 ≠ 0 →
 InR x1 ∧ (x1 = 0 →
 hk h84 a0 = 8 ∧ call m_X7_takes [pA a0, pI 0, pI 999] h84 (fun x97 h97 =>
 hk h97 a0 = 8 ∧ InR (hi h97 a0 25) ∧ ((hi h97 a0 25) = 0 →
 hk h97 a0 = 8 ∧ (hk h97 (hr h97 a0 40) = 20 ∨ hk h97 (hr h97 a0 40) = 26) ∧ (0 ≤ i1 ∧ i1 < (hl h97 (hr h97 a0 40) : Int)) ∧ hk h97 a0 = 8 ∧ hk h97 (hr h97 a0 41) = 20 ∧ (0 ≤ (4 * ((4 * i1) + (hi h97 (hr h97 a0 40) (Int.toNat i1)))) ∧ (4 * ((4 * i1) + (hi h97 (hr h97 a0 40) (Int.toNat i1)))) < (hl h97 (hr h97 a0 41) : Int)) ∧ ∀ h98, h98 = hsi h97 (hr h97 a0 41) (Int.toNat ((4 * ((4 * i1) + (hi h97 (hr h97 a0 40) (Int.toNat i1)))))) x1 →
 hk h98 a0 = 8 ∧ hk h98 (hr h98 a0 41) = 20 ∧ (0 ≤ ((4 * ((4 * i1) + (hi h97 (hr h97 a0 40) (Int.toNat i1)))) + 1) ∧ ((4 * ((4 * i1) + (hi h97 (hr h97 a0 40) (Int.toNat i1)))) + 1) < (hl h98 (hr h98 a0 41) : Int)) ∧ ∀ h99, h99 = hsi h98 (hr h98 a0 41) (Int.toNat (((4 * ((4 * i1) + (hi h97 (hr h97 a0 40) (Int.toNat i1)))) + 1))) x84 →
 hk h99 a0 = 8 ∧ hk h99 (hr h99 a0 41) = 20 ∧ (0 ≤ ((4 * ((4 * i1) + (hi h97 (hr h97 a0 40) (Int.toNat i1)))) + 2) ∧ ((4 * ((4 * i1) + (hi h97 (hr h97 a0 40) (Int.toNat i1)))) + 2) < (hl h99 (hr h99 a0 41) : Int)) ∧ ∀ h100, h100 = hsi h99 (hr h99 a0 41) (Int.toNat (((4 * ((4 * i1) + (hi h97 (hr h97 a0 40) (Int.toNat i1)))) + 2))) ((-1)) →
 hk h100 a0 = 8 ∧ hk h100 (hr h100 a0 41) = 20 ∧ (0 ≤ ((4 * ((4 * i1) + (hi h97 (hr h97 a0 40) (Int.toNat i1)))) + 3) ∧ ((4 * ((4 * i1) + (hi h97 (hr h97 a0 40) (Int.toNat i1)))) + 3) < (hl h100 (hr h100 a0 41) : Int)) ∧ ∀ h101, h101 = hsi h100 (hr h100 a0 41) (Int.toNat (((4 * ((4 * i1) + (hi h97 (hr h97 a0 40) (Int.toNat i1)))) + 3))) x97 →
 hk h101 a0 = 8 ∧ (hk h101 (hr h101 a0 40) = 20 ∨ hk h101 (hr h101 a0 40) = 26) ∧ (0 ≤ i1 ∧ i1 < (hl h101 (hr h101 a0 40) : Int)) ∧ hk h101 (hr h101 a0 40) = 20 ∧ (0 ≤ i1 ∧ i1 < (hl h101 (hr h101 a0 40) : Int)) ∧ ∀ h102, h102 = hsi h101 (hr h101 a0 40) (Int.toNat i1) ((hi h101 (hr h101 a0 40) (Int.toNat i1)) + 1) →
 Q 0 h102) ∧
((hi h97 a0 25) ≠ 0 →
 Q 0 h97)) X) ∧
(x1 ≠ 0 →
 hk h84 a0 = 8 ∧ InR (hi h84 a0 25) ∧ ((hi h84 a0 25) = 0 →
 hk h84 a0 = 8 ∧ (hk h84 (hr h84 a0 40) = 20 ∨ hk h84 (hr h84 a0 40) = 26) ∧ (0 ≤ i1 ∧ i1 < (hl h84 (hr h84 a0 40) : Int)) ∧ hk h84 a0 = 8 ∧ hk h84 (hr h84 a0 41) = 20 ∧ (0 ≤ (4 * ((4 * i1) + (hi h84 (hr h84 a0 40) (Int.toNat i1)))) ∧ (4 * ((4 * i1) + (hi h84 (hr h84 a0 40) (Int.toNat i1)))) < (hl h84 (hr h84 a0 41) : Int)) ∧ ∀ h103, h103 = hsi h84 (hr h84 a0 41) (Int.toNat ((4 * ((4 * i1) + (hi h84 (hr h84 a0 40) (Int.toNat i1)))))) x1 →
 hk h103 a0 = 8 ∧ hk h103 (hr h103 a0 41) = 20 ∧ (0 ≤ ((4 * ((4 * i1) + (hi h84 (hr h84 a0 40) (Int.toNat i1)))) + 1) ∧ ((4 * ((4 * i1) + (hi h84 (hr h84 a0 40) (Int.toNat i1)))) + 1) < (hl h103 (hr h103 a0 41) : Int)) ∧ ∀ h104, h104 = hsi h103 (hr h103 a0 41) (Int.toNat (((4 * ((4 * i1) + (hi h84 (hr h84 a0 40) (Int.toNat i1)))) + 1))) x84 →
 hk h104 a0 = 8 ∧ hk h104 (hr h104 a0 41) = 20 ∧ (0 ≤ ((4 * ((4 * i1) + (hi h84 (hr h84 a0 40) (Int.toNat i1)))) + 2) ∧ ((4 * ((4 * i1) + (hi h84 (hr h84 a0 40) (Int.toNat i1)))) + 2) < (hl h104 (hr h104 a0 41) : Int)) ∧ ∀ h105, h105 = hsi h104 (hr h104 a0 41) (Int.toNat (((4 * ((4 * i1) + (hi h84 (hr h84 a0 40) (Int.toNat i1)))) + 2))) ((-1)) →
 hk h105 a0 = 8 ∧ hk h105 (hr h105 a0 41) = 20 ∧ (0 ≤ ((4 * ((4 * i1) + (hi h84 (hr h84 a0 40) (Int.toNat i1)))) + 3) ∧ ((4 * ((4 * i1) + (hi h84 (hr h84 a0 40) (Int.toNat i1)))) + 3) < (hl h105 (hr h105 a0 41) : Int)) ∧ ∀ h106, h106 = hsi h105 (hr h105 a0 41) (Int.toNat (((4 * ((4 * i1) + (hi h84 (hr h84 a0 40) (Int.toNat i1)))) + 3))) ((-1)) →
 hk h106 a0 = 8 ∧ (hk h106 (hr h106 a0 40) = 20 ∨ hk h106 (hr h106 a0 40) = 26) ∧ (0 ≤ i1 ∧ i1 < (hl h106 (hr h106 a0 40) : Int)) ∧ hk h106 (hr h106 a0 40) = 20 ∧ (0 ≤ i1 ∧ i1 < (hl h106 (hr h106 a0 40) : Int)) ∧ ∀ h107, h107 = hsi h106 (hr h106 a0 40) (Int.toNat i1) ((hi h106 (hr h106 a0 40) (Int.toNat i1)) + 1) →
 Q 0 h107) ∧
((hi h84 a0 25) ≠ 0 →
 Q 0 h84)))) X) X) X) ∧
((hi h81 (hr h81 a0 40) (Int.toNat i1)) ≠ 4 →
 hk h81 a0 = 8 ∧ call m_X7_failsIf [pA a0, pI 0, pI 4] h81 (fun _ h108 =>
 hk h108 a0 = 8 ∧ call m_X7_goesOn [pA a0] h108 (fun _ h109 =>
 hk h109 a0 = 8 ∧ call m_X7_kindHere [pA a0] h109 (fun x110 h110 =>
 InR x1 ∧ (x1 = 0 →
 hk h110 a0 = 8 ∧ call m_X7_programHere [pA a0] h110 (fun x111 h111 =>
 InR x1 ∧ (x1 = 0 →
 hk h111 a0 = 8 ∧ call m_X7_takes [pA a0, pI 0, pI 999] h111 (fun x112 h112 =>
 hk h112 a0 = 8 ∧ InR (hi h112 a0 25) ∧ ((hi h112 a0 25) = 0 →
 hk h112 a0 = 8 ∧ (hk h112 (hr h112 a0 40) = 20 ∨ hk h112 (hr h112 a0 40) = 26) ∧ (0 ≤ i1 ∧ i1 < (hl h112 (hr h112 a0 40) : Int)) ∧ hk h112 a0 = 8 ∧ hk h112 (hr h112 a0 41) = 20 ∧ (0 ≤ (4 * ((4 * i1) + (hi h112 (hr h112 a0 40) (Int.toNat i1)))) ∧ (4 * ((4 * i1) + (hi h112 (hr h112 a0 40) (Int.toNat i1)))) < (hl h112 (hr h112 a0 41) : Int)) ∧ ∀ h113, h113 = hsi h112 (hr h112 a0 41) (Int.toNat ((4 * ((4 * i1) + (hi h112 (hr h112 a0 40) (Int.toNat i1)))))) x1 →
 hk h113 a0 = 8 ∧ hk h113 (hr h113 a0 41) = 20 ∧ (0 ≤ ((4 * ((4 * i1) + (hi h112 (hr h112 a0 40) (Int.toNat i1)))) + 1) ∧ ((4 * ((4 * i1) + (hi h112 (hr h112 a0 40) (Int.toNat i1)))) + 1) < (hl h113 (hr h113 a0 41) : Int)) ∧ ∀ h114, h114 = hsi h113 (hr h113 a0 41) (Int.toNat (((4 * ((4 * i1) + (hi h112 (hr h112 a0 40) (Int.toNat i1)))) + 1))) x110 →
 hk h114 a0 = 8 ∧ hk h114 (hr h114 a0 41) = 20 ∧ (0 ≤ ((4 * ((4 * i1) + (hi h112 (hr h112 a0 40) (Int.toNat i1)))) + 2) ∧ ((4 * ((4 * i1) + (hi h112 (hr h112 a0 40) (Int.toNat i1)))) + 2) < (hl h114 (hr h114 a0 41) : Int)) ∧ ∀ h115, h115 = hsi h114 (hr h114 a0 41) (Int.toNat (((4 * ((4 * i1) + (hi h112 (hr h112 a0 40) (Int.toNat i1)))) + 2))) x111 →
 hk h115 a0 = 8 ∧ hk h115 (hr h115 a0 41) = 20 ∧ (0 ≤ ((4 * ((4 * i1) + (hi h112 (hr h112 a0 40) (Int.toNat i1)))) + 3) ∧ ((4 * ((4 * i1) + (hi h112 (hr h112 a0 40) (Int.toNat i1)))) + 3) < (hl h115 (hr h115 a0 41) : Int)) ∧ ∀ h116, h116 = hsi h115 (hr h115 a0 41) (Int.toNat (((4 * ((4 * i1) + (hi h112 (hr h112 a0 40) (Int.toNat i1)))) + 3))) x112 →
 hk h116 a0 = 8 ∧ (hk h116 (hr h116 a0 40) = 20 ∨ hk h116 (hr h116 a0 40) = 26) ∧ (0 ≤ i1 ∧ i1 < (hl h116 (hr h116 a0 40) : Int)) ∧ hk h116 (hr h116 a0 40) = 20 ∧ (0 ≤ i1 ∧ i1 < (hl h116 (hr h116 a0 40) : Int)) ∧ ∀ h117, h117 = hsi h116 (hr h116 a0 40) (Int.toNat i1) ((hi h116 (hr h116 a0 40) (Int.toNat i1)) + 1) →
 Q 0 h117) ∧
((hi h112 a0 25) ≠ 0 →
 Q 0 h112)) X) ∧
(x1 ≠ 0 →
 hk h111 a0 = 8 ∧ InR (hi h111 a0 25) ∧ ((hi h111 a0 25) = 0 →
 hk h111 a0 = 8 ∧ (hk h111 (hr h111 a0 40) = 20 ∨ hk h111 (hr h111 a0 40) = 26) ∧ (0 ≤ i1 ∧ i1 < (hl h111 (hr h111 a0 40) : Int)) ∧ hk h111 a0 = 8 ∧ hk h111 (hr h111 a0 41) = 20 ∧ (0 ≤ (4 * ((4 * i1) + (hi h111 (hr h111 a0 40) (Int.toNat i1)))) ∧ (4 * ((4 * i1) + (hi h111 (hr h111 a0 40) (Int.toNat i1)))) < (hl h111 (hr h111 a0 41) : Int)) ∧ ∀ h118, h118 = hsi h111 (hr h111 a0 41) (Int.toNat ((4 * ((4 * i1) + (hi h111 (hr h111 a0 40) (Int.toNat i1)))))) x1 →
 hk h118 a0 = 8 ∧ hk h118 (hr h118 a0 41) = 20 ∧ (0 ≤ ((4 * ((4 * i1) + (hi h111 (hr h111 a0 40) (Int.toNat i1)))) + 1) ∧ ((4 * ((4 * i1) + (hi h111 (hr h111 a0 40) (Int.toNat i1)))) + 1) < (hl h118 (hr h118 a0 41) : Int)) ∧ ∀ h119, h119 = hsi h118 (hr h118 a0 41) (Int.toNat (((4 * ((4 * i1) + (hi h111 (hr h111 a0 40) (Int.toNat i1)))) + 1))) x110 →
 hk h119 a0 = 8 ∧ hk h119 (hr h119 a0 41) = 20 ∧ (0 ≤ ((4 * ((4 * i1) + (hi h111 (hr h111 a0 40) (Int.toNat i1)))) + 2) ∧ ((4 * ((4 * i1) + (hi h111 (hr h111 a0 40) (Int.toNat i1)))) + 2) < (hl h119 (hr h119 a0 41) : Int)) ∧ ∀ h120, h120 = hsi h119 (hr h119 a0 41) (Int.toNat (((4 * ((4 * i1) + (hi h111 (hr h111 a0 40) (Int.toNat i1)))) + 2))) x111 →
 hk h120 a0 = 8 ∧ hk h120 (hr h120 a0 41) = 20 ∧ (0 ≤ ((4 * ((4 * i1) + (hi h111 (hr h111 a0 40) (Int.toNat i1)))) + 3) ∧ ((4 * ((4 * i1) + (hi h111 (hr h111 a0 40) (Int.toNat i1)))) + 3) < (hl h120 (hr h120 a0 41) : Int)) ∧ ∀ h121, h121 = hsi h120 (hr h120 a0 41) (Int.toNat (((4 * ((4 * i1) + (hi h111 (hr h111 a0 40) (Int.toNat i1)))) + 3))) ((-1)) →
 hk h121 a0 = 8 ∧ (hk h121 (hr h121 a0 40) = 20 ∨ hk h121 (hr h121 a0 40) = 26) ∧ (0 ≤ i1 ∧ i1 < (hl h121 (hr h121 a0 40) : Int)) ∧ hk h121 (hr h121 a0 40) = 20 ∧ (0 ≤ i1 ∧ i1 < (hl h121 (hr h121 a0 40) : Int)) ∧ ∀ h122, h122 = hsi h121 (hr h121 a0 40) (Int.toNat i1) ((hi h121 (hr h121 a0 40) (Int.toNat i1)) + 1) →
 Q 0 h122) ∧
((hi h111 a0 25) ≠ 0 →
 Q 0 h111))) X) ∧
(x1 ≠ 0 →
 InR x1 ∧ (x1 = 0 →
 hk h110 a0 = 8 ∧ call m_X7_takes [pA a0, pI 0, pI 999] h110 (fun x123 h123 =>
 hk h123 a0 = 8 ∧ InR (hi h123 a0 25) ∧ ((hi h123 a0 25) = 0 →
 hk h123 a0 = 8 ∧ (hk h123 (hr h123 a0 40) = 20 ∨ hk h123 (hr h123 a0 40) = 26) ∧ (0 ≤ i1 ∧ i1 < (hl h123 (hr h123 a0 40) : Int)) ∧ hk h123 a0 = 8 ∧ hk h123 (hr h123 a0 41) = 20 ∧ (0 ≤ (4 * ((4 * i1) + (hi h123 (hr h123 a0 40) (Int.toNat i1)))) ∧ (4 * ((4 * i1) + (hi h123 (hr h123 a0 40) (Int.toNat i1)))) < (hl h123 (hr h123 a0 41) : Int)) ∧ ∀ h124, h124 = hsi h123 (hr h123 a0 41) (Int.toNat ((4 * ((4 * i1) + (hi h123 (hr h123 a0 40) (Int.toNat i1)))))) x1 →
 hk h124 a0 = 8 ∧ hk h124 (hr h124 a0 41) = 20 ∧ (0 ≤ ((4 * ((4 * i1) + (hi h123 (hr h123 a0 40) (Int.toNat i1)))) + 1) ∧ ((4 * ((4 * i1) + (hi h123 (hr h123 a0 40) (Int.toNat i1)))) + 1) < (hl h124 (hr h124 a0 41) : Int)) ∧ ∀ h125, h125 = hsi h124 (hr h124 a0 41) (Int.toNat (((4 * ((4 * i1) + (hi h123 (hr h123 a0 40) (Int.toNat i1)))) + 1))) x110 →
 hk h125 a0 = 8 ∧ hk h125 (hr h125 a0 41) = 20 ∧ (0 ≤ ((4 * ((4 * i1) + (hi h123 (hr h123 a0 40) (Int.toNat i1)))) + 2) ∧ ((4 * ((4 * i1) + (hi h123 (hr h123 a0 40) (Int.toNat i1)))) + 2) < (hl h125 (hr h125 a0 41) : Int)) ∧ ∀ h126, h126 = hsi h125 (hr h125 a0 41) (Int.toNat (((4 * ((4 * i1) + (hi h123 (hr h123 a0 40) (Int.toNat i1)))) + 2))) ((-1)) →
 hk h126 a0 = 8 ∧ hk h126 (hr h126 a0 41) = 20 ∧ (0 ≤ ((4 * ((4 * i1) + (hi h123 (hr h123 a0 40) (Int.toNat i1)))) + 3) ∧ ((4 * ((4 * i1) + (hi h123 (hr h123 a0 40) (Int.toNat i1)))) + 3) < (hl h126 (hr h126 a0 41) : Int)) ∧ ∀ h127, h127 = hsi h126 (hr h126 a0 41) (Int.toNat (((4 * ((4 * i1) + (hi h123 (hr h123 a0 40) (Int.toNat i1)))) + 3))) x123 →
 hk h127 a0 = 8 ∧ (hk h127 (hr h127 a0 40) = 20 ∨ hk h127 (hr h127 a0 40) = 26) ∧ (0 ≤ i1 ∧ i1 < (hl h127 (hr h127 a0 40) : Int)) ∧ hk h127 (hr h127 a0 40) = 20 ∧ (0 ≤ i1 ∧ i1 < (hl h127 (hr h127 a0 40) : Int)) ∧ ∀ h128, h128 = hsi h127 (hr h127 a0 40) (Int.toNat i1) ((hi h127 (hr h127 a0 40) (Int.toNat i1)) + 1) →
 Q 0 h128) ∧
((hi h123 a0 25) ≠ 0 →
 Q 0 h123)) X) ∧
(x1 ≠ 0 →
 hk h110 a0 = 8 ∧ InR (hi h110 a0 25) ∧ ((hi h110 a0 25) = 0 →
 hk h110 a0 = 8 ∧ (hk h110 (hr h110 a0 40) = 20 ∨ hk h110 (hr h110 a0 40) = 26) ∧ (0 ≤ i1 ∧ i1 < (hl h110 (hr h110 a0 40) : Int)) ∧ hk h110 a0 = 8 ∧ hk h110 (hr h110 a0 41) = 20 ∧ (0 ≤ (4 * ((4 * i1) + (hi h110 (hr h110 a0 40) (Int.toNat i1)))) ∧ (4 * ((4 * i1) + (hi h110 (hr h110 a0 40) (Int.toNat i1)))) < (hl h110 (hr h110 a0 41) : Int)) ∧ ∀ h129, h129 = hsi h110 (hr h110 a0 41) (Int.toNat ((4 * ((4 * i1) + (hi h110 (hr h110 a0 40) (Int.toNat i1)))))) x1 →
 hk h129 a0 = 8 ∧ hk h129 (hr h129 a0 41) = 20 ∧ (0 ≤ ((4 * ((4 * i1) + (hi h110 (hr h110 a0 40) (Int.toNat i1)))) + 1) ∧ ((4 * ((4 * i1) + (hi h110 (hr h110 a0 40) (Int.toNat i1)))) + 1) < (hl h129 (hr h129 a0 41) : Int)) ∧ ∀ h130, h130 = hsi h129 (hr h129 a0 41) (Int.toNat (((4 * ((4 * i1) + (hi h110 (hr h110 a0 40) (Int.toNat i1)))) + 1))) x110 →
 hk h130 a0 = 8 ∧ hk h130 (hr h130 a0 41) = 20 ∧ (0 ≤ ((4 * ((4 * i1) + (hi h110 (hr h110 a0 40) (Int.toNat i1)))) + 2) ∧ ((4 * ((4 * i1) + (hi h110 (hr h110 a0 40) (Int.toNat i1)))) + 2) < (hl h130 (hr h130 a0 41) : Int)) ∧ ∀ h131, h131 = hsi h130 (hr h130 a0 41) (Int.toNat (((4 * ((4 * i1) + (hi h110 (hr h110 a0 40) (Int.toNat i1)))) + 2))) ((-1)) →
 hk h131 a0 = 8 ∧ hk h131 (hr h131 a0 41) = 20 ∧ (0 ≤ ((4 * ((4 * i1) + (hi h110 (hr h110 a0 40) (Int.toNat i1)))) + 3) ∧ ((4 * ((4 * i1) + (hi h110 (hr h110 a0 40) (Int.toNat i1)))) + 3) < (hl h131 (hr h131 a0 41) : Int)) ∧ ∀ h132, h132 = hsi h131 (hr h131 a0 41) (Int.toNat (((4 * ((4 * i1) + (hi h110 (hr h110 a0 40) (Int.toNat i1)))) + 3))) ((-1)) →
 hk h132 a0 = 8 ∧ (hk h132 (hr h132 a0 40) = 20 ∨ hk h132 (hr h132 a0 40) = 26) ∧ (0 ≤ i1 ∧ i1 < (hl h132 (hr h132 a0 40) : Int)) ∧ hk h132 (hr h132 a0 40) = 20 ∧ (0 ≤ i1 ∧ i1 < (hl h132 (hr h132 a0 40) : Int)) ∧ ∀ h133, h133 = hsi h132 (hr h132 a0 40) (Int.toNat i1) ((hi h132 (hr h132 a0 40) (Int.toNat i1)) + 1) →
 Q 0 h133) ∧
((hi h110 a0 25) ≠ 0 →
 Q 0 h110)))) X) X) X)) ∧
((hi h81 a0 25) ≠ 0 →
 hk h81 a0 = 8 ∧ call m_X7_failsIf [pA a0, pI 0, pI 4] h81 (fun _ h134 =>
 hk h134 a0 = 8 ∧ call m_X7_goesOn [pA a0] h134 (fun _ h135 =>
 hk h135 a0 = 8 ∧ call m_X7_kindHere [pA a0] h135 (fun x136 h136 =>
 InR x1 ∧ (x1 = 0 →
 hk h136 a0 = 8 ∧ call m_X7_programHere [pA a0] h136 (fun x137 h137 =>
 InR x1 ∧ (x1 = 0 →
 hk h137 a0 = 8 ∧ call m_X7_takes [pA a0, pI 0, pI 999] h137 (fun x138 h138 =>
 hk h138 a0 = 8 ∧ InR (hi h138 a0 25) ∧ ((hi h138 a0 25) = 0 →
 hk h138 a0 = 8 ∧ (hk h138 (hr h138 a0 40) = 20 ∨ hk h138 (hr h138 a0 40) = 26) ∧ (0 ≤ i1 ∧ i1 < (hl h138 (hr h138 a0 40) : Int)) ∧ hk h138 a0 = 8 ∧ hk h138 (hr h138 a0 41) = 20 ∧ (0 ≤ (4 * ((4 * i1) + (hi h138 (hr h138 a0 40) (Int.toNat i1)))) ∧ (4 * ((4 * i1) + (hi h138 (hr h138 a0 40) (Int.toNat i1)))) < (hl h138 (hr h138 a0 41) : Int)) ∧ ∀ h139, h139 = hsi h138 (hr h138 a0 41) (Int.toNat ((4 * ((4 * i1) + (hi h138 (hr h138 a0 40) (Int.toNat i1)))))) x1 →
 hk h139 a0 = 8 ∧ hk h139 (hr h139 a0 41) = 20 ∧ (0 ≤ ((4 * ((4 * i1) + (hi h138 (hr h138 a0 40) (Int.toNat i1)))) + 1) ∧ ((4 * ((4 * i1) + (hi h138 (hr h138 a0 40) (Int.toNat i1)))) + 1) < (hl h139 (hr h139 a0 41) : Int)) ∧ ∀ h140, h140 = hsi h139 (hr h139 a0 41) (Int.toNat (((4 * ((4 * i1) + (hi h138 (hr h138 a0 40) (Int.toNat i1)))) + 1))) x136 →
 hk h140 a0 = 8 ∧ hk h140 (hr h140 a0 41) = 20 ∧ (0 ≤ ((4 * ((4 * i1) + (hi h138 (hr h138 a0 40) (Int.toNat i1)))) + 2) ∧ ((4 * ((4 * i1) + (hi h138 (hr h138 a0 40) (Int.toNat i1)))) + 2) < (hl h140 (hr h140 a0 41) : Int)) ∧ ∀ h141, h141 = hsi h140 (hr h140 a0 41) (Int.toNat (((4 * ((4 * i1) + (hi h138 (hr h138 a0 40) (Int.toNat i1)))) + 2))) x137 →
 hk h141 a0 = 8 ∧ hk h141 (hr h141 a0 41) = 20 ∧ (0 ≤ ((4 * ((4 * i1) + (hi h138 (hr h138 a0 40) (Int.toNat i1)))) + 3) ∧ ((4 * ((4 * i1) + (hi h138 (hr h138 a0 40) (Int.toNat i1)))) + 3) < (hl h141 (hr h141 a0 41) : Int)) ∧ ∀ h142, h142 = hsi h141 (hr h141 a0 41) (Int.toNat (((4 * ((4 * i1) + (hi h138 (hr h138 a0 40) (Int.toNat i1)))) + 3))) x138 →
 hk h142 a0 = 8 ∧ (hk h142 (hr h142 a0 40) = 20 ∨ hk h142 (hr h142 a0 40) = 26) ∧ (0 ≤ i1 ∧ i1 < (hl h142 (hr h142 a0 40) : Int)) ∧ hk h142 (hr h142 a0 40) = 20 ∧ (0 ≤ i1 ∧ i1 < (hl h142 (hr h142 a0 40) : Int)) ∧ ∀ h143, h143 = hsi h142 (hr h142 a0 40) (Int.toNat i1) ((hi h142 (hr h142 a0 40) (Int.toNat i1)) + 1) →
 Q 0 h143) ∧
((hi h138 a0 25) ≠ 0 →
 Q 0 h138)) X) ∧
(x1 ≠ 0 →
 hk h137 a0 = 8 ∧ InR (hi h137 a0 25) ∧ ((hi h137 a0 25) = 0 →
 hk h137 a0 = 8 ∧ (hk h137 (hr h137 a0 40) = 20 ∨ hk h137 (hr h137 a0 40) = 26) ∧ (0 ≤ i1 ∧ i1 < (hl h137 (hr h137 a0 40) : Int)) ∧ hk h137 a0 = 8 ∧ hk h137 (hr h137 a0 41) = 20 ∧ (0 ≤ (4 * ((4 * i1) + (hi h137 (hr h137 a0 40) (Int.toNat i1)))) ∧ (4 * ((4 * i1) + (hi h137 (hr h137 a0 40) (Int.toNat i1)))) < (hl h137 (hr h137 a0 41) : Int)) ∧ ∀ h144, h144 = hsi h137 (hr h137 a0 41) (Int.toNat ((4 * ((4 * i1) + (hi h137 (hr h137 a0 40) (Int.toNat i1)))))) x1 →
 hk h144 a0 = 8 ∧ hk h144 (hr h144 a0 41) = 20 ∧ (0 ≤ ((4 * ((4 * i1) + (hi h137 (hr h137 a0 40) (Int.toNat i1)))) + 1) ∧ ((4 * ((4 * i1) + (hi h137 (hr h137 a0 40) (Int.toNat i1)))) + 1) < (hl h144 (hr h144 a0 41) : Int)) ∧ ∀ h145, h145 = hsi h144 (hr h144 a0 41) (Int.toNat (((4 * ((4 * i1) + (hi h137 (hr h137 a0 40) (Int.toNat i1)))) + 1))) x136 →
 hk h145 a0 = 8 ∧ hk h145 (hr h145 a0 41) = 20 ∧ (0 ≤ ((4 * ((4 * i1) + (hi h137 (hr h137 a0 40) (Int.toNat i1)))) + 2) ∧ ((4 * ((4 * i1) + (hi h137 (hr h137 a0 40) (Int.toNat i1)))) + 2) < (hl h145 (hr h145 a0 41) : Int)) ∧ ∀ h146, h146 = hsi h145 (hr h145 a0 41) (Int.toNat (((4 * ((4 * i1) + (hi h137 (hr h137 a0 40) (Int.toNat i1)))) + 2))) x137 →
 hk h146 a0 = 8 ∧ hk h146 (hr h146 a0 41) = 20 ∧ (0 ≤ ((4 * ((4 * i1) + (hi h137 (hr h137 a0 40) (Int.toNat i1)))) + 3) ∧ ((4 * ((4 * i1) + (hi h137 (hr h137 a0 40) (Int.toNat i1)))) + 3) < (hl h146 (hr h146 a0 41) : Int)) ∧ ∀ h147, h147 = hsi h146 (hr h146 a0 41) (Int.toNat (((4 * ((4 * i1) + (hi h137 (hr h137 a0 40) (Int.toNat i1)))) + 3))) ((-1)) →
 hk h147 a0 = 8 ∧ (hk h147 (hr h147 a0 40) = 20 ∨ hk h147 (hr h147 a0 40) = 26) ∧ (0 ≤ i1 ∧ i1 < (hl h147 (hr h147 a0 40) : Int)) ∧ hk h147 (hr h147 a0 40) = 20 ∧ (0 ≤ i1 ∧ i1 < (hl h147 (hr h147 a0 40) : Int)) ∧ ∀ h148, h148 = hsi h147 (hr h147 a0 40) (Int.toNat i1) ((hi h147 (hr h147 a0 40) (Int.toNat i1)) + 1) →
 Q 0 h148) ∧
((hi h137 a0 25) ≠ 0 →
 Q 0 h137))) X) ∧
(x1 ≠ 0 →
 InR x1 ∧ (x1 = 0 →
 hk h136 a0 = 8 ∧ call m_X7_takes [pA a0, pI 0, pI 999] h136 (fun x149 h149 =>
 hk h149 a0 = 8 ∧ InR (hi h149 a0 25) ∧ ((hi h149 a0 25) = 0 →
 hk h149 a0 = 8 ∧ (hk h149 (hr h149 a0 40) = 20 ∨ hk h149 (hr h149 a0 40) = 26) ∧ (0 ≤ i1 ∧ i1 < (hl h149 (hr h149 a0 40) : Int)) ∧ hk h149 a0 = 8 ∧ hk h149 (hr h149 a0 41) = 20 ∧ (0 ≤ (4 * ((4 * i1) + (hi h149 (hr h149 a0 40) (Int.toNat i1)))) ∧ (4 * ((4 * i1) + (hi h149 (hr h149 a0 40) (Int.toNat i1)))) < (hl h149 (hr h149 a0 41) : Int)) ∧ ∀ h150, h150 = hsi h149 (hr h149 a0 41) (Int.toNat ((4 * ((4 * i1) + (hi h149 (hr h149 a0 40) (Int.toNat i1)))))) x1 →
 hk h150 a0 = 8 ∧ hk h150 (hr h150 a0 41) = 20 ∧ (0 ≤ ((4 * ((4 * i1) + (hi h149 (hr h149 a0 40) (Int.toNat i1)))) + 1) ∧ ((4 * ((4 * i1) + (hi h149 (hr h149 a0 40) (Int.toNat i1)))) + 1) < (hl h150 (hr h150 a0 41) : Int)) ∧ ∀ h151, h151 = hsi h150 (hr h150 a0 41) (Int.toNat (((4 * ((4 * i1) + (hi h149 (hr h149 a0 40) (Int.toNat i1)))) + 1))) x136 →
 hk h151 a0 = 8 ∧ hk h151 (hr h151 a0 41) = 20 ∧ (0 ≤ ((4 * ((4 * i1) + (hi h149 (hr h149 a0 40) (Int.toNat i1)))) + 2) ∧ ((4 * ((4 * i1) + (hi h149 (hr h149 a0 40) (Int.toNat i1)))) + 2) < (hl h151 (hr h151 a0 41) : Int)) ∧ ∀ h152, h152 = hsi h151 (hr h151 a0 41) (Int.toNat (((4 * ((4 * i1) + (hi h149 (hr h149 a0 40) (Int.toNat i1)))) + 2))) ((-1)) →
 hk h152 a0 = 8 ∧ hk h152 (hr h152 a0 41) = 20 ∧ (0 ≤ ((4 * ((4 * i1) + (hi h149 (hr h149 a0 40) (Int.toNat i1)))) + 3) ∧ ((4 * ((4 * i1) + (hi h149 (hr h149 a0 40) (Int.toNat i1)))) + 3) < (hl h152 (hr h152 a0 41) : Int)) ∧ ∀ h153, h153 = hsi h152 (hr h152 a0 41) (Int.toNat (((4 * ((4 * i1) + (hi h149 (hr h149 a0 40) (Int.toNat i1)))) + 3))) x149 →
 hk h153 a0 = 8 ∧ (hk h153 (hr h153 a0 40) = 20 ∨ hk h153 (hr h153 a0 40) = 26) ∧ (0 ≤ i1 ∧ i1 < (hl h153 (hr h153 a0 40) : Int)) ∧ hk h153 (hr h153 a0 40) = 20 ∧ (0 ≤ i1 ∧ i1 < (hl h153 (hr h153 a0 40) : Int)) ∧ ∀ h154, h154 = hsi h153 (hr h153 a0 40) (Int.toNat i1) ((hi h153 (hr h153 a0 40) (Int.toNat i1)) + 1) →
 Q 0 h154) ∧
((hi h149 a0 25) ≠ 0 →
 Q 0 h149)) X) ∧
(x1 ≠ 0 →
 hk h136 a0 = 8 ∧ InR (hi h136 a0 25) ∧ ((hi h136 a0 25) = 0 →
 hk h136 a0 = 8 ∧ (hk h136 (hr h136 a0 40) = 20 ∨ hk h136 (hr h136 a0 40) = 26) ∧ (0 ≤ i1 ∧ i1 < (hl h136 (hr h136 a0 40) : Int)) ∧ hk h136 a0 = 8 ∧ hk h136 (hr h136 a0 41) = 20 ∧ (0 ≤ (4 * ((4 * i1) + (hi h136 (hr h136 a0 40) (Int.toNat i1)))) ∧ (4 * ((4 * i1) + (hi h136 (hr h136 a0 40) (Int.toNat i1)))) < (hl h136 (hr h136 a0 41) : Int)) ∧ ∀ h155, h155 = hsi h136 (hr h136 a0 41) (Int.toNat ((4 * ((4 * i1) + (hi h136 (hr h136 a0 40) (Int.toNat i1)))))) x1 →
 hk h155 a0 = 8 ∧ hk h155 (hr h155 a0 41) = 20 ∧ (0 ≤ ((4 * ((4 * i1) + (hi h136 (hr h136 a0 40) (Int.toNat i1)))) + 1) ∧ ((4 * ((4 * i1) + (hi h136 (hr h136 a0 40) (Int.toNat i1)))) + 1) < (hl h155 (hr h155 a0 41) : Int)) ∧ ∀ h156, h156 = hsi h155 (hr h155 a0 41) (Int.toNat (((4 * ((4 * i1) + (hi h136 (hr h136 a0 40) (Int.toNat i1)))) + 1))) x136 →
 hk h156 a0 = 8 ∧ hk h156 (hr h156 a0 41) = 20 ∧ (0 ≤ ((4 * ((4 * i1) + (hi h136 (hr h136 a0 40) (Int.toNat i1)))) + 2) ∧ ((4 * ((4 * i1) + (hi h136 (hr h136 a0 40) (Int.toNat i1)))) + 2) < (hl h156 (hr h156 a0 41) : Int)) ∧ ∀ h157, h157 = hsi h156 (hr h156 a0 41) (Int.toNat (((4 * ((4 * i1) + (hi h136 (hr h136 a0 40) (Int.toNat i1)))) + 2))) ((-1)) →
 hk h157 a0 = 8 ∧ hk h157 (hr h157 a0 41) = 20 ∧ (0 ≤ ((4 * ((4 * i1) + (hi h136 (hr h136 a0 40) (Int.toNat i1)))) + 3) ∧ ((4 * ((4 * i1) + (hi h136 (hr h136 a0 40) (Int.toNat i1)))) + 3) < (hl h157 (hr h157 a0 41) : Int)) ∧ ∀ h158, h158 = hsi h157 (hr h157 a0 41) (Int.toNat (((4 * ((4 * i1) + (hi h136 (hr h136 a0 40) (Int.toNat i1)))) + 3))) ((-1)) →
 hk h158 a0 = 8 ∧ (hk h158 (hr h158 a0 40) = 20 ∨ hk h158 (hr h158 a0 40) = 26) ∧ (0 ≤ i1 ∧ i1 < (hl h158 (hr h158 a0 40) : Int)) ∧ hk h158 (hr h158 a0 40) = 20 ∧ (0 ≤ i1 ∧ i1 < (hl h158 (hr h158 a0 40) : Int)) ∧ ∀ h159, h159 = hsi h158 (hr h158 a0 40) (Int.toNat i1) ((hi h158 (hr h158 a0 40) (Int.toNat i1)) + 1) →
 Q 0 h159) ∧
((hi h136 a0 25) ≠ 0 →
 Q 0 h136)))) X) X) X)) X)) X) : wpc k_X7_act [] call mc ms fr Q X [] K 400 (pto 0 k_X7_act) [some (pA a0), some (pI i1), z2, z3, z4, z5, z6] [] h c s :=
  H
set_option maxRecDepth 100000 in
theorem v_X7_handleLine_0 (a0 : Nat) (z1 : Option PV) (z2 : Option PV) (z3 : Option PV) (z4 : Option PV) (h : PH) (c s : Nat) (H : hk h a0 = 8 ∧ call m_X7_goesOn [pA a0] h (fun _ h1 =>
 hk h1 a0 = 8 ∧ call m_X7_programHere [pA a0] h1 (fun x2 h2 =>
 hk h2 a0 = 8 ∧ hk h2 a0 = 8 ∧ hk h2 a0 = 8 ∧ call m_X7_namedHere [pA a0, pA (hr h2 a0 35), pI (hi h2 a0 31)] h2 (fun x3 h3 =>
 hk h3 a0 = 8 ∧ InR (hi h3 a0 25) ∧ ((hi h3 a0 25) = 0 →
 hk h3 a0 = 8 ∧ (hk h3 (hr h3 a0 39) = 20 ∨ hk h3 (hr h3 a0 39) = 26) ∧ (0 ≤ ((8 * x2) + x3) ∧ ((8 * x2) + x3) < (hl h3 (hr h3 a0 39) : Int)) ∧ InR (hi h3 (hr h3 a0 39) (Int.toNat (((8 * x2) + x3)))) ∧ (0 < (hi h3 (hr h3 a0 39) (Int.toNat (((8 * x2) + x3)))) →
 hk h3 a0 = 8 ∧ call m_X7_failsIf [pA a0, pI 1, pI 3] h3 (fun _ h4 =>
 hk h4 a0 = 8 ∧ call m_X7_goesOn [pA a0] h4 (fun _ h5 =>
 hk h5 a0 = 8 ∧ call m_X7_takes [pA a0, pI 1, pI 20] h5 (fun x6 h6 =>
 hk h6 a0 = 8 ∧ InR (hi h6 a0 25) ∧ ((hi h6 a0 25) = 0 →
 hk h6 a0 = 8 ∧ hk h6 (hr h6 a0 39) = 20 ∧ (0 ≤ ((8 * x2) + x3) ∧ ((8 * x2) + x3) < (hl h6 (hr h6 a0 39) : Int)) ∧ ∀ h7, h7 = hsi h6 (hr h6 a0 39) (Int.toNat (((8 * x2) + x3))) x6 →
 hk h7 a0 = 8 ∧ hk h7 a0 = 8 ∧ ∀ h8, h8 = hsi h7 a0 33 ((hi h7 a0 33) + 1) →
 K 94 [some (pA a0), some (pI x2), some (pI x3), some (pI ((8 * x2) + x3)), some (pI x6)] [] h8 c s) ∧
((hi h6 a0 25) ≠ 0 →
 Q 0 h6)) X) X) X) ∧
((hi h3 (hr h3 a0 39) (Int.toNat (((8 * x2) + x3)))) ≤ 0 →
 hk h3 a0 = 8 ∧ call m_X7_failsIf [pA a0, pI 0, pI 3] h3 (fun _ h9 =>
 hk h9 a0 = 8 ∧ call m_X7_goesOn [pA a0] h9 (fun _ h10 =>
 hk h10 a0 = 8 ∧ call m_X7_takes [pA a0, pI 1, pI 20] h10 (fun x11 h11 =>
 hk h11 a0 = 8 ∧ InR (hi h11 a0 25) ∧ ((hi h11 a0 25) = 0 →
 hk h11 a0 = 8 ∧ hk h11 (hr h11 a0 39) = 20 ∧ (0 ≤ ((8 * x2) + x3) ∧ ((8 * x2) + x3) < (hl h11 (hr h11 a0 39) : Int)) ∧ ∀ h12, h12 = hsi h11 (hr h11 a0 39) (Int.toNat (((8 * x2) + x3))) x11 →
 hk h12 a0 = 8 ∧ hk h12 a0 = 8 ∧ ∀ h13, h13 = hsi h12 a0 33 ((hi h12 a0 33) + 1) →
 K 94 [some (pA a0), some (pI x2), some (pI x3), some (pI ((8 * x2) + x3)), some (pI x11)] [] h13 c s) ∧
((hi h11 a0 25) ≠ 0 →
 Q 0 h11)) X) X) X)) ∧
((hi h3 a0 25) ≠ 0 →
 hk h3 a0 = 8 ∧ call m_X7_failsIf [pA a0, pI 0, pI 3] h3 (fun _ h14 =>
 hk h14 a0 = 8 ∧ call m_X7_goesOn [pA a0] h14 (fun _ h15 =>
 hk h15 a0 = 8 ∧ call m_X7_takes [pA a0, pI 1, pI 20] h15 (fun x16 h16 =>
 hk h16 a0 = 8 ∧ InR (hi h16 a0 25) ∧ ((hi h16 a0 25) = 0 →
 hk h16 a0 = 8 ∧ hk h16 (hr h16 a0 39) = 20 ∧ (0 ≤ ((8 * x2) + x3) ∧ ((8 * x2) + x3) < (hl h16 (hr h16 a0 39) : Int)) ∧ ∀ h17, h17 = hsi h16 (hr h16 a0 39) (Int.toNat (((8 * x2) + x3))) x16 →
 hk h17 a0 = 8 ∧ hk h17 a0 = 8 ∧ ∀ h18, h18 = hsi h17 a0 33 ((hi h17 a0 33) + 1) →
 K 94 [some (pA a0), some (pI x2), some (pI x3), some (pI ((8 * x2) + x3)), some (pI x16)] [] h18 c s) ∧
((hi h16 a0 25) ≠ 0 →
 Q 0 h16)) X) X) X)) X) X) X) : wpc k_X7_handleLine [] call mc ms fr Q X [94] K 400 (pto 0 k_X7_handleLine) [some (pA a0), z1, z2, z3, z4] [] h c s :=
  H
set_option maxRecDepth 100000 in
theorem v_X7_handleLine_94 (a0 : Nat) (i1 : Int) (i2 : Int) (i3 : Int) (i4 : Int) (h : PH) (c s : Nat) (H : hk h a0 = 8 ∧ InR (hi h a0 25) ∧ ((hi h a0 25) = 0 →
 hk h a0 = 8 ∧ InR (hi h a0 23) ∧ InR 1 ∧ ((hi h a0 23) = 1 →
 hk h a0 = 8 ∧ call m_X7_act [pA a0, pI i3] h (fun _ h1 =>
 K 94 [some (pA a0), some (pI i1), some (pI i2), some (pI i3), some (pI i4)] [] h1 c s) X) ∧
((hi h a0 23) ≠ 1 →
 Q 0 h)) ∧
((hi h a0 25) ≠ 0 →
 Q 0 h)) : wpc k_X7_handleLine [] call mc ms fr Q X [94] K 400 (pto 94 k_X7_handleLine) [some (pA a0), some (pI i1), some (pI i2), some (pI i3), some (pI i4)] [] h c s :=
  H
set_option maxRecDepth 100000 in
theorem v_X7_line_0 (a0 : Nat) (h : PH) (c s : Nat) (H : hk h a0 = 8 ∧ call m_X7_isWord [pA a0, pA 29] h (fun x1 h1 =>
 InR x1 ∧ (x1 = 0 →
 hk h1 a0 = 8 ∧ call m_X7_isWord [pA a0, pA 30] h1 (fun x2 h2 =>
 InR x2 ∧ (x2 = 0 →
 hk h2 a0 = 8 ∧ call m_X7_isWord [pA a0, pA 31] h2 (fun x3 h3 =>
 InR x3 ∧ (x3 = 0 →
 hk h3 a0 = 8 ∧ call m_X7_isWord [pA a0, pA 32] h3 (fun x4 h4 =>
 InR x4 ∧ (x4 = 0 →
 hk h4 a0 = 8 ∧ call m_X7_isWord [pA a0, pA 33] h4 (fun x5 h5 =>
 InR x5 ∧ (x5 = 0 →
 hk h5 a0 = 8 ∧ call m_X7_fails [pA a0, pI 1] h5 (fun _ h6 =>
 Q 0 h6) X) ∧
(x5 ≠ 0 →
 hk h5 a0 = 8 ∧ call m_X7_sendLine [pA a0] h5 (fun _ h7 =>
 Q 0 h7) X)) X) ∧
(x4 ≠ 0 →
 hk h4 a0 = 8 ∧ call m_X7_hideLine [pA a0] h4 (fun _ h8 =>
 Q 0 h8) X)) X) ∧
(x3 ≠ 0 →
 hk h3 a0 = 8 ∧ call m_X7_handleLine [pA a0] h3 (fun _ h9 =>
 Q 0 h9) X)) X) ∧
(x2 ≠ 0 →
 hk h2 a0 = 8 ∧ call m_X7_programLine [pA a0] h2 (fun _ h10 =>
 Q 0 h10) X)) X) ∧
(x1 ≠ 0 →
 hk h1 a0 = 8 ∧ call m_X7_kindLine [pA a0] h1 (fun _ h11 =>
 Q 0 h11) X)) X) : wpc k_X7_line [] call mc ms fr Q X [] K 400 (pto 0 k_X7_line) [some (pA a0)] [] h c s :=
  H
end VCS
theorem S_X7_act {d b : Nat} {h0 h : PH} {D : Nat → Int → Int} {s : Int → Int} {t : Int} {Q : Int → PH → Prop} {X : Nat → PH → Prop} {g : Int} (M : Mt b h0 h D s t) (P : PR D) (hK : KP D) (hg : 0 ≤ g ∧ g < 48) (h16 : 0 ≤ D 16 g ∧ D 16 g ≤ 4) (hW : WRD h) (H : ∀ (x : Int) h', x = 0 → Mt b h0 h' (laD D g) s t → Q x h') : RUN GQ (d + 9) m_X7_act [pA b, pI g] h Q X := by
  have Pw := P.w
  have za := aht_rng D
  rw [e_X7_act]
  refine WP.of (RUN.mono GQ _) (cuts := []) (n := 400) (v_X7_act_0 _ _ _ _ _ _ _ _ _ _ ?_)
  refine ⟨M.k0, ?_⟩
  refine S_X7_actHere M P hW (fun x1 e1 => ?_)
  subst e1
  refine ⟨ir (by omega) (by omega), ir (by omega) (by omega), fun c8 => ?_, fun c8 => ?_⟩
  · refine ⟨M.k0, ?_⟩
    refine S_X7_failsIf M (by omega) (by exact P.w) (fun x17 h17 e17 M17 => ?_)
    subst e17
    obtain ⟨F, hF⟩ : ∃ Z, Z = laF D := ⟨_, rfl⟩
    have MF := M17.castD (D' := F) (by rw [hF]; unfold laF fiD; (repeat' split) <;> first | rfl | (exfalso; omega))
    have PF : PR F := by rw [hF]; exact (ST_laF P).P
    have PFw := PF.w
    have SF : ST D F := by rw [hF]; exact ST_laF P
    have F16 : F 16 g = D 16 g := by rw [SF.r (by decide)]
    refine ⟨MF.k0, ?_⟩
    try rw [MF.f25]
    refine ⟨ir (by omega) (by omega), fun c25 => ?_, fun c25 => ?_⟩
    · refine ⟨MF.k0, ?_⟩
      try rw [MF.r40]
      refine MF.ld16 (by omega) (by omega) (fun er => ?_)
      try rw [er]
      clear er
      refine ⟨ir (by omega) (by omega), ir (by omega) (by omega), fun c35 => ?_, fun c35 => ?_⟩
      · refine ⟨MF.k0, ?_⟩
        refine S_X7_failsIf MF (by omega) (by exact PF.w) (fun x44 h44 e44 M44 => ?_)
        subst e44
        obtain ⟨A, hA⟩ : ∃ Z, Z = laA D g := ⟨_, rfl⟩
        have MA := M44.castD (D' := A) (by rw [hA]; unfold laA fiD; rw [← hF]; (repeat' split) <;> first | rfl | (exfalso; omega))
        have PA : PR A := by rw [hA]; exact (ST_laA P g).P
        have PAw := PA.w
        refine ⟨MA.k0, ?_⟩
        refine S_X7_goesOn MA PA (fun x48 h48 e48 M48 => ?_)
        subst e48
        obtain ⟨B, hB⟩ : ∃ Z, Z = laB D g := ⟨_, rfl⟩
        have MB := M48.castD (D' := B) (by rw [hB]; unfold laB; rw [← hA])
        have PB : PR B := by rw [hB]; exact (ST_laB P g).P
        have PBw := PB.w
        have SB : ST D B := by rw [hB]; exact ST_laB P g
        have B31 : B 0 31 = D 0 31 := SB.f (by decide)
        have KB : KP B := SB.K hK
        obtain ⟨k1, k2, k3, k4⟩ := id KB
        refine ⟨MB.k0, ?_⟩
        refine S_X7_kindHere MB PB (by omega) (by exact k3) (fun x52 h52 e52 M52 => ?_)
        subst e52
        rw [B31] at M52
        rw [B31]
        obtain ⟨C, hC⟩ : ∃ Z, Z = laC D g := ⟨_, rfl⟩
        have MC := M52.castD (D' := C) (by rw [hC]; unfold laC; rw [← hB])
        have PC : PR C := by rw [hC]; exact (ST_laC P g).P
        have PCw := PC.w
        have SC : ST D C := by rw [hC]; exact ST_laC P g
        have C32 : C 0 32 = D 0 32 := SC.f (by decide)
        have KC : KP C := SC.K hK
        obtain ⟨j1, j2, j3, j4⟩ := id KC
        obtain ⟨k, ekk⟩ : ∃ z, z = lak D g := ⟨_, rfl⟩
        have ek2 : nhV 11 (D 0 31) B = k := by rw [ekk]; unfold lak; rw [← hB]
        rw [ek2]
        refine ⟨ir (by omega) (by omega), fun c57 => ?_, fun c57 => ?_⟩
        · refine ⟨MC.k0, ?_⟩
          refine S_X7_programHere MC PC (by omega) (by exact j4) (fun x61 h61 e61 M61 => ?_)
          subst e61
          rw [C32] at M61
          rw [C32]
          obtain ⟨E, hE⟩ : ∃ Z, Z = laE D g := ⟨_, rfl⟩
          have ME := M61.castD (D' := E) (by rw [hE]; unfold laE; rw [← hC]; first | (rw [if_pos (by omega)]; done) | (rw [if_neg (by omega)]; done))
          have PE : PR E := by rw [hE]; exact (ST_laE P g).P
          have PEw := PE.w
          refine ⟨ir (by omega) (by omega), fun c71 => ?_, fun c71 => ?_⟩
          · refine ⟨ME.k0, ?_⟩
            refine S_X7_takes ME PE (by omega) (fun x79 h79 e79 M79 => ?_)
            subst e79
            obtain ⟨G, hG⟩ : ∃ Z, Z = laG D g := ⟨_, rfl⟩
            have MG := M79.castD (D' := G) (by rw [hG]; unfold laG; rw [← hE]; first | (rw [if_pos (by omega)]; done) | (rw [if_neg (by omega)]; done))
            have PG : PR G := by rw [hG]; exact (ST_laG P g).P
            have PGw := PG.w
            have SG : ST D G := by rw [hG]; exact ST_laG P g
            have G16 : G 16 g = D 16 g := by rw [SG.r (by decide)]
            refine ⟨MG.k0, ?_⟩
            try rw [MG.f25]
            refine ⟨ir (by omega) (by omega), fun c92 => ?_, fun c92 => ?_⟩
            · have rm := (la_room (D := D) (g := g) (by rw [← hG]; exact c92)).2
              refine ⟨MG.k0, ?_⟩
              try rw [MG.r40]
              refine MG.ld16 (by omega) (by omega) (fun er => ?_)
              try rw [er]
              clear er
              rw [G16]
              refine ⟨MG.k0, ?_⟩
              try rw [MG.r41]
              refine MG.as17 (by omega) (by omega) (fun h117 M117 => ?_)
              refine ⟨M117.k0, ?_⟩
              try rw [M117.r41]
              refine M117.as17 (by omega) (by omega) (fun h127 M127 => ?_)
              refine ⟨M127.k0, ?_⟩
              try rw [M127.r41]
              refine M127.as17 (by omega) (by omega) (fun h138 M138 => ?_)
              refine ⟨M138.k0, ?_⟩
              try rw [M138.r41]
              refine M138.as17 (by omega) (by omega) (fun h149 M149 => ?_)
              refine ⟨M149.k0, ?_⟩
              try rw [M149.r40]
              refine M149.ld16 (by omega) (by omega) (fun er => ?_)
              try rw [er]
              clear er
              rw [dst_row (by decide), dst_row (by decide), dst_row (by decide), dst_row (by decide), G16]
              refine M149.as16 (by omega) (by omega) (fun h159 M159 => ?_)
              refine H _ _ rfl (M159.castD ?_)
              unfold laD lap lav
              rw [← hG, if_pos c92, ← ekk, ← hC, ← hE]
              first
              | (rw [if_pos (by omega), if_pos (by omega)]; done)
              | (rw [if_neg (by omega), if_neg (by omega)]; done)
            · refine H _ _ rfl (MG.castD ?_)
              unfold laD
              rw [← hG, if_neg (by omega)]
          · exfalso; omega
        · obtain ⟨E, hE⟩ : ∃ Z, Z = laE D g := ⟨_, rfl⟩
          have ME := MC.castD (D' := E) (by rw [hE]; unfold laE; rw [← hC]; first | (rw [if_pos (by omega)]; done) | (rw [if_neg (by omega)]; done))
          have PE : PR E := by rw [hE]; exact (ST_laE P g).P
          have PEw := PE.w
          refine ⟨ir (by omega) (by omega), fun c71 => ?_, fun c71 => ?_⟩
          · exfalso; omega
          · obtain ⟨G, hG⟩ : ∃ Z, Z = laG D g := ⟨_, rfl⟩
            have MG := ME.castD (D' := G) (by rw [hG]; unfold laG; rw [← hE]; first | (rw [if_pos (by omega)]; done) | (rw [if_neg (by omega)]; done))
            have PG : PR G := by rw [hG]; exact (ST_laG P g).P
            have PGw := PG.w
            have SG : ST D G := by rw [hG]; exact ST_laG P g
            have G16 : G 16 g = D 16 g := by rw [SG.r (by decide)]
            refine ⟨MG.k0, ?_⟩
            try rw [MG.f25]
            refine ⟨ir (by omega) (by omega), fun c92 => ?_, fun c92 => ?_⟩
            · have rm := (la_room (D := D) (g := g) (by rw [← hG]; exact c92)).2
              refine ⟨MG.k0, ?_⟩
              try rw [MG.r40]
              refine MG.ld16 (by omega) (by omega) (fun er => ?_)
              try rw [er]
              clear er
              rw [G16]
              refine ⟨MG.k0, ?_⟩
              try rw [MG.r41]
              refine MG.as17 (by omega) (by omega) (fun h117 M117 => ?_)
              refine ⟨M117.k0, ?_⟩
              try rw [M117.r41]
              refine M117.as17 (by omega) (by omega) (fun h127 M127 => ?_)
              refine ⟨M127.k0, ?_⟩
              try rw [M127.r41]
              refine M127.as17 (by omega) (by omega) (fun h138 M138 => ?_)
              refine ⟨M138.k0, ?_⟩
              try rw [M138.r41]
              refine M138.as17 (by omega) (by omega) (fun h149 M149 => ?_)
              refine ⟨M149.k0, ?_⟩
              try rw [M149.r40]
              refine M149.ld16 (by omega) (by omega) (fun er => ?_)
              try rw [er]
              clear er
              rw [dst_row (by decide), dst_row (by decide), dst_row (by decide), dst_row (by decide), G16]
              refine M149.as16 (by omega) (by omega) (fun h159 M159 => ?_)
              refine H _ _ rfl (M159.castD ?_)
              unfold laD lap lav
              rw [← hG, if_pos c92, ← ekk, ← hC, ← hE]
              first
              | (rw [if_pos (by omega), if_pos (by omega)]; done)
              | (rw [if_neg (by omega), if_neg (by omega)]; done)
            · refine H _ _ rfl (MG.castD ?_)
              unfold laD
              rw [← hG, if_neg (by omega)]
      · refine ⟨MF.k0, ?_⟩
        refine S_X7_failsIf MF (by omega) (by exact PF.w) (fun x44 h44 e44 M44 => ?_)
        subst e44
        obtain ⟨A, hA⟩ : ∃ Z, Z = laA D g := ⟨_, rfl⟩
        have MA := M44.castD (D' := A) (by rw [hA]; unfold laA fiD; rw [← hF]; (repeat' split) <;> first | rfl | (exfalso; omega))
        have PA : PR A := by rw [hA]; exact (ST_laA P g).P
        have PAw := PA.w
        refine ⟨MA.k0, ?_⟩
        refine S_X7_goesOn MA PA (fun x48 h48 e48 M48 => ?_)
        subst e48
        obtain ⟨B, hB⟩ : ∃ Z, Z = laB D g := ⟨_, rfl⟩
        have MB := M48.castD (D' := B) (by rw [hB]; unfold laB; rw [← hA])
        have PB : PR B := by rw [hB]; exact (ST_laB P g).P
        have PBw := PB.w
        have SB : ST D B := by rw [hB]; exact ST_laB P g
        have B31 : B 0 31 = D 0 31 := SB.f (by decide)
        have KB : KP B := SB.K hK
        obtain ⟨k1, k2, k3, k4⟩ := id KB
        refine ⟨MB.k0, ?_⟩
        refine S_X7_kindHere MB PB (by omega) (by exact k3) (fun x52 h52 e52 M52 => ?_)
        subst e52
        rw [B31] at M52
        rw [B31]
        obtain ⟨C, hC⟩ : ∃ Z, Z = laC D g := ⟨_, rfl⟩
        have MC := M52.castD (D' := C) (by rw [hC]; unfold laC; rw [← hB])
        have PC : PR C := by rw [hC]; exact (ST_laC P g).P
        have PCw := PC.w
        have SC : ST D C := by rw [hC]; exact ST_laC P g
        have C32 : C 0 32 = D 0 32 := SC.f (by decide)
        have KC : KP C := SC.K hK
        obtain ⟨j1, j2, j3, j4⟩ := id KC
        obtain ⟨k, ekk⟩ : ∃ z, z = lak D g := ⟨_, rfl⟩
        have ek2 : nhV 11 (D 0 31) B = k := by rw [ekk]; unfold lak; rw [← hB]
        rw [ek2]
        refine ⟨ir (by omega) (by omega), fun c57 => ?_, fun c57 => ?_⟩
        · refine ⟨MC.k0, ?_⟩
          refine S_X7_programHere MC PC (by omega) (by exact j4) (fun x61 h61 e61 M61 => ?_)
          subst e61
          rw [C32] at M61
          rw [C32]
          obtain ⟨E, hE⟩ : ∃ Z, Z = laE D g := ⟨_, rfl⟩
          have ME := M61.castD (D' := E) (by rw [hE]; unfold laE; rw [← hC]; first | (rw [if_pos (by omega)]; done) | (rw [if_neg (by omega)]; done))
          have PE : PR E := by rw [hE]; exact (ST_laE P g).P
          have PEw := PE.w
          refine ⟨ir (by omega) (by omega), fun c71 => ?_, fun c71 => ?_⟩
          · refine ⟨ME.k0, ?_⟩
            refine S_X7_takes ME PE (by omega) (fun x79 h79 e79 M79 => ?_)
            subst e79
            obtain ⟨G, hG⟩ : ∃ Z, Z = laG D g := ⟨_, rfl⟩
            have MG := M79.castD (D' := G) (by rw [hG]; unfold laG; rw [← hE]; first | (rw [if_pos (by omega)]; done) | (rw [if_neg (by omega)]; done))
            have PG : PR G := by rw [hG]; exact (ST_laG P g).P
            have PGw := PG.w
            have SG : ST D G := by rw [hG]; exact ST_laG P g
            have G16 : G 16 g = D 16 g := by rw [SG.r (by decide)]
            refine ⟨MG.k0, ?_⟩
            try rw [MG.f25]
            refine ⟨ir (by omega) (by omega), fun c92 => ?_, fun c92 => ?_⟩
            · have rm := (la_room (D := D) (g := g) (by rw [← hG]; exact c92)).2
              refine ⟨MG.k0, ?_⟩
              try rw [MG.r40]
              refine MG.ld16 (by omega) (by omega) (fun er => ?_)
              try rw [er]
              clear er
              rw [G16]
              refine ⟨MG.k0, ?_⟩
              try rw [MG.r41]
              refine MG.as17 (by omega) (by omega) (fun h117 M117 => ?_)
              refine ⟨M117.k0, ?_⟩
              try rw [M117.r41]
              refine M117.as17 (by omega) (by omega) (fun h127 M127 => ?_)
              refine ⟨M127.k0, ?_⟩
              try rw [M127.r41]
              refine M127.as17 (by omega) (by omega) (fun h138 M138 => ?_)
              refine ⟨M138.k0, ?_⟩
              try rw [M138.r41]
              refine M138.as17 (by omega) (by omega) (fun h149 M149 => ?_)
              refine ⟨M149.k0, ?_⟩
              try rw [M149.r40]
              refine M149.ld16 (by omega) (by omega) (fun er => ?_)
              try rw [er]
              clear er
              rw [dst_row (by decide), dst_row (by decide), dst_row (by decide), dst_row (by decide), G16]
              refine M149.as16 (by omega) (by omega) (fun h159 M159 => ?_)
              refine H _ _ rfl (M159.castD ?_)
              unfold laD lap lav
              rw [← hG, if_pos c92, ← ekk, ← hC, ← hE]
              first
              | (rw [if_pos (by omega), if_pos (by omega)]; done)
              | (rw [if_neg (by omega), if_neg (by omega)]; done)
            · refine H _ _ rfl (MG.castD ?_)
              unfold laD
              rw [← hG, if_neg (by omega)]
          · exfalso; omega
        · obtain ⟨E, hE⟩ : ∃ Z, Z = laE D g := ⟨_, rfl⟩
          have ME := MC.castD (D' := E) (by rw [hE]; unfold laE; rw [← hC]; first | (rw [if_pos (by omega)]; done) | (rw [if_neg (by omega)]; done))
          have PE : PR E := by rw [hE]; exact (ST_laE P g).P
          have PEw := PE.w
          refine ⟨ir (by omega) (by omega), fun c71 => ?_, fun c71 => ?_⟩
          · exfalso; omega
          · obtain ⟨G, hG⟩ : ∃ Z, Z = laG D g := ⟨_, rfl⟩
            have MG := ME.castD (D' := G) (by rw [hG]; unfold laG; rw [← hE]; first | (rw [if_pos (by omega)]; done) | (rw [if_neg (by omega)]; done))
            have PG : PR G := by rw [hG]; exact (ST_laG P g).P
            have PGw := PG.w
            have SG : ST D G := by rw [hG]; exact ST_laG P g
            have G16 : G 16 g = D 16 g := by rw [SG.r (by decide)]
            refine ⟨MG.k0, ?_⟩
            try rw [MG.f25]
            refine ⟨ir (by omega) (by omega), fun c92 => ?_, fun c92 => ?_⟩
            · have rm := (la_room (D := D) (g := g) (by rw [← hG]; exact c92)).2
              refine ⟨MG.k0, ?_⟩
              try rw [MG.r40]
              refine MG.ld16 (by omega) (by omega) (fun er => ?_)
              try rw [er]
              clear er
              rw [G16]
              refine ⟨MG.k0, ?_⟩
              try rw [MG.r41]
              refine MG.as17 (by omega) (by omega) (fun h117 M117 => ?_)
              refine ⟨M117.k0, ?_⟩
              try rw [M117.r41]
              refine M117.as17 (by omega) (by omega) (fun h127 M127 => ?_)
              refine ⟨M127.k0, ?_⟩
              try rw [M127.r41]
              refine M127.as17 (by omega) (by omega) (fun h138 M138 => ?_)
              refine ⟨M138.k0, ?_⟩
              try rw [M138.r41]
              refine M138.as17 (by omega) (by omega) (fun h149 M149 => ?_)
              refine ⟨M149.k0, ?_⟩
              try rw [M149.r40]
              refine M149.ld16 (by omega) (by omega) (fun er => ?_)
              try rw [er]
              clear er
              rw [dst_row (by decide), dst_row (by decide), dst_row (by decide), dst_row (by decide), G16]
              refine M149.as16 (by omega) (by omega) (fun h159 M159 => ?_)
              refine H _ _ rfl (M159.castD ?_)
              unfold laD lap lav
              rw [← hG, if_pos c92, ← ekk, ← hC, ← hE]
              first
              | (rw [if_pos (by omega), if_pos (by omega)]; done)
              | (rw [if_neg (by omega), if_neg (by omega)]; done)
            · refine H _ _ rfl (MG.castD ?_)
              unfold laD
              rw [← hG, if_neg (by omega)]
    · refine ⟨MF.k0, ?_⟩
      refine S_X7_failsIf MF (by omega) (by exact PF.w) (fun x44 h44 e44 M44 => ?_)
      subst e44
      obtain ⟨A, hA⟩ : ∃ Z, Z = laA D g := ⟨_, rfl⟩
      have MA := M44.castD (D' := A) (by rw [hA]; unfold laA fiD; rw [← hF]; (repeat' split) <;> first | rfl | (exfalso; omega))
      have PA : PR A := by rw [hA]; exact (ST_laA P g).P
      have PAw := PA.w
      refine ⟨MA.k0, ?_⟩
      refine S_X7_goesOn MA PA (fun x48 h48 e48 M48 => ?_)
      subst e48
      obtain ⟨B, hB⟩ : ∃ Z, Z = laB D g := ⟨_, rfl⟩
      have MB := M48.castD (D' := B) (by rw [hB]; unfold laB; rw [← hA])
      have PB : PR B := by rw [hB]; exact (ST_laB P g).P
      have PBw := PB.w
      have SB : ST D B := by rw [hB]; exact ST_laB P g
      have B31 : B 0 31 = D 0 31 := SB.f (by decide)
      have KB : KP B := SB.K hK
      obtain ⟨k1, k2, k3, k4⟩ := id KB
      refine ⟨MB.k0, ?_⟩
      refine S_X7_kindHere MB PB (by omega) (by exact k3) (fun x52 h52 e52 M52 => ?_)
      subst e52
      rw [B31] at M52
      rw [B31]
      obtain ⟨C, hC⟩ : ∃ Z, Z = laC D g := ⟨_, rfl⟩
      have MC := M52.castD (D' := C) (by rw [hC]; unfold laC; rw [← hB])
      have PC : PR C := by rw [hC]; exact (ST_laC P g).P
      have PCw := PC.w
      have SC : ST D C := by rw [hC]; exact ST_laC P g
      have C32 : C 0 32 = D 0 32 := SC.f (by decide)
      have KC : KP C := SC.K hK
      obtain ⟨j1, j2, j3, j4⟩ := id KC
      obtain ⟨k, ekk⟩ : ∃ z, z = lak D g := ⟨_, rfl⟩
      have ek2 : nhV 11 (D 0 31) B = k := by rw [ekk]; unfold lak; rw [← hB]
      rw [ek2]
      refine ⟨ir (by omega) (by omega), fun c57 => ?_, fun c57 => ?_⟩
      · refine ⟨MC.k0, ?_⟩
        refine S_X7_programHere MC PC (by omega) (by exact j4) (fun x61 h61 e61 M61 => ?_)
        subst e61
        rw [C32] at M61
        rw [C32]
        obtain ⟨E, hE⟩ : ∃ Z, Z = laE D g := ⟨_, rfl⟩
        have ME := M61.castD (D' := E) (by rw [hE]; unfold laE; rw [← hC]; first | (rw [if_pos (by omega)]; done) | (rw [if_neg (by omega)]; done))
        have PE : PR E := by rw [hE]; exact (ST_laE P g).P
        have PEw := PE.w
        refine ⟨ir (by omega) (by omega), fun c71 => ?_, fun c71 => ?_⟩
        · refine ⟨ME.k0, ?_⟩
          refine S_X7_takes ME PE (by omega) (fun x79 h79 e79 M79 => ?_)
          subst e79
          obtain ⟨G, hG⟩ : ∃ Z, Z = laG D g := ⟨_, rfl⟩
          have MG := M79.castD (D' := G) (by rw [hG]; unfold laG; rw [← hE]; first | (rw [if_pos (by omega)]; done) | (rw [if_neg (by omega)]; done))
          have PG : PR G := by rw [hG]; exact (ST_laG P g).P
          have PGw := PG.w
          have SG : ST D G := by rw [hG]; exact ST_laG P g
          have G16 : G 16 g = D 16 g := by rw [SG.r (by decide)]
          refine ⟨MG.k0, ?_⟩
          try rw [MG.f25]
          refine ⟨ir (by omega) (by omega), fun c92 => ?_, fun c92 => ?_⟩
          · have rm := (la_room (D := D) (g := g) (by rw [← hG]; exact c92)).2
            refine ⟨MG.k0, ?_⟩
            try rw [MG.r40]
            refine MG.ld16 (by omega) (by omega) (fun er => ?_)
            try rw [er]
            clear er
            rw [G16]
            refine ⟨MG.k0, ?_⟩
            try rw [MG.r41]
            refine MG.as17 (by omega) (by omega) (fun h117 M117 => ?_)
            refine ⟨M117.k0, ?_⟩
            try rw [M117.r41]
            refine M117.as17 (by omega) (by omega) (fun h127 M127 => ?_)
            refine ⟨M127.k0, ?_⟩
            try rw [M127.r41]
            refine M127.as17 (by omega) (by omega) (fun h138 M138 => ?_)
            refine ⟨M138.k0, ?_⟩
            try rw [M138.r41]
            refine M138.as17 (by omega) (by omega) (fun h149 M149 => ?_)
            refine ⟨M149.k0, ?_⟩
            try rw [M149.r40]
            refine M149.ld16 (by omega) (by omega) (fun er => ?_)
            try rw [er]
            clear er
            rw [dst_row (by decide), dst_row (by decide), dst_row (by decide), dst_row (by decide), G16]
            refine M149.as16 (by omega) (by omega) (fun h159 M159 => ?_)
            refine H _ _ rfl (M159.castD ?_)
            unfold laD lap lav
            rw [← hG, if_pos c92, ← ekk, ← hC, ← hE]
            first
            | (rw [if_pos (by omega), if_pos (by omega)]; done)
            | (rw [if_neg (by omega), if_neg (by omega)]; done)
          · refine H _ _ rfl (MG.castD ?_)
            unfold laD
            rw [← hG, if_neg (by omega)]
        · exfalso; omega
      · obtain ⟨E, hE⟩ : ∃ Z, Z = laE D g := ⟨_, rfl⟩
        have ME := MC.castD (D' := E) (by rw [hE]; unfold laE; rw [← hC]; first | (rw [if_pos (by omega)]; done) | (rw [if_neg (by omega)]; done))
        have PE : PR E := by rw [hE]; exact (ST_laE P g).P
        have PEw := PE.w
        refine ⟨ir (by omega) (by omega), fun c71 => ?_, fun c71 => ?_⟩
        · exfalso; omega
        · obtain ⟨G, hG⟩ : ∃ Z, Z = laG D g := ⟨_, rfl⟩
          have MG := ME.castD (D' := G) (by rw [hG]; unfold laG; rw [← hE]; first | (rw [if_pos (by omega)]; done) | (rw [if_neg (by omega)]; done))
          have PG : PR G := by rw [hG]; exact (ST_laG P g).P
          have PGw := PG.w
          have SG : ST D G := by rw [hG]; exact ST_laG P g
          have G16 : G 16 g = D 16 g := by rw [SG.r (by decide)]
          refine ⟨MG.k0, ?_⟩
          try rw [MG.f25]
          refine ⟨ir (by omega) (by omega), fun c92 => ?_, fun c92 => ?_⟩
          · have rm := (la_room (D := D) (g := g) (by rw [← hG]; exact c92)).2
            refine ⟨MG.k0, ?_⟩
            try rw [MG.r40]
            refine MG.ld16 (by omega) (by omega) (fun er => ?_)
            try rw [er]
            clear er
            rw [G16]
            refine ⟨MG.k0, ?_⟩
            try rw [MG.r41]
            refine MG.as17 (by omega) (by omega) (fun h117 M117 => ?_)
            refine ⟨M117.k0, ?_⟩
            try rw [M117.r41]
            refine M117.as17 (by omega) (by omega) (fun h127 M127 => ?_)
            refine ⟨M127.k0, ?_⟩
            try rw [M127.r41]
            refine M127.as17 (by omega) (by omega) (fun h138 M138 => ?_)
            refine ⟨M138.k0, ?_⟩
            try rw [M138.r41]
            refine M138.as17 (by omega) (by omega) (fun h149 M149 => ?_)
            refine ⟨M149.k0, ?_⟩
            try rw [M149.r40]
            refine M149.ld16 (by omega) (by omega) (fun er => ?_)
            try rw [er]
            clear er
            rw [dst_row (by decide), dst_row (by decide), dst_row (by decide), dst_row (by decide), G16]
            refine M149.as16 (by omega) (by omega) (fun h159 M159 => ?_)
            refine H _ _ rfl (M159.castD ?_)
            unfold laD lap lav
            rw [← hG, if_pos c92, ← ekk, ← hC, ← hE]
            first
            | (rw [if_pos (by omega), if_pos (by omega)]; done)
            | (rw [if_neg (by omega), if_neg (by omega)]; done)
          · refine H _ _ rfl (MG.castD ?_)
            unfold laD
            rw [← hG, if_neg (by omega)]
  · refine ⟨M.k0, ?_⟩
    refine S_X7_failsIf M (by omega) (by exact P.w) (fun x17 h17 e17 M17 => ?_)
    subst e17
    obtain ⟨F, hF⟩ : ∃ Z, Z = laF D := ⟨_, rfl⟩
    have MF := M17.castD (D' := F) (by rw [hF]; unfold laF fiD; (repeat' split) <;> first | rfl | (exfalso; omega))
    have PF : PR F := by rw [hF]; exact (ST_laF P).P
    have PFw := PF.w
    have SF : ST D F := by rw [hF]; exact ST_laF P
    have F16 : F 16 g = D 16 g := by rw [SF.r (by decide)]
    refine ⟨MF.k0, ?_⟩
    try rw [MF.f25]
    refine ⟨ir (by omega) (by omega), fun c25 => ?_, fun c25 => ?_⟩
    · refine ⟨MF.k0, ?_⟩
      try rw [MF.r40]
      refine MF.ld16 (by omega) (by omega) (fun er => ?_)
      try rw [er]
      clear er
      refine ⟨ir (by omega) (by omega), ir (by omega) (by omega), fun c35 => ?_, fun c35 => ?_⟩
      · refine ⟨MF.k0, ?_⟩
        refine S_X7_failsIf MF (by omega) (by exact PF.w) (fun x44 h44 e44 M44 => ?_)
        subst e44
        obtain ⟨A, hA⟩ : ∃ Z, Z = laA D g := ⟨_, rfl⟩
        have MA := M44.castD (D' := A) (by rw [hA]; unfold laA fiD; rw [← hF]; (repeat' split) <;> first | rfl | (exfalso; omega))
        have PA : PR A := by rw [hA]; exact (ST_laA P g).P
        have PAw := PA.w
        refine ⟨MA.k0, ?_⟩
        refine S_X7_goesOn MA PA (fun x48 h48 e48 M48 => ?_)
        subst e48
        obtain ⟨B, hB⟩ : ∃ Z, Z = laB D g := ⟨_, rfl⟩
        have MB := M48.castD (D' := B) (by rw [hB]; unfold laB; rw [← hA])
        have PB : PR B := by rw [hB]; exact (ST_laB P g).P
        have PBw := PB.w
        have SB : ST D B := by rw [hB]; exact ST_laB P g
        have B31 : B 0 31 = D 0 31 := SB.f (by decide)
        have KB : KP B := SB.K hK
        obtain ⟨k1, k2, k3, k4⟩ := id KB
        refine ⟨MB.k0, ?_⟩
        refine S_X7_kindHere MB PB (by omega) (by exact k3) (fun x52 h52 e52 M52 => ?_)
        subst e52
        rw [B31] at M52
        rw [B31]
        obtain ⟨C, hC⟩ : ∃ Z, Z = laC D g := ⟨_, rfl⟩
        have MC := M52.castD (D' := C) (by rw [hC]; unfold laC; rw [← hB])
        have PC : PR C := by rw [hC]; exact (ST_laC P g).P
        have PCw := PC.w
        have SC : ST D C := by rw [hC]; exact ST_laC P g
        have C32 : C 0 32 = D 0 32 := SC.f (by decide)
        have KC : KP C := SC.K hK
        obtain ⟨j1, j2, j3, j4⟩ := id KC
        obtain ⟨k, ekk⟩ : ∃ z, z = lak D g := ⟨_, rfl⟩
        have ek2 : nhV 11 (D 0 31) B = k := by rw [ekk]; unfold lak; rw [← hB]
        rw [ek2]
        refine ⟨ir (by omega) (by omega), fun c57 => ?_, fun c57 => ?_⟩
        · refine ⟨MC.k0, ?_⟩
          refine S_X7_programHere MC PC (by omega) (by exact j4) (fun x61 h61 e61 M61 => ?_)
          subst e61
          rw [C32] at M61
          rw [C32]
          obtain ⟨E, hE⟩ : ∃ Z, Z = laE D g := ⟨_, rfl⟩
          have ME := M61.castD (D' := E) (by rw [hE]; unfold laE; rw [← hC]; first | (rw [if_pos (by omega)]; done) | (rw [if_neg (by omega)]; done))
          have PE : PR E := by rw [hE]; exact (ST_laE P g).P
          have PEw := PE.w
          refine ⟨ir (by omega) (by omega), fun c71 => ?_, fun c71 => ?_⟩
          · refine ⟨ME.k0, ?_⟩
            refine S_X7_takes ME PE (by omega) (fun x79 h79 e79 M79 => ?_)
            subst e79
            obtain ⟨G, hG⟩ : ∃ Z, Z = laG D g := ⟨_, rfl⟩
            have MG := M79.castD (D' := G) (by rw [hG]; unfold laG; rw [← hE]; first | (rw [if_pos (by omega)]; done) | (rw [if_neg (by omega)]; done))
            have PG : PR G := by rw [hG]; exact (ST_laG P g).P
            have PGw := PG.w
            have SG : ST D G := by rw [hG]; exact ST_laG P g
            have G16 : G 16 g = D 16 g := by rw [SG.r (by decide)]
            refine ⟨MG.k0, ?_⟩
            try rw [MG.f25]
            refine ⟨ir (by omega) (by omega), fun c92 => ?_, fun c92 => ?_⟩
            · have rm := (la_room (D := D) (g := g) (by rw [← hG]; exact c92)).2
              refine ⟨MG.k0, ?_⟩
              try rw [MG.r40]
              refine MG.ld16 (by omega) (by omega) (fun er => ?_)
              try rw [er]
              clear er
              rw [G16]
              refine ⟨MG.k0, ?_⟩
              try rw [MG.r41]
              refine MG.as17 (by omega) (by omega) (fun h117 M117 => ?_)
              refine ⟨M117.k0, ?_⟩
              try rw [M117.r41]
              refine M117.as17 (by omega) (by omega) (fun h127 M127 => ?_)
              refine ⟨M127.k0, ?_⟩
              try rw [M127.r41]
              refine M127.as17 (by omega) (by omega) (fun h138 M138 => ?_)
              refine ⟨M138.k0, ?_⟩
              try rw [M138.r41]
              refine M138.as17 (by omega) (by omega) (fun h149 M149 => ?_)
              refine ⟨M149.k0, ?_⟩
              try rw [M149.r40]
              refine M149.ld16 (by omega) (by omega) (fun er => ?_)
              try rw [er]
              clear er
              rw [dst_row (by decide), dst_row (by decide), dst_row (by decide), dst_row (by decide), G16]
              refine M149.as16 (by omega) (by omega) (fun h159 M159 => ?_)
              refine H _ _ rfl (M159.castD ?_)
              unfold laD lap lav
              rw [← hG, if_pos c92, ← ekk, ← hC, ← hE]
              first
              | (rw [if_pos (by omega), if_pos (by omega)]; done)
              | (rw [if_neg (by omega), if_neg (by omega)]; done)
            · refine H _ _ rfl (MG.castD ?_)
              unfold laD
              rw [← hG, if_neg (by omega)]
          · exfalso; omega
        · obtain ⟨E, hE⟩ : ∃ Z, Z = laE D g := ⟨_, rfl⟩
          have ME := MC.castD (D' := E) (by rw [hE]; unfold laE; rw [← hC]; first | (rw [if_pos (by omega)]; done) | (rw [if_neg (by omega)]; done))
          have PE : PR E := by rw [hE]; exact (ST_laE P g).P
          have PEw := PE.w
          refine ⟨ir (by omega) (by omega), fun c71 => ?_, fun c71 => ?_⟩
          · exfalso; omega
          · obtain ⟨G, hG⟩ : ∃ Z, Z = laG D g := ⟨_, rfl⟩
            have MG := ME.castD (D' := G) (by rw [hG]; unfold laG; rw [← hE]; first | (rw [if_pos (by omega)]; done) | (rw [if_neg (by omega)]; done))
            have PG : PR G := by rw [hG]; exact (ST_laG P g).P
            have PGw := PG.w
            have SG : ST D G := by rw [hG]; exact ST_laG P g
            have G16 : G 16 g = D 16 g := by rw [SG.r (by decide)]
            refine ⟨MG.k0, ?_⟩
            try rw [MG.f25]
            refine ⟨ir (by omega) (by omega), fun c92 => ?_, fun c92 => ?_⟩
            · have rm := (la_room (D := D) (g := g) (by rw [← hG]; exact c92)).2
              refine ⟨MG.k0, ?_⟩
              try rw [MG.r40]
              refine MG.ld16 (by omega) (by omega) (fun er => ?_)
              try rw [er]
              clear er
              rw [G16]
              refine ⟨MG.k0, ?_⟩
              try rw [MG.r41]
              refine MG.as17 (by omega) (by omega) (fun h117 M117 => ?_)
              refine ⟨M117.k0, ?_⟩
              try rw [M117.r41]
              refine M117.as17 (by omega) (by omega) (fun h127 M127 => ?_)
              refine ⟨M127.k0, ?_⟩
              try rw [M127.r41]
              refine M127.as17 (by omega) (by omega) (fun h138 M138 => ?_)
              refine ⟨M138.k0, ?_⟩
              try rw [M138.r41]
              refine M138.as17 (by omega) (by omega) (fun h149 M149 => ?_)
              refine ⟨M149.k0, ?_⟩
              try rw [M149.r40]
              refine M149.ld16 (by omega) (by omega) (fun er => ?_)
              try rw [er]
              clear er
              rw [dst_row (by decide), dst_row (by decide), dst_row (by decide), dst_row (by decide), G16]
              refine M149.as16 (by omega) (by omega) (fun h159 M159 => ?_)
              refine H _ _ rfl (M159.castD ?_)
              unfold laD lap lav
              rw [← hG, if_pos c92, ← ekk, ← hC, ← hE]
              first
              | (rw [if_pos (by omega), if_pos (by omega)]; done)
              | (rw [if_neg (by omega), if_neg (by omega)]; done)
            · refine H _ _ rfl (MG.castD ?_)
              unfold laD
              rw [← hG, if_neg (by omega)]
      · refine ⟨MF.k0, ?_⟩
        refine S_X7_failsIf MF (by omega) (by exact PF.w) (fun x44 h44 e44 M44 => ?_)
        subst e44
        obtain ⟨A, hA⟩ : ∃ Z, Z = laA D g := ⟨_, rfl⟩
        have MA := M44.castD (D' := A) (by rw [hA]; unfold laA fiD; rw [← hF]; (repeat' split) <;> first | rfl | (exfalso; omega))
        have PA : PR A := by rw [hA]; exact (ST_laA P g).P
        have PAw := PA.w
        refine ⟨MA.k0, ?_⟩
        refine S_X7_goesOn MA PA (fun x48 h48 e48 M48 => ?_)
        subst e48
        obtain ⟨B, hB⟩ : ∃ Z, Z = laB D g := ⟨_, rfl⟩
        have MB := M48.castD (D' := B) (by rw [hB]; unfold laB; rw [← hA])
        have PB : PR B := by rw [hB]; exact (ST_laB P g).P
        have PBw := PB.w
        have SB : ST D B := by rw [hB]; exact ST_laB P g
        have B31 : B 0 31 = D 0 31 := SB.f (by decide)
        have KB : KP B := SB.K hK
        obtain ⟨k1, k2, k3, k4⟩ := id KB
        refine ⟨MB.k0, ?_⟩
        refine S_X7_kindHere MB PB (by omega) (by exact k3) (fun x52 h52 e52 M52 => ?_)
        subst e52
        rw [B31] at M52
        rw [B31]
        obtain ⟨C, hC⟩ : ∃ Z, Z = laC D g := ⟨_, rfl⟩
        have MC := M52.castD (D' := C) (by rw [hC]; unfold laC; rw [← hB])
        have PC : PR C := by rw [hC]; exact (ST_laC P g).P
        have PCw := PC.w
        have SC : ST D C := by rw [hC]; exact ST_laC P g
        have C32 : C 0 32 = D 0 32 := SC.f (by decide)
        have KC : KP C := SC.K hK
        obtain ⟨j1, j2, j3, j4⟩ := id KC
        obtain ⟨k, ekk⟩ : ∃ z, z = lak D g := ⟨_, rfl⟩
        have ek2 : nhV 11 (D 0 31) B = k := by rw [ekk]; unfold lak; rw [← hB]
        rw [ek2]
        refine ⟨ir (by omega) (by omega), fun c57 => ?_, fun c57 => ?_⟩
        · refine ⟨MC.k0, ?_⟩
          refine S_X7_programHere MC PC (by omega) (by exact j4) (fun x61 h61 e61 M61 => ?_)
          subst e61
          rw [C32] at M61
          rw [C32]
          obtain ⟨E, hE⟩ : ∃ Z, Z = laE D g := ⟨_, rfl⟩
          have ME := M61.castD (D' := E) (by rw [hE]; unfold laE; rw [← hC]; first | (rw [if_pos (by omega)]; done) | (rw [if_neg (by omega)]; done))
          have PE : PR E := by rw [hE]; exact (ST_laE P g).P
          have PEw := PE.w
          refine ⟨ir (by omega) (by omega), fun c71 => ?_, fun c71 => ?_⟩
          · refine ⟨ME.k0, ?_⟩
            refine S_X7_takes ME PE (by omega) (fun x79 h79 e79 M79 => ?_)
            subst e79
            obtain ⟨G, hG⟩ : ∃ Z, Z = laG D g := ⟨_, rfl⟩
            have MG := M79.castD (D' := G) (by rw [hG]; unfold laG; rw [← hE]; first | (rw [if_pos (by omega)]; done) | (rw [if_neg (by omega)]; done))
            have PG : PR G := by rw [hG]; exact (ST_laG P g).P
            have PGw := PG.w
            have SG : ST D G := by rw [hG]; exact ST_laG P g
            have G16 : G 16 g = D 16 g := by rw [SG.r (by decide)]
            refine ⟨MG.k0, ?_⟩
            try rw [MG.f25]
            refine ⟨ir (by omega) (by omega), fun c92 => ?_, fun c92 => ?_⟩
            · have rm := (la_room (D := D) (g := g) (by rw [← hG]; exact c92)).2
              refine ⟨MG.k0, ?_⟩
              try rw [MG.r40]
              refine MG.ld16 (by omega) (by omega) (fun er => ?_)
              try rw [er]
              clear er
              rw [G16]
              refine ⟨MG.k0, ?_⟩
              try rw [MG.r41]
              refine MG.as17 (by omega) (by omega) (fun h117 M117 => ?_)
              refine ⟨M117.k0, ?_⟩
              try rw [M117.r41]
              refine M117.as17 (by omega) (by omega) (fun h127 M127 => ?_)
              refine ⟨M127.k0, ?_⟩
              try rw [M127.r41]
              refine M127.as17 (by omega) (by omega) (fun h138 M138 => ?_)
              refine ⟨M138.k0, ?_⟩
              try rw [M138.r41]
              refine M138.as17 (by omega) (by omega) (fun h149 M149 => ?_)
              refine ⟨M149.k0, ?_⟩
              try rw [M149.r40]
              refine M149.ld16 (by omega) (by omega) (fun er => ?_)
              try rw [er]
              clear er
              rw [dst_row (by decide), dst_row (by decide), dst_row (by decide), dst_row (by decide), G16]
              refine M149.as16 (by omega) (by omega) (fun h159 M159 => ?_)
              refine H _ _ rfl (M159.castD ?_)
              unfold laD lap lav
              rw [← hG, if_pos c92, ← ekk, ← hC, ← hE]
              first
              | (rw [if_pos (by omega), if_pos (by omega)]; done)
              | (rw [if_neg (by omega), if_neg (by omega)]; done)
            · refine H _ _ rfl (MG.castD ?_)
              unfold laD
              rw [← hG, if_neg (by omega)]
          · exfalso; omega
        · obtain ⟨E, hE⟩ : ∃ Z, Z = laE D g := ⟨_, rfl⟩
          have ME := MC.castD (D' := E) (by rw [hE]; unfold laE; rw [← hC]; first | (rw [if_pos (by omega)]; done) | (rw [if_neg (by omega)]; done))
          have PE : PR E := by rw [hE]; exact (ST_laE P g).P
          have PEw := PE.w
          refine ⟨ir (by omega) (by omega), fun c71 => ?_, fun c71 => ?_⟩
          · exfalso; omega
          · obtain ⟨G, hG⟩ : ∃ Z, Z = laG D g := ⟨_, rfl⟩
            have MG := ME.castD (D' := G) (by rw [hG]; unfold laG; rw [← hE]; first | (rw [if_pos (by omega)]; done) | (rw [if_neg (by omega)]; done))
            have PG : PR G := by rw [hG]; exact (ST_laG P g).P
            have PGw := PG.w
            have SG : ST D G := by rw [hG]; exact ST_laG P g
            have G16 : G 16 g = D 16 g := by rw [SG.r (by decide)]
            refine ⟨MG.k0, ?_⟩
            try rw [MG.f25]
            refine ⟨ir (by omega) (by omega), fun c92 => ?_, fun c92 => ?_⟩
            · have rm := (la_room (D := D) (g := g) (by rw [← hG]; exact c92)).2
              refine ⟨MG.k0, ?_⟩
              try rw [MG.r40]
              refine MG.ld16 (by omega) (by omega) (fun er => ?_)
              try rw [er]
              clear er
              rw [G16]
              refine ⟨MG.k0, ?_⟩
              try rw [MG.r41]
              refine MG.as17 (by omega) (by omega) (fun h117 M117 => ?_)
              refine ⟨M117.k0, ?_⟩
              try rw [M117.r41]
              refine M117.as17 (by omega) (by omega) (fun h127 M127 => ?_)
              refine ⟨M127.k0, ?_⟩
              try rw [M127.r41]
              refine M127.as17 (by omega) (by omega) (fun h138 M138 => ?_)
              refine ⟨M138.k0, ?_⟩
              try rw [M138.r41]
              refine M138.as17 (by omega) (by omega) (fun h149 M149 => ?_)
              refine ⟨M149.k0, ?_⟩
              try rw [M149.r40]
              refine M149.ld16 (by omega) (by omega) (fun er => ?_)
              try rw [er]
              clear er
              rw [dst_row (by decide), dst_row (by decide), dst_row (by decide), dst_row (by decide), G16]
              refine M149.as16 (by omega) (by omega) (fun h159 M159 => ?_)
              refine H _ _ rfl (M159.castD ?_)
              unfold laD lap lav
              rw [← hG, if_pos c92, ← ekk, ← hC, ← hE]
              first
              | (rw [if_pos (by omega), if_pos (by omega)]; done)
              | (rw [if_neg (by omega), if_neg (by omega)]; done)
            · refine H _ _ rfl (MG.castD ?_)
              unfold laD
              rw [← hG, if_neg (by omega)]
    · refine ⟨MF.k0, ?_⟩
      refine S_X7_failsIf MF (by omega) (by exact PF.w) (fun x44 h44 e44 M44 => ?_)
      subst e44
      obtain ⟨A, hA⟩ : ∃ Z, Z = laA D g := ⟨_, rfl⟩
      have MA := M44.castD (D' := A) (by rw [hA]; unfold laA fiD; rw [← hF]; (repeat' split) <;> first | rfl | (exfalso; omega))
      have PA : PR A := by rw [hA]; exact (ST_laA P g).P
      have PAw := PA.w
      refine ⟨MA.k0, ?_⟩
      refine S_X7_goesOn MA PA (fun x48 h48 e48 M48 => ?_)
      subst e48
      obtain ⟨B, hB⟩ : ∃ Z, Z = laB D g := ⟨_, rfl⟩
      have MB := M48.castD (D' := B) (by rw [hB]; unfold laB; rw [← hA])
      have PB : PR B := by rw [hB]; exact (ST_laB P g).P
      have PBw := PB.w
      have SB : ST D B := by rw [hB]; exact ST_laB P g
      have B31 : B 0 31 = D 0 31 := SB.f (by decide)
      have KB : KP B := SB.K hK
      obtain ⟨k1, k2, k3, k4⟩ := id KB
      refine ⟨MB.k0, ?_⟩
      refine S_X7_kindHere MB PB (by omega) (by exact k3) (fun x52 h52 e52 M52 => ?_)
      subst e52
      rw [B31] at M52
      rw [B31]
      obtain ⟨C, hC⟩ : ∃ Z, Z = laC D g := ⟨_, rfl⟩
      have MC := M52.castD (D' := C) (by rw [hC]; unfold laC; rw [← hB])
      have PC : PR C := by rw [hC]; exact (ST_laC P g).P
      have PCw := PC.w
      have SC : ST D C := by rw [hC]; exact ST_laC P g
      have C32 : C 0 32 = D 0 32 := SC.f (by decide)
      have KC : KP C := SC.K hK
      obtain ⟨j1, j2, j3, j4⟩ := id KC
      obtain ⟨k, ekk⟩ : ∃ z, z = lak D g := ⟨_, rfl⟩
      have ek2 : nhV 11 (D 0 31) B = k := by rw [ekk]; unfold lak; rw [← hB]
      rw [ek2]
      refine ⟨ir (by omega) (by omega), fun c57 => ?_, fun c57 => ?_⟩
      · refine ⟨MC.k0, ?_⟩
        refine S_X7_programHere MC PC (by omega) (by exact j4) (fun x61 h61 e61 M61 => ?_)
        subst e61
        rw [C32] at M61
        rw [C32]
        obtain ⟨E, hE⟩ : ∃ Z, Z = laE D g := ⟨_, rfl⟩
        have ME := M61.castD (D' := E) (by rw [hE]; unfold laE; rw [← hC]; first | (rw [if_pos (by omega)]; done) | (rw [if_neg (by omega)]; done))
        have PE : PR E := by rw [hE]; exact (ST_laE P g).P
        have PEw := PE.w
        refine ⟨ir (by omega) (by omega), fun c71 => ?_, fun c71 => ?_⟩
        · refine ⟨ME.k0, ?_⟩
          refine S_X7_takes ME PE (by omega) (fun x79 h79 e79 M79 => ?_)
          subst e79
          obtain ⟨G, hG⟩ : ∃ Z, Z = laG D g := ⟨_, rfl⟩
          have MG := M79.castD (D' := G) (by rw [hG]; unfold laG; rw [← hE]; first | (rw [if_pos (by omega)]; done) | (rw [if_neg (by omega)]; done))
          have PG : PR G := by rw [hG]; exact (ST_laG P g).P
          have PGw := PG.w
          have SG : ST D G := by rw [hG]; exact ST_laG P g
          have G16 : G 16 g = D 16 g := by rw [SG.r (by decide)]
          refine ⟨MG.k0, ?_⟩
          try rw [MG.f25]
          refine ⟨ir (by omega) (by omega), fun c92 => ?_, fun c92 => ?_⟩
          · have rm := (la_room (D := D) (g := g) (by rw [← hG]; exact c92)).2
            refine ⟨MG.k0, ?_⟩
            try rw [MG.r40]
            refine MG.ld16 (by omega) (by omega) (fun er => ?_)
            try rw [er]
            clear er
            rw [G16]
            refine ⟨MG.k0, ?_⟩
            try rw [MG.r41]
            refine MG.as17 (by omega) (by omega) (fun h117 M117 => ?_)
            refine ⟨M117.k0, ?_⟩
            try rw [M117.r41]
            refine M117.as17 (by omega) (by omega) (fun h127 M127 => ?_)
            refine ⟨M127.k0, ?_⟩
            try rw [M127.r41]
            refine M127.as17 (by omega) (by omega) (fun h138 M138 => ?_)
            refine ⟨M138.k0, ?_⟩
            try rw [M138.r41]
            refine M138.as17 (by omega) (by omega) (fun h149 M149 => ?_)
            refine ⟨M149.k0, ?_⟩
            try rw [M149.r40]
            refine M149.ld16 (by omega) (by omega) (fun er => ?_)
            try rw [er]
            clear er
            rw [dst_row (by decide), dst_row (by decide), dst_row (by decide), dst_row (by decide), G16]
            refine M149.as16 (by omega) (by omega) (fun h159 M159 => ?_)
            refine H _ _ rfl (M159.castD ?_)
            unfold laD lap lav
            rw [← hG, if_pos c92, ← ekk, ← hC, ← hE]
            first
            | (rw [if_pos (by omega), if_pos (by omega)]; done)
            | (rw [if_neg (by omega), if_neg (by omega)]; done)
          · refine H _ _ rfl (MG.castD ?_)
            unfold laD
            rw [← hG, if_neg (by omega)]
        · exfalso; omega
      · obtain ⟨E, hE⟩ : ∃ Z, Z = laE D g := ⟨_, rfl⟩
        have ME := MC.castD (D' := E) (by rw [hE]; unfold laE; rw [← hC]; first | (rw [if_pos (by omega)]; done) | (rw [if_neg (by omega)]; done))
        have PE : PR E := by rw [hE]; exact (ST_laE P g).P
        have PEw := PE.w
        refine ⟨ir (by omega) (by omega), fun c71 => ?_, fun c71 => ?_⟩
        · exfalso; omega
        · obtain ⟨G, hG⟩ : ∃ Z, Z = laG D g := ⟨_, rfl⟩
          have MG := ME.castD (D' := G) (by rw [hG]; unfold laG; rw [← hE]; first | (rw [if_pos (by omega)]; done) | (rw [if_neg (by omega)]; done))
          have PG : PR G := by rw [hG]; exact (ST_laG P g).P
          have PGw := PG.w
          have SG : ST D G := by rw [hG]; exact ST_laG P g
          have G16 : G 16 g = D 16 g := by rw [SG.r (by decide)]
          refine ⟨MG.k0, ?_⟩
          try rw [MG.f25]
          refine ⟨ir (by omega) (by omega), fun c92 => ?_, fun c92 => ?_⟩
          · have rm := (la_room (D := D) (g := g) (by rw [← hG]; exact c92)).2
            refine ⟨MG.k0, ?_⟩
            try rw [MG.r40]
            refine MG.ld16 (by omega) (by omega) (fun er => ?_)
            try rw [er]
            clear er
            rw [G16]
            refine ⟨MG.k0, ?_⟩
            try rw [MG.r41]
            refine MG.as17 (by omega) (by omega) (fun h117 M117 => ?_)
            refine ⟨M117.k0, ?_⟩
            try rw [M117.r41]
            refine M117.as17 (by omega) (by omega) (fun h127 M127 => ?_)
            refine ⟨M127.k0, ?_⟩
            try rw [M127.r41]
            refine M127.as17 (by omega) (by omega) (fun h138 M138 => ?_)
            refine ⟨M138.k0, ?_⟩
            try rw [M138.r41]
            refine M138.as17 (by omega) (by omega) (fun h149 M149 => ?_)
            refine ⟨M149.k0, ?_⟩
            try rw [M149.r40]
            refine M149.ld16 (by omega) (by omega) (fun er => ?_)
            try rw [er]
            clear er
            rw [dst_row (by decide), dst_row (by decide), dst_row (by decide), dst_row (by decide), G16]
            refine M149.as16 (by omega) (by omega) (fun h159 M159 => ?_)
            refine H _ _ rfl (M159.castD ?_)
            unfold laD lap lav
            rw [← hG, if_pos c92, ← ekk, ← hC, ← hE]
            first
            | (rw [if_pos (by omega), if_pos (by omega)]; done)
            | (rw [if_neg (by omega), if_neg (by omega)]; done)
          · refine H _ _ rfl (MG.castD ?_)
            unfold laD
            rw [← hG, if_neg (by omega)]
theorem L_X7_handleLine_94 {d b : Nat} {h0 : PH} {s : Int → Int} {t : Int} {Q : Int → PH → Prop} {X : Nat → PH → Prop} {p k g tk : Int} (hg : 0 ≤ g ∧ g < 48) (hW0 : WRD h0) (hb : 35 ≤ b) : ∀ (n : Nat) (D : Nat → Int → Int) (h : PH), (Mt b h0 h D s t) → (PR D) → (RI D) → (0 < D 15 g) → (D 0 25 = 0 → D 16 g + n = 5) → (∀ (x : Int) h', x = 0 → Mt b h0 h' (lal g n D) s t → Q x h') → WP k_X7_handleLine [] (RUN GQ (d + 9)) 0 0 (d + 10) Q X 94 [some (pA b), some (pI p), some (pI k), some (pI g), some (pI tk)] [] h 0 0 := by
  intro n
  induction n with
  | zero =>
    intro D h M P J h15 hn0 H
    have Pw := P.w
    have P3 := P.2.2.1
    have b2 := (J.a hg.1 hg.2).2.1
    refine WP.of (RUN.mono GQ _) (cuts := [94]) (n := 400) (v_X7_handleLine_94 _ _ _ _ _ _ _ _ ?_)
    refine ⟨M.k0, ?_⟩
    try rw [M.f25]
    refine ⟨ir (by omega) (by omega), fun c98 => ?_, fun c98 => ?_⟩
    · exfalso; omega
    · first
      | (exfalso; omega)
      | exact H _ _ rfl M
      | (rw [lal, if_neg (by omega)] at H; exact H _ _ rfl M)
  | succ n ih =>
    intro D h M P J h15 hn0 H
    have Pw := P.w
    have P3 := P.2.2.1
    have b2 := (J.a hg.1 hg.2).2.1
    have l16 := la_16 P g
    have l15 := la_15 P g
    have l0 : laD D g 0 25 = laG D g 0 25 := by rw [la_0]
    refine WP.of (RUN.mono GQ _) (cuts := [94]) (n := 400) (v_X7_handleLine_94 _ _ _ _ _ _ _ _ ?_)
    refine ⟨M.k0, ?_⟩
    try rw [M.f25]
    refine ⟨ir (by omega) (by omega), fun c98 => ?_, fun c98 => ?_⟩
    · refine ⟨M.k0, ?_⟩
      try rw [M.f23]
      refine ⟨ir (by omega) (by omega), ir (by omega) (by omega), fun c106 => ?_, fun c106 => ?_⟩
      · refine ⟨M.k0, ?_⟩
        refine S_X7_act M P (by exact J.K) (by exact hg) (by exact (J.a hg.1 hg.2).2.1) (by exact hW0.of M.2.1 hb) (fun x111 h111 e111 M111 => ?_)
        subst e111
        refine ih _ _ M111 (P.la g) (J.la P hg h15) (by rw [l15]; exact h15) (by intro z; have := l16.1; rw [if_pos (by omega)] at this; omega) ?_
        rw [lal, if_pos ⟨c98, c106⟩] at H
        exact H
      · first
        | (exfalso; omega)
        | exact H _ _ rfl M
        | (rw [lal, if_neg (by omega)] at H; exact H _ _ rfl M)
    · first
      | (exfalso; omega)
      | exact H _ _ rfl M
      | (rw [lal, if_neg (by omega)] at H; exact H _ _ rfl M)
theorem S_X7_handleLine {d b : Nat} {h0 h : PH} {D : Nat → Int → Int} {s : Int → Int} {t : Int} {Q : Int → PH → Prop} {X : Nat → PH → Prop} (M : Mt b h0 h D s t) (P : PR D) (I : RI D) (hW0 : WRD h0) (hb : 35 ≤ b) (H : ∀ (x : Int) h', x = 0 → Mt b h0 h' (lnD D) s t → Q x h') : RUN GQ (d + 10) m_X7_handleLine [pA b] h Q X := by
  have Pw := P.w
  have hK := I.K
  rw [e_X7_handleLine]
  refine WP.of (RUN.mono GQ _) (cuts := [94]) (n := 400) (v_X7_handleLine_0 _ _ _ _ _ _ _ _ ?_)
  refine ⟨M.k0, ?_⟩
  refine S_X7_goesOn M P (fun x1 h1 e1 M1 => ?_)
  subst e1
  obtain ⟨G, hG⟩ : ∃ Z, Z = gD D := ⟨_, rfl⟩
  have MG := M1.castD (D' := G) (by rw [hG]; skip)
  have PG : PR G := by rw [hG]; exact P.go
  have PGw := PG.w
  have KG := hK.go
  rw [← hG] at KG
  have G31 : G 0 31 = D 0 31 := by rw [hG]; exact go_0 _ (by decide)
  have G32 : G 0 32 = D 0 32 := by rw [hG]; exact go_0 _ (by decide)
  obtain ⟨k1, k2, k3, k4⟩ := id KG
  refine ⟨MG.k0, ?_⟩
  refine S_X7_programHere MG PG (by omega) (by exact k4) (fun x5 h5 e5 M5 => ?_)
  subst e5
  rw [G32] at M5
  rw [G32]
  obtain ⟨B, hB⟩ : ∃ Z, Z = lhB D := ⟨_, rfl⟩
  have MB := M5.castD (D' := B) (by rw [hB]; unfold lhB; rw [← hG])
  have PB : PR B := by rw [hB]; exact (by unfold lhB; rw [← hG]; exact (PG.nh _ _).go)
  have PBw := PB.w
  have KB : KP B := by rw [hB]; unfold lhB; rw [← hG]; exact (KG.nh _ _).go
  have B31 : B 0 31 = D 0 31 := by rw [hB]; unfold lhB; rw [← hG, go_0 _ (by decide), nh_0 _ _ _ (by decide) (by decide), G31]
  obtain ⟨p, epp⟩ : ∃ z, z = lhp D := ⟨_, rfl⟩
  have ep2 : nhV 12 (D 0 32) G = p := by rw [epp]; unfold lhp; rw [← hG]
  have rp0 := lhp_rng hK
  rw [← epp] at rp0
  rw [ep2]
  obtain ⟨q1, q2, q3, q4⟩ := id KB
  refine ⟨MB.k0, ?_⟩
  try rw [MB.r35]
  refine ⟨MB.k0, ?_⟩
  try rw [MB.f31]
  refine ⟨MB.k0, ?_⟩
  refine S_X7_namedHere_11 MB PB (by omega) (by exact q3) (fun x18 h18 e18 M18 => ?_)
  subst e18
  rw [B31] at M18
  rw [B31]
  obtain ⟨C, hC⟩ : ∃ Z, Z = lhC D := ⟨_, rfl⟩
  have MC := M18.castD (D' := C) (by rw [hC]; unfold lhC; rw [← hB])
  have PC : PR C := by rw [hC]; exact (by unfold lhC; rw [← hB]; exact PB.nh _ _)
  have PCw := PC.w
  obtain ⟨k, ekk⟩ : ∃ z, z = lhk D := ⟨_, rfl⟩
  have ek2 : nhV 11 (D 0 31) B = k := by rw [ekk]; unfold lhk; rw [← hB]
  have rk0 := lhk_rng hK
  rw [← ekk] at rk0
  rw [ek2]
  have C15 : C 15 (8 * p + k) = D 15 (8 * p + k) := by rw [hC, (ST_lhC P).r (by decide)]
  have a0 := (I.a (g := 8 * p + k) (by omega) (by omega))
  have a1 := a0.1
  refine ⟨MC.k0, ?_⟩
  try rw [MC.f25]
  refine ⟨ir (by omega) (by omega), fun c34 => ?_, fun c34 => ?_⟩
  · refine ⟨MC.k0, ?_⟩
    try rw [MC.r39]
    refine MC.ld15 (by omega) (by omega) (fun er => ?_)
    try rw [er]
    clear er
    refine ⟨ir (by omega) (by omega), fun c43 => ?_, fun c43 => ?_⟩
    · refine ⟨MC.k0, ?_⟩
      refine S_X7_failsIf MC (by omega) (by exact PC.w) (fun x52 h52 e52 M52 => ?_)
      subst e52
      obtain ⟨E, hE⟩ : ∃ Z, Z = lnE D := ⟨_, rfl⟩
      have ME := M52.castD (D' := E) (by rw [hE]; unfold lnE lng; rw [← hC, ← epp, ← ekk]; unfold fiD; (repeat' split) <;> first | rfl | (exfalso; omega))
      have PE : PR E := by rw [hE]; exact (ST_lnE P).P
      have PEw := PE.w
      refine ⟨ME.k0, ?_⟩
      refine S_X7_goesOn ME PE (fun x56 h56 e56 M56 => ?_)
      subst e56
      obtain ⟨F, hF⟩ : ∃ Z, Z = lnF D := ⟨_, rfl⟩
      have MF := M56.castD (D' := F) (by rw [hF]; unfold lnF; rw [← hE])
      have PF : PR F := by rw [hF]; exact (ST_lnF P).P
      have PFw := PF.w
      refine ⟨MF.k0, ?_⟩
      refine S_X7_takes MF PF (by omega) (fun x63 h63 e63 M63 => ?_)
      subst e63
      obtain ⟨T, hT⟩ : ∃ Z, Z = lnT D := ⟨_, rfl⟩
      have MT := M63.castD (D' := T) (by rw [hT]; unfold lnT; rw [← hF])
      have PT : PR T := by rw [hT]; exact (ST_lnT P).P
      have PTw := PT.w
      have T33 : T 0 33 = D 0 33 := by rw [hT, (ST_lnT P).f (by decide)]
      refine ⟨MT.k0, ?_⟩
      try rw [MT.f25]
      refine ⟨ir (by omega) (by omega), fun c72 => ?_, fun c72 => ?_⟩
      · refine ⟨MT.k0, ?_⟩
        try rw [MT.r39]
        refine MT.as15 (by omega) (by omega) (fun h83 M83 => ?_)
        refine ⟨M83.k0, ?_⟩
        try rw [M83.f33]
        rw [dst_row (by decide), T33]
        refine M83.p33 (fun h91 M91 => ?_)
        obtain ⟨R, hR⟩ : ∃ Z, Z = lnR D := ⟨_, rfl⟩
        have MR := M91.castD (D' := R) (by rw [hR]; unfold lnR lng; rw [← hT, ← hF, ← epp, ← ekk])
        have PRR : PR R := by rw [hR]; exact ((ST_lnT P).P.row _ _ (by decide) (by decide)).f (by decide)
        have PRRw := PRR.w
        have T0 : lnT D 0 25 = 0 := by rw [← hT]; exact c72
        have LR := I.lnR P T0
        have eg : lng D = 8 * p + k := by rw [epp, ekk]; rfl
        rw [← hR, eg] at LR
        have R16 : R 16 = D 16 := by rw [hR]; exact lnR_rows P
        refine L_X7_handleLine_94 (by omega) hW0 hb (5) _ _ MR PRR LR.1 (by exact LR.2.1) (by intro _; rw [R16, LR.2.2]; rfl) ?_
        refine fun x h' e M => H x h' e (M.castD ?_)
        unfold lnD
        rw [if_pos T0, eg, ← hR]
      · refine H _ _ rfl (MT.castD ?_)
        unfold lnD
        rw [← hT, if_neg (by omega)]
    · refine ⟨MC.k0, ?_⟩
      refine S_X7_failsIf MC (by omega) (by exact PC.w) (fun x52 h52 e52 M52 => ?_)
      subst e52
      obtain ⟨E, hE⟩ : ∃ Z, Z = lnE D := ⟨_, rfl⟩
      have ME := M52.castD (D' := E) (by rw [hE]; unfold lnE lng; rw [← hC, ← epp, ← ekk]; unfold fiD; (repeat' split) <;> first | rfl | (exfalso; omega))
      have PE : PR E := by rw [hE]; exact (ST_lnE P).P
      have PEw := PE.w
      refine ⟨ME.k0, ?_⟩
      refine S_X7_goesOn ME PE (fun x56 h56 e56 M56 => ?_)
      subst e56
      obtain ⟨F, hF⟩ : ∃ Z, Z = lnF D := ⟨_, rfl⟩
      have MF := M56.castD (D' := F) (by rw [hF]; unfold lnF; rw [← hE])
      have PF : PR F := by rw [hF]; exact (ST_lnF P).P
      have PFw := PF.w
      refine ⟨MF.k0, ?_⟩
      refine S_X7_takes MF PF (by omega) (fun x63 h63 e63 M63 => ?_)
      subst e63
      obtain ⟨T, hT⟩ : ∃ Z, Z = lnT D := ⟨_, rfl⟩
      have MT := M63.castD (D' := T) (by rw [hT]; unfold lnT; rw [← hF])
      have PT : PR T := by rw [hT]; exact (ST_lnT P).P
      have PTw := PT.w
      have T33 : T 0 33 = D 0 33 := by rw [hT, (ST_lnT P).f (by decide)]
      refine ⟨MT.k0, ?_⟩
      try rw [MT.f25]
      refine ⟨ir (by omega) (by omega), fun c72 => ?_, fun c72 => ?_⟩
      · refine ⟨MT.k0, ?_⟩
        try rw [MT.r39]
        refine MT.as15 (by omega) (by omega) (fun h83 M83 => ?_)
        refine ⟨M83.k0, ?_⟩
        try rw [M83.f33]
        rw [dst_row (by decide), T33]
        refine M83.p33 (fun h91 M91 => ?_)
        obtain ⟨R, hR⟩ : ∃ Z, Z = lnR D := ⟨_, rfl⟩
        have MR := M91.castD (D' := R) (by rw [hR]; unfold lnR lng; rw [← hT, ← hF, ← epp, ← ekk])
        have PRR : PR R := by rw [hR]; exact ((ST_lnT P).P.row _ _ (by decide) (by decide)).f (by decide)
        have PRRw := PRR.w
        have T0 : lnT D 0 25 = 0 := by rw [← hT]; exact c72
        have LR := I.lnR P T0
        have eg : lng D = 8 * p + k := by rw [epp, ekk]; rfl
        rw [← hR, eg] at LR
        have R16 : R 16 = D 16 := by rw [hR]; exact lnR_rows P
        refine L_X7_handleLine_94 (by omega) hW0 hb (5) _ _ MR PRR LR.1 (by exact LR.2.1) (by intro _; rw [R16, LR.2.2]; rfl) ?_
        refine fun x h' e M => H x h' e (M.castD ?_)
        unfold lnD
        rw [if_pos T0, eg, ← hR]
      · refine H _ _ rfl (MT.castD ?_)
        unfold lnD
        rw [← hT, if_neg (by omega)]
  · refine ⟨MC.k0, ?_⟩
    refine S_X7_failsIf MC (by omega) (by exact PC.w) (fun x52 h52 e52 M52 => ?_)
    subst e52
    obtain ⟨E, hE⟩ : ∃ Z, Z = lnE D := ⟨_, rfl⟩
    have ME := M52.castD (D' := E) (by rw [hE]; unfold lnE lng; rw [← hC, ← epp, ← ekk]; unfold fiD; (repeat' split) <;> first | rfl | (exfalso; omega))
    have PE : PR E := by rw [hE]; exact (ST_lnE P).P
    have PEw := PE.w
    refine ⟨ME.k0, ?_⟩
    refine S_X7_goesOn ME PE (fun x56 h56 e56 M56 => ?_)
    subst e56
    obtain ⟨F, hF⟩ : ∃ Z, Z = lnF D := ⟨_, rfl⟩
    have MF := M56.castD (D' := F) (by rw [hF]; unfold lnF; rw [← hE])
    have PF : PR F := by rw [hF]; exact (ST_lnF P).P
    have PFw := PF.w
    refine ⟨MF.k0, ?_⟩
    refine S_X7_takes MF PF (by omega) (fun x63 h63 e63 M63 => ?_)
    subst e63
    obtain ⟨T, hT⟩ : ∃ Z, Z = lnT D := ⟨_, rfl⟩
    have MT := M63.castD (D' := T) (by rw [hT]; unfold lnT; rw [← hF])
    have PT : PR T := by rw [hT]; exact (ST_lnT P).P
    have PTw := PT.w
    have T33 : T 0 33 = D 0 33 := by rw [hT, (ST_lnT P).f (by decide)]
    refine ⟨MT.k0, ?_⟩
    try rw [MT.f25]
    refine ⟨ir (by omega) (by omega), fun c72 => ?_, fun c72 => ?_⟩
    · refine ⟨MT.k0, ?_⟩
      try rw [MT.r39]
      refine MT.as15 (by omega) (by omega) (fun h83 M83 => ?_)
      refine ⟨M83.k0, ?_⟩
      try rw [M83.f33]
      rw [dst_row (by decide), T33]
      refine M83.p33 (fun h91 M91 => ?_)
      obtain ⟨R, hR⟩ : ∃ Z, Z = lnR D := ⟨_, rfl⟩
      have MR := M91.castD (D' := R) (by rw [hR]; unfold lnR lng; rw [← hT, ← hF, ← epp, ← ekk])
      have PRR : PR R := by rw [hR]; exact ((ST_lnT P).P.row _ _ (by decide) (by decide)).f (by decide)
      have PRRw := PRR.w
      have T0 : lnT D 0 25 = 0 := by rw [← hT]; exact c72
      have LR := I.lnR P T0
      have eg : lng D = 8 * p + k := by rw [epp, ekk]; rfl
      rw [← hR, eg] at LR
      have R16 : R 16 = D 16 := by rw [hR]; exact lnR_rows P
      refine L_X7_handleLine_94 (by omega) hW0 hb (5) _ _ MR PRR LR.1 (by exact LR.2.1) (by intro _; rw [R16, LR.2.2]; rfl) ?_
      refine fun x h' e M => H x h' e (M.castD ?_)
      unfold lnD
      rw [if_pos T0, eg, ← hR]
    · refine H _ _ rfl (MT.castD ?_)
      unfold lnD
      rw [← hT, if_neg (by omega)]
theorem S_X7_line {d b : Nat} {h0 h : PH} {D : Nat → Int → Int} {s : Int → Int} {t : Int} {Q : Int → PH → Prop} {X : Nat → PH → Prop} (M : Mt b h0 h D s t) (P : PR D) (I : RI D) (hW0 : WRD h0) (hb : 35 ≤ b) (H : ∀ (x : Int) h', x = 0 → Mt b h0 h' (liD D) s t → Q x h') : RUN GQ (d + 11) m_X7_line [pA b] h Q X := by
  have Pw := P.w
  have z29 := wdv_01 D (wdt 29)
  have z30 := wdv_01 D (wdt 30)
  have z31 := wdv_01 D (wdt 31)
  have z32 := wdv_01 D (wdt 32)
  have z33 := wdv_01 D (wdt 33)
  have hK := I.K
  have hM := I.m
  have h34 := I.h34
  rw [e_X7_line]
  refine WP.of (RUN.mono GQ _) (cuts := []) (n := 400) (v_X7_line_0 _ _ _ _ ?_)
  refine ⟨M.k0, ?_⟩
  refine S_X7_isWord M P ((hW0.of M.2.1 hb) 29 (by decide) (by decide)) (by decide) (fun x3 e3 => ?_)
  subst e3
  refine ⟨ir (by omega) (by omega), fun c6 => ?_, fun c6 => ?_⟩
  · refine ⟨M.k0, ?_⟩
    refine S_X7_isWord M P ((hW0.of M.2.1 hb) 30 (by decide) (by decide)) (by decide) (fun x19 e19 => ?_)
    subst e19
    refine ⟨ir (by omega) (by omega), fun c22 => ?_, fun c22 => ?_⟩
    · refine ⟨M.k0, ?_⟩
      refine S_X7_isWord M P ((hW0.of M.2.1 hb) 31 (by decide) (by decide)) (by decide) (fun x35 e35 => ?_)
      subst e35
      refine ⟨ir (by omega) (by omega), fun c38 => ?_, fun c38 => ?_⟩
      · refine ⟨M.k0, ?_⟩
        refine S_X7_isWord M P ((hW0.of M.2.1 hb) 32 (by decide) (by decide)) (by decide) (fun x51 e51 => ?_)
        subst e51
        refine ⟨ir (by omega) (by omega), fun c54 => ?_, fun c54 => ?_⟩
        · refine ⟨M.k0, ?_⟩
          refine S_X7_isWord M P ((hW0.of M.2.1 hb) 33 (by decide) (by decide)) (by decide) (fun x67 e67 => ?_)
          subst e67
          refine ⟨ir (by omega) (by omega), fun c70 => ?_, fun c70 => ?_⟩
          · refine ⟨M.k0, ?_⟩
            refine S_X7_fails M (by exact P.w) (fun x82 h82 e82 M82 => ?_)
            subst e82
            refine H _ _ rfl (M82.castD ?_)
            unfold liD
            (repeat' split) <;> first | rfl | (exfalso; omega)
          · refine ⟨M.k0, ?_⟩
            refine S_X7_sendLine M P (by exact hK) (by exact h34) (fun x74 h74 e74 M74 => ?_)
            subst e74
            refine H _ _ rfl (M74.castD ?_)
            unfold liD
            (repeat' split) <;> first | rfl | (exfalso; omega)
        · refine ⟨M.k0, ?_⟩
          refine S_X7_hideLine M P (by exact hK) (by exact hM) (fun x58 h58 e58 M58 => ?_)
          subst e58
          refine H _ _ rfl (M58.castD ?_)
          unfold liD
          (repeat' split) <;> first | rfl | (exfalso; omega)
      · refine ⟨M.k0, ?_⟩
        refine S_X7_handleLine M P (by exact I) (by exact hW0) (by exact hb) (fun x42 h42 e42 M42 => ?_)
        subst e42
        refine H _ _ rfl (M42.castD ?_)
        unfold liD
        (repeat' split) <;> first | rfl | (exfalso; omega)
    · refine ⟨M.k0, ?_⟩
      refine S_X7_programLine M P (by exact hK) (fun x26 h26 e26 M26 => ?_)
      subst e26
      refine H _ _ rfl (M26.castD ?_)
      unfold liD
      (repeat' split) <;> first | rfl | (exfalso; omega)
  · refine ⟨M.k0, ?_⟩
    refine S_X7_kindLine M P (by exact hK) (fun x10 h10 e10 M10 => ?_)
    subst e10
    refine H _ _ rfl (M10.castD ?_)
    unfold liD
    (repeat' split) <;> first | rfl | (exfalso; omega)
