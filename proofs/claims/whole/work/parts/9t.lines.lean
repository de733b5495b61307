/-! the model reads lines (2) (written by wip/whole/tools/eng.py) -/
section VCS
variable {call : PC} {mc ms fr : Nat} {Q : Int → PH → Prop} {X : Nat → PH → Prop} {K : PK}
set_option maxRecDepth 100000 in
theorem v_X7_programLine_0 (a0 : Nat) (z1 : Option PV) (h : PH) (c s : Nat) (H : hk h a0 = 8 ∧ InR (hi h a0 32) ∧ InR 6 ∧ ((hi h a0 32) = 6 →
 hk h a0 = 8 ∧ call m_X7_failsIf [pA a0, pI 1, pI 4] h (fun _ h1 =>
 hk h1 a0 = 8 ∧ call m_X7_goesOn [pA a0] h1 (fun _ h2 =>
 hk h2 a0 = 8 ∧ InR (hi h2 a0 32) ∧ InR 6 ∧ ((hi h2 a0 32) < 6 →
 hk h2 a0 = 8 ∧ hk h2 a0 = 8 ∧ hk h2 a0 = 8 ∧ hk h2 a0 = 8 ∧ call m_X7_newName [pA a0, pA (hr h2 a0 36), pI (hi h2 a0 32), pI (hi h2 a0 32)] h2 (fun _ h3 =>
 hk h3 a0 = 8 ∧ hk h3 a0 = 8 ∧ InR (hi h3 a0 25) ∧ ((hi h3 a0 25) = 0 →
 call m_X7_flag [pI 1] h3 (fun x4 h4 =>
 hk h4 a0 = 8 ∧ ∀ h5, h5 = hsi h4 a0 32 ((hi h3 a0 32) + x4) →
 Q 0 h5) X) ∧
((hi h3 a0 25) ≠ 0 →
 call m_X7_flag [pI 0] h3 (fun x6 h6 =>
 hk h6 a0 = 8 ∧ ∀ h7, h7 = hsi h6 a0 32 ((hi h3 a0 32) + x6) →
 Q 0 h7) X)) X) ∧
(6 ≤ (hi h2 a0 32) →
 hk h2 a0 = 8 ∧ hk h2 a0 = 8 ∧ hk h2 a0 = 8 ∧ call m_X7_newName [pA a0, pA (hr h2 a0 36), pI (hi h2 a0 32), pI 0] h2 (fun _ h8 =>
 hk h8 a0 = 8 ∧ hk h8 a0 = 8 ∧ InR (hi h8 a0 25) ∧ ((hi h8 a0 25) = 0 →
 call m_X7_flag [pI 1] h8 (fun x9 h9 =>
 hk h9 a0 = 8 ∧ ∀ h10, h10 = hsi h9 a0 32 ((hi h8 a0 32) + x9) →
 Q 0 h10) X) ∧
((hi h8 a0 25) ≠ 0 →
 call m_X7_flag [pI 0] h8 (fun x11 h11 =>
 hk h11 a0 = 8 ∧ ∀ h12, h12 = hsi h11 a0 32 ((hi h8 a0 32) + x11) →
 Q 0 h12) X)) X)) X) X) ∧
((hi h a0 32) ≠ 6 →
 hk h a0 = 8 ∧ call m_X7_failsIf [pA a0, pI 0, pI 4] h (fun _ h13 =>
 hk h13 a0 = 8 ∧ call m_X7_goesOn [pA a0] h13 (fun _ h14 =>
 hk h14 a0 = 8 ∧ InR (hi h14 a0 32) ∧ InR 6 ∧ ((hi h14 a0 32) < 6 →
 hk h14 a0 = 8 ∧ hk h14 a0 = 8 ∧ hk h14 a0 = 8 ∧ hk h14 a0 = 8 ∧ call m_X7_newName [pA a0, pA (hr h14 a0 36), pI (hi h14 a0 32), pI (hi h14 a0 32)] h14 (fun _ h15 =>
 hk h15 a0 = 8 ∧ hk h15 a0 = 8 ∧ InR (hi h15 a0 25) ∧ ((hi h15 a0 25) = 0 →
 call m_X7_flag [pI 1] h15 (fun x16 h16 =>
 hk h16 a0 = 8 ∧ ∀ h17, h17 = hsi h16 a0 32 ((hi h15 a0 32) + x16) →
 Q 0 h17) X) ∧
((hi h15 a0 25) ≠ 0 →
 call m_X7_flag [pI 0] h15 (fun x18 h18 =>
 hk h18 a0 = 8 ∧ ∀ h19, h19 = hsi h18 a0 32 ((hi h15 a0 32) + x18) →
 Q 0 h19) X)) X) ∧
(6 ≤ (hi h14 a0 32) →
 hk h14 a0 = 8 ∧ hk h14 a0 = 8 ∧ hk h14 a0 = 8 ∧ call m_X7_newName [pA a0, pA (hr h14 a0 36), pI (hi h14 a0 32), pI 0] h14 (fun _ h20 =>
 hk h20 a0 = 8 ∧ hk h20 a0 = 8 ∧ InR (hi h20 a0 25) ∧ ((hi h20 a0 25) = 0 →
 call m_X7_flag [pI 1] h20 (fun x21 h21 =>
 hk h21 a0 = 8 ∧ ∀ h22, h22 = hsi h21 a0 32 ((hi h20 a0 32) + x21) →
 Q 0 h22) X) ∧
((hi h20 a0 25) ≠ 0 →
 call m_X7_flag [pI 0] h20 (fun x23 h23 =>
 hk h23 a0 = 8 ∧ ∀ h24, h24 = hsi h23 a0 32 ((hi h20 a0 32) + x23) →
 Q 0 h24) X)) X)) X) X)) : wpc k_X7_programLine [] call mc ms fr Q X [] K 400 (pto 0 k_X7_programLine) [some (pA a0), z1] [] h c s :=
  H
set_option maxRecDepth 100000 in
theorem v_X7_kindLine_0 (a0 : Nat) (z1 : Option PV) (z2 : Option PV) (z3 : Option PV) (z4 : Option PV) (h : PH) (c s : Nat) (H : hk h a0 = 8 ∧ InR (hi h a0 31) ∧ InR 8 ∧ ((hi h a0 31) = 8 →
 hk h a0 = 8 ∧ call m_X7_failsIf [pA a0, pI 1, pI 4] h (fun _ h1 =>
 hk h1 a0 = 8 ∧ call m_X7_goesOn [pA a0] h1 (fun _ h2 =>
 hk h2 a0 = 8 ∧ InR (hi h2 a0 31) ∧ InR 8 ∧ ((hi h2 a0 31) < 8 →
 hk h2 a0 = 8 ∧ hk h2 a0 = 8 ∧ hk h2 a0 = 8 ∧ hk h2 a0 = 8 ∧ call m_X7_newName [pA a0, pA (hr h2 a0 35), pI (hi h2 a0 31), pI (hi h2 a0 31)] h2 (fun _ h3 =>
 hk h3 a0 = 8 ∧ call m_X7_takes [pA a0, pI 1, pI 99] h3 (fun x4 h4 =>
 hk h4 a0 = 8 ∧ call m_X7_takes [pA a0, pI 0, pI 20] h4 (fun x5 h5 =>
 hk h5 a0 = 8 ∧ call m_X7_takes [pA a0, pI 1, pI 200] h5 (fun x6 h6 =>
 hk h6 a0 = 8 ∧ InR (hi h6 a0 25) ∧ ((hi h6 a0 25) = 0 →
 hk h6 a0 = 8 ∧ hk h6 (hr h6 a0 37) = 20 ∧ (0 ≤ (3 * (hi h2 a0 31)) ∧ (3 * (hi h2 a0 31)) < (hl h6 (hr h6 a0 37) : Int)) ∧ ∀ h7, h7 = hsi h6 (hr h6 a0 37) (Int.toNat ((3 * (hi h2 a0 31)))) x4 →
 hk h7 a0 = 8 ∧ hk h7 (hr h7 a0 37) = 20 ∧ (0 ≤ ((3 * (hi h2 a0 31)) + 1) ∧ ((3 * (hi h2 a0 31)) + 1) < (hl h7 (hr h7 a0 37) : Int)) ∧ ∀ h8, h8 = hsi h7 (hr h7 a0 37) (Int.toNat (((3 * (hi h2 a0 31)) + 1))) x5 →
 hk h8 a0 = 8 ∧ hk h8 (hr h8 a0 37) = 20 ∧ (0 ≤ ((3 * (hi h2 a0 31)) + 2) ∧ ((3 * (hi h2 a0 31)) + 2) < (hl h8 (hr h8 a0 37) : Int)) ∧ ∀ h9, h9 = hsi h8 (hr h8 a0 37) (Int.toNat (((3 * (hi h2 a0 31)) + 2))) x6 →
 hk h9 a0 = 8 ∧ hk h9 a0 = 8 ∧ ∀ h10, h10 = hsi h9 a0 31 ((hi h9 a0 31) + 1) →
 Q 0 h10) ∧
((hi h6 a0 25) ≠ 0 →
 Q 0 h6)) X) X) X) X) ∧
(8 ≤ (hi h2 a0 31) →
 hk h2 a0 = 8 ∧ hk h2 a0 = 8 ∧ hk h2 a0 = 8 ∧ call m_X7_newName [pA a0, pA (hr h2 a0 35), pI (hi h2 a0 31), pI 0] h2 (fun _ h11 =>
 hk h11 a0 = 8 ∧ call m_X7_takes [pA a0, pI 1, pI 99] h11 (fun x12 h12 =>
 hk h12 a0 = 8 ∧ call m_X7_takes [pA a0, pI 0, pI 20] h12 (fun x13 h13 =>
 hk h13 a0 = 8 ∧ call m_X7_takes [pA a0, pI 1, pI 200] h13 (fun x14 h14 =>
 hk h14 a0 = 8 ∧ InR (hi h14 a0 25) ∧ ((hi h14 a0 25) = 0 →
 hk h14 a0 = 8 ∧ hk h14 (hr h14 a0 37) = 20 ∧ (0 ≤ ((3 : Int) * 0) ∧ ((3 : Int) * 0) < (hl h14 (hr h14 a0 37) : Int)) ∧ ∀ h15, h15 = hsi h14 (hr h14 a0 37) (Int.toNat (((3 : Int) * 0))) x12 →
 hk h15 a0 = 8 ∧ hk h15 (hr h15 a0 37) = 20 ∧ (0 ≤ (((3 : Int) * 0) + 1) ∧ (((3 : Int) * 0) + 1) < (hl h15 (hr h15 a0 37) : Int)) ∧ ∀ h16, h16 = hsi h15 (hr h15 a0 37) (Int.toNat ((((3 : Int) * 0) + 1))) x13 →
 hk h16 a0 = 8 ∧ hk h16 (hr h16 a0 37) = 20 ∧ (0 ≤ (((3 : Int) * 0) + 2) ∧ (((3 : Int) * 0) + 2) < (hl h16 (hr h16 a0 37) : Int)) ∧ ∀ h17, h17 = hsi h16 (hr h16 a0 37) (Int.toNat ((((3 : Int) * 0) + 2))) x14 →
 hk h17 a0 = 8 ∧ hk h17 a0 = 8 ∧ ∀ h18, h18 = hsi h17 a0 31 ((hi h17 a0 31) + 1) →
 Q 0 h18) ∧
((hi h14 a0 25) ≠ 0 →
 Q 0 h14)) X) X) X) X)) X) X) ∧
((hi h a0 31) ≠ 8 →
 hk h a0 = 8 ∧ call m_X7_failsIf [pA a0, pI 0, pI 4] h (fun _ h19 =>
 hk h19 a0 = 8 ∧ call m_X7_goesOn [pA a0] h19 (fun _ h20 =>
 hk h20 a0 = 8 ∧ InR (hi h20 a0 31) ∧ InR 8 ∧ ((hi h20 a0 31) < 8 →
 hk h20 a0 = 8 ∧ hk h20 a0 = 8 ∧ hk h20 a0 = 8 ∧ hk h20 a0 = 8 ∧ call m_X7_newName [pA a0, pA (hr h20 a0 35), pI (hi h20 a0 31), pI (hi h20 a0 31)] h20 (fun _ h21 =>
 hk h21 a0 = 8 ∧ call m_X7_takes [pA a0, pI 1, pI 99] h21 (fun x22 h22 =>
 hk h22 a0 = 8 ∧ call m_X7_takes [pA a0, pI 0, pI 20] h22 (fun x23 h23 =>
 hk h23 a0 = 8 ∧ call m_X7_takes [pA a0, pI 1, pI 200] h23 (fun x24 h24 =>
 hk h24 a0 = 8 ∧ InR (hi h24 a0 25) ∧ ((hi h24 a0 25) = 0 →
 hk h24 a0 = 8 ∧ hk h24 (hr h24 a0 37) = 20 ∧ (0 ≤ (3 * (hi h20 a0 31)) ∧ (3 * (hi h20 a0 31)) < (hl h24 (hr h24 a0 37) : Int)) ∧ ∀ h25, h25 = hsi h24 (hr h24 a0 37) (Int.toNat ((3 * (hi h20 a0 31)))) x22 →
 hk h25 a0 = 8 ∧ hk h25 (hr h25 a0 37) = 20 ∧ (0 ≤ ((3 * (hi h20 a0 31)) + 1) ∧ ((3 * (hi h20 a0 31)) + 1) < (hl h25 (hr h25 a0 37) : Int)) ∧ ∀ h26, h26 = hsi h25 (hr h25 a0 37) (Int.toNat (((3 * (hi h20 a0 31)) + 1))) x23 →
 hk h26 a0 = 8 ∧ hk h26 (hr h26 a0 37) = 20 ∧ (0 ≤ ((3 * (hi h20 a0 31)) + 2) ∧ ((3 * (hi h20 a0 31)) + 2) < (hl h26 (hr h26 a0 37) : Int)) ∧ ∀ h27, h27 = hsi h26 (hr h26 a0 37) (Int.toNat (((3 * (hi h20 a0 31)) + 2))) x24 →
 hk h27 a0 = 8 ∧ hk h27 a0 = 8 ∧ ∀ h28, h28 = hsi h27 a0 31 ((hi h27 a0 31) + 1) →
 Q 0 h28) ∧
((hi h24 a0 25) ≠ 0 →
 Q 0 h24)) X) X) X) X) ∧
(8 ≤ (hi h20 a0 31) →
 hk h20 a0 = 8 ∧ hk h20 a0 = 8 ∧ hk h20 a0 = 8 ∧ call m_X7_newName [pA a0, pA (hr h20 a0 35), pI (hi h20 a0 31), pI 0] h20 (fun _ h29 =>
 hk h29 a0 = 8 ∧ call m_X7_takes [pA a0, pI 1, pI 99] h29 (fun x30 h30 =>
 hk h30 a0 = 8 ∧ call m_X7_takes [pA a0, pI 0, pI 20] h30 (fun x31 h31 =>
 hk h31 a0 = 8 ∧ call m_X7_takes [pA a0, pI 1, pI 200] h31 (fun x32 h32 =>
 hk h32 a0 = 8 ∧ InR (hi h32 a0 25) ∧ ((hi h32 a0 25) = 0 →
 hk h32 a0 = 8 ∧ hk h32 (hr h32 a0 37) = 20 ∧ (0 ≤ ((3 : Int) * 0) ∧ ((3 : Int) * 0) < (hl h32 (hr h32 a0 37) : Int)) ∧ ∀ h33, h33 = hsi h32 (hr h32 a0 37) (Int.toNat (((3 : Int) * 0))) x30 →
 hk h33 a0 = 8 ∧ hk h33 (hr h33 a0 37) = 20 ∧ (0 ≤ (((3 : Int) * 0) + 1) ∧ (((3 : Int) * 0) + 1) < (hl h33 (hr h33 a0 37) : Int)) ∧ ∀ h34, h34 = hsi h33 (hr h33 a0 37) (Int.toNat ((((3 : Int) * 0) + 1))) x31 →
 hk h34 a0 = 8 ∧ hk h34 (hr h34 a0 37) = 20 ∧ (0 ≤ (((3 : Int) * 0) + 2) ∧ (((3 : Int) * 0) + 2) < (hl h34 (hr h34 a0 37) : Int)) ∧ ∀ h35, h35 = hsi h34 (hr h34 a0 37) (Int.toNat ((((3 : Int) * 0) + 2))) x32 →
 hk h35 a0 = 8 ∧ hk h35 a0 = 8 ∧ ∀ h36, h36 = hsi h35 a0 31 ((hi h35 a0 31) + 1) →
 Q 0 h36) ∧
((hi h32 a0 25) ≠ 0 →
 Q 0 h32)) X) X) X) X)) X) X)) : wpc k_X7_kindLine [] call mc ms fr Q X [] K 400 (pto 0 k_X7_kindLine) [some (pA a0), z1, z2, z3, z4] [] h c s :=
  H
set_option maxRecDepth 100000 in
theorem v_X7_hideLine_0 (a0 : Nat) (z1 : Option PV) (z2 : Option PV) (h : PH) (c s : Nat) (H : hk h a0 = 8 ∧ call m_X7_goesOn [pA a0] h (fun _ h1 =>
 hk h1 a0 = 8 ∧ call m_X7_programHere [pA a0] h1 (fun x2 h2 =>
 hk h2 a0 = 8 ∧ hk h2 a0 = 8 ∧ hk h2 a0 = 8 ∧ call m_X7_namedHere [pA a0, pA (hr h2 a0 35), pI (hi h2 a0 31)] h2 (fun x3 h3 =>
 hk h3 a0 = 8 ∧ InR (hi h3 a0 25) ∧ ((hi h3 a0 25) = 0 →
 hk h3 a0 = 8 ∧ (hk h3 (hr h3 a0 38) = 20 ∨ hk h3 (hr h3 a0 38) = 26) ∧ (0 ≤ x2 ∧ x2 < (hl h3 (hr h3 a0 38) : Int)) ∧ InR (band (bshr (hi h3 (hr h3 a0 38) (Int.toNat x2)) x3) 1) ∧ InR 1 ∧ ((band (bshr (hi h3 (hr h3 a0 38) (Int.toNat x2)) x3) 1) = 1 →
 hk h3 a0 = 8 ∧ call m_X7_failsIf [pA a0, pI 1, pI 3] h3 (fun _ h4 =>
 hk h4 a0 = 8 ∧ InR (hi h4 a0 25) ∧ ((hi h4 a0 25) = 0 →
 hk h4 a0 = 8 ∧ (hk h4 (hr h4 a0 38) = 20 ∨ hk h4 (hr h4 a0 38) = 26) ∧ (0 ≤ x2 ∧ x2 < (hl h4 (hr h4 a0 38) : Int)) ∧ hk h4 (hr h4 a0 38) = 20 ∧ (0 ≤ x2 ∧ x2 < (hl h4 (hr h4 a0 38) : Int)) ∧ ∀ h5, h5 = hsi h4 (hr h4 a0 38) (Int.toNat x2) (bor (hi h4 (hr h4 a0 38) (Int.toNat x2)) (bshl 1 x3)) →
 hk h5 a0 = 8 ∧ call m_X7_goesOn [pA a0] h5 (fun _ h6 =>
 Q 0 h6) X) ∧
((hi h4 a0 25) ≠ 0 →
 hk h4 a0 = 8 ∧ call m_X7_goesOn [pA a0] h4 (fun _ h7 =>
 Q 0 h7) X)) X) ∧
((band (bshr (hi h3 (hr h3 a0 38) (Int.toNat x2)) x3) 1) ≠ 1 →
 hk h3 a0 = 8 ∧ call m_X7_failsIf [pA a0, pI 0, pI 3] h3 (fun _ h8 =>
 hk h8 a0 = 8 ∧ InR (hi h8 a0 25) ∧ ((hi h8 a0 25) = 0 →
 hk h8 a0 = 8 ∧ (hk h8 (hr h8 a0 38) = 20 ∨ hk h8 (hr h8 a0 38) = 26) ∧ (0 ≤ x2 ∧ x2 < (hl h8 (hr h8 a0 38) : Int)) ∧ hk h8 (hr h8 a0 38) = 20 ∧ (0 ≤ x2 ∧ x2 < (hl h8 (hr h8 a0 38) : Int)) ∧ ∀ h9, h9 = hsi h8 (hr h8 a0 38) (Int.toNat x2) (bor (hi h8 (hr h8 a0 38) (Int.toNat x2)) (bshl 1 x3)) →
 hk h9 a0 = 8 ∧ call m_X7_goesOn [pA a0] h9 (fun _ h10 =>
 Q 0 h10) X) ∧
((hi h8 a0 25) ≠ 0 →
 hk h8 a0 = 8 ∧ call m_X7_goesOn [pA a0] h8 (fun _ h11 =>
 Q 0 h11) X)) X)) ∧
((hi h3 a0 25) ≠ 0 →
 hk h3 a0 = 8 ∧ call m_X7_failsIf [pA a0, pI 0, pI 3] h3 (fun _ h12 =>
 hk h12 a0 = 8 ∧ InR (hi h12 a0 25) ∧ ((hi h12 a0 25) = 0 →
 hk h12 a0 = 8 ∧ (hk h12 (hr h12 a0 38) = 20 ∨ hk h12 (hr h12 a0 38) = 26) ∧ (0 ≤ x2 ∧ x2 < (hl h12 (hr h12 a0 38) : Int)) ∧ hk h12 (hr h12 a0 38) = 20 ∧ (0 ≤ x2 ∧ x2 < (hl h12 (hr h12 a0 38) : Int)) ∧ ∀ h13, h13 = hsi h12 (hr h12 a0 38) (Int.toNat x2) (bor (hi h12 (hr h12 a0 38) (Int.toNat x2)) (bshl 1 x3)) →
 hk h13 a0 = 8 ∧ call m_X7_goesOn [pA a0] h13 (fun _ h14 =>
 Q 0 h14) X) ∧
((hi h12 a0 25) ≠ 0 →
 hk h12 a0 = 8 ∧ call m_X7_goesOn [pA a0] h12 (fun _ h15 =>
 Q 0 h15) X)) X)) X) X) X) : wpc k_X7_hideLine [] call mc ms fr Q X [] K 400 (pto 0 k_X7_hideLine) [some (pA a0), z1, z2] [] h c s :=
  H
set_option maxRecDepth 100000 in
theorem v_X7_sendLine_0 (a0 : Nat) (z1 : Option PV) (z2 : Option PV) (z3 : Option PV) (h : PH) (c s : Nat) (H : hk h a0 = 8 ∧ InR (hi h a0 34) ∧ InR 12 ∧ ((hi h a0 34) = 12 →
 hk h a0 = 8 ∧ call m_X7_failsIf [pA a0, pI 1, pI 4] h (fun _ h1 =>
 hk h1 a0 = 8 ∧ call m_X7_goesOn [pA a0] h1 (fun _ h2 =>
 hk h2 a0 = 8 ∧ call m_X7_programHere [pA a0] h2 (fun x3 h3 =>
 hk h3 a0 = 8 ∧ call m_X7_kindHere [pA a0] h3 (fun x4 h4 =>
 hk h4 a0 = 8 ∧ call m_X7_takes [pA a0, pI 0, pI 999] h4 (fun x5 h5 =>
 hk h5 a0 = 8 ∧ InR (hi h5 a0 25) ∧ ((hi h5 a0 25) = 0 →
 hk h5 a0 = 8 ∧ hk h5 a0 = 8 ∧ hk h5 (hr h5 a0 42) = 20 ∧ (0 ≤ (3 * (hi h5 a0 34)) ∧ (3 * (hi h5 a0 34)) < (hl h5 (hr h5 a0 42) : Int)) ∧ ∀ h6, h6 = hsi h5 (hr h5 a0 42) (Int.toNat ((3 * (hi h5 a0 34)))) x3 →
 hk h6 a0 = 8 ∧ hk h6 a0 = 8 ∧ hk h6 (hr h6 a0 42) = 20 ∧ (0 ≤ ((3 * (hi h6 a0 34)) + 1) ∧ ((3 * (hi h6 a0 34)) + 1) < (hl h6 (hr h6 a0 42) : Int)) ∧ ∀ h7, h7 = hsi h6 (hr h6 a0 42) (Int.toNat (((3 * (hi h6 a0 34)) + 1))) x4 →
 hk h7 a0 = 8 ∧ hk h7 a0 = 8 ∧ hk h7 (hr h7 a0 42) = 20 ∧ (0 ≤ ((3 * (hi h7 a0 34)) + 2) ∧ ((3 * (hi h7 a0 34)) + 2) < (hl h7 (hr h7 a0 42) : Int)) ∧ ∀ h8, h8 = hsi h7 (hr h7 a0 42) (Int.toNat (((3 * (hi h7 a0 34)) + 2))) x5 →
 hk h8 a0 = 8 ∧ hk h8 a0 = 8 ∧ ∀ h9, h9 = hsi h8 a0 34 ((hi h8 a0 34) + 1) →
 Q 0 h9) ∧
((hi h5 a0 25) ≠ 0 →
 Q 0 h5)) X) X) X) X) X) ∧
((hi h a0 34) ≠ 12 →
 hk h a0 = 8 ∧ call m_X7_failsIf [pA a0, pI 0, pI 4] h (fun _ h10 =>
 hk h10 a0 = 8 ∧ call m_X7_goesOn [pA a0] h10 (fun _ h11 =>
 hk h11 a0 = 8 ∧ call m_X7_programHere [pA a0] h11 (fun x12 h12 =>
 hk h12 a0 = 8 ∧ call m_X7_kindHere [pA a0] h12 (fun x13 h13 =>
 hk h13 a0 = 8 ∧ call m_X7_takes [pA a0, pI 0, pI 999] h13 (fun x14 h14 =>
 hk h14 a0 = 8 ∧ InR (hi h14 a0 25) ∧ ((hi h14 a0 25) = 0 →
 hk h14 a0 = 8 ∧ hk h14 a0 = 8 ∧ hk h14 (hr h14 a0 42) = 20 ∧ (0 ≤ (3 * (hi h14 a0 34)) ∧ (3 * (hi h14 a0 34)) < (hl h14 (hr h14 a0 42) : Int)) ∧ ∀ h15, h15 = hsi h14 (hr h14 a0 42) (Int.toNat ((3 * (hi h14 a0 34)))) x12 →
 hk h15 a0 = 8 ∧ hk h15 a0 = 8 ∧ hk h15 (hr h15 a0 42) = 20 ∧ (0 ≤ ((3 * (hi h15 a0 34)) + 1) ∧ ((3 * (hi h15 a0 34)) + 1) < (hl h15 (hr h15 a0 42) : Int)) ∧ ∀ h16, h16 = hsi h15 (hr h15 a0 42) (Int.toNat (((3 * (hi h15 a0 34)) + 1))) x13 →
 hk h16 a0 = 8 ∧ hk h16 a0 = 8 ∧ hk h16 (hr h16 a0 42) = 20 ∧ (0 ≤ ((3 * (hi h16 a0 34)) + 2) ∧ ((3 * (hi h16 a0 34)) + 2) < (hl h16 (hr h16 a0 42) : Int)) ∧ ∀ h17, h17 = hsi h16 (hr h16 a0 42) (Int.toNat (((3 * (hi h16 a0 34)) + 2))) x14 →
 hk h17 a0 = 8 ∧ hk h17 a0 = 8 ∧ ∀ h18, h18 = hsi h17 a0 34 ((hi h17 a0 34) + 1) →
 Q 0 h18) ∧
((hi h14 a0 25) ≠ 0 →
 Q 0 h14)) X) X) X) X) X)) : wpc k_X7_sendLine [] call mc ms fr Q X [] K 400 (pto 0 k_X7_sendLine) [some (pA a0), z1, z2, z3] [] h c s :=
  H
set_option maxRecDepth 100000 in
theorem v_X7_actHere_0 (a0 : Nat) (h : PH) (c s : Nat) (H : hk h a0 = 8 ∧ call m_X7_isWord [pA a0, pA 25] h (fun x1 h1 =>
 InR x1 ∧ (x1 = 0 →
 hk h1 a0 = 8 ∧ call m_X7_isWord [pA a0, pA 26] h1 (fun x2 h2 =>
 InR x2 ∧ (x2 = 0 →
 hk h2 a0 = 8 ∧ call m_X7_isWord [pA a0, pA 27] h2 (fun x3 h3 =>
 InR x3 ∧ (x3 = 0 →
 hk h3 a0 = 8 ∧ call m_X7_isWord [pA a0, pA 28] h3 (fun x4 h4 =>
 InR x4 ∧ (x4 = 0 →
 Q ((-1)) h4) ∧
(x4 ≠ 0 →
 Q 3 h4)) X) ∧
(x3 ≠ 0 →
 Q 2 h3)) X) ∧
(x2 ≠ 0 →
 Q 1 h2)) X) ∧
(x1 ≠ 0 →
 Q 0 h1)) X) : wpc k_X7_actHere [] call mc ms fr Q X [] K 400 (pto 0 k_X7_actHere) [some (pA a0)] [] h c s :=
  H
end VCS
theorem S_X7_programLine {d b : Nat} {h0 h : PH} {D : Nat → Int → Int} {s : Int → Int} {t : Int} {Q : Int → PH → Prop} {X : Nat → PH → Prop} (M : Mt b h0 h D s t) (P : PR D) (hK : KP D) (H : ∀ (x : Int) h', x = 0 → Mt b h0 h' (lpD D) s t → Q x h') : RUN GQ (d + 5) m_X7_programLine [pA b] h Q X := by
  have Pw := P.w
  obtain ⟨k1, k2, k3, k4⟩ := id hK
  rw [e_X7_programLine]
  refine WP.of (RUN.mono GQ _) (cuts := []) (n := 400) (v_X7_programLine_0 _ _ _ _ _ ?_)
  refine ⟨M.k0, ?_⟩
  try rw [M.f32]
  refine ⟨ir (by omega) (by omega), ir (by omega) (by omega), fun c7 => ?_, fun c7 => ?_⟩
  · refine ⟨M.k0, ?_⟩
    refine S_X7_failsIf M (by omega) (by exact P.w) (fun x16 h16 e16 M16 => ?_)
    subst e16
    obtain ⟨F, hF⟩ : ∃ Z, Z = l1D D 32 6 := ⟨_, rfl⟩
    have MF := M16.castD (D' := F) (by rw [hF]; unfold l1D fiD; (repeat' split) <;> first | rfl | (exfalso; omega))
    have PF : PR F := by rw [hF]; exact P.l1 _ _
    have PFw := PF.w
    have F3 : F 0 32 = D 0 32 := by rw [hF]; exact l1_0 _ _ _ (by decide)
    have NF : NB (F 12) := by rw [hF, l1_row _ _ _ (by decide)]; assumption
    refine ⟨MF.k0, ?_⟩
    refine S_X7_goesOn MF PF (fun x20 h20 e20 M20 => ?_)
    subst e20
    obtain ⟨G, hG⟩ : ∃ Z, Z = gD F := ⟨_, rfl⟩
    have MG := M20.castD (D' := G) (by rw [hG]; skip)
    have PG : PR G := by rw [hG]; exact PF.go
    have PGw := PG.w
    have G3 : G 0 32 = D 0 32 := by rw [hG, go_0 _ (by decide)]; exact F3
    have NG : NB (G 12) := by rw [hG, go_row _ (by decide)]; exact NF
    refine ⟨MG.k0, ?_⟩
    try rw [MG.f32]
    refine ⟨ir (by omega) (by omega), ir (by omega) (by omega), fun c29 => ?_, fun c29 => ?_⟩
    · refine ⟨MG.k0, ?_⟩
      try rw [MG.f32]
      refine ⟨MG.k0, ?_⟩
      try rw [MG.r36]
      refine ⟨MG.k0, ?_⟩
      try rw [MG.f32]
      refine ⟨MG.k0, ?_⟩
      refine S_X7_newName_12 MG PG (by omega) (by omega) (by exact NG) (fun x51 h51 e51 M51 => ?_)
      subst e51
      try rw [G3] at M51
      obtain ⟨W, hW⟩ : ∃ Z, Z = lpW D := ⟨_, rfl⟩
      have MW := M51.castD (D' := W) (by rw [hW]; unfold lpW; rw [← hF, ← hG]; first | (rw [if_pos (by omega)]; done) | (rw [if_neg (by omega)]; done))
      have PW : PR W := by rw [hW]; exact ((P.l1 _ _).go).nw _ _ _ (by decide) (by decide)
      have PWw := PW.w
      refine ⟨MW.k0, ?_⟩
      try rw [MW.f32]
      refine ⟨MW.k0, ?_⟩
      try rw [MW.f25]
      refine ⟨ir (by omega) (by omega), fun c63 => ?_, fun c63 => ?_⟩
      · refine S_X7_flag (by omega) (fun x71 e71 => ?_)
        subst e71
        refine MW.p32 (fun h75 M75 => ?_)
        refine H _ _ rfl (M75.castD ?_)
        unfold lpD
        rw [← hW]
        first
        | (rw [if_pos (by omega)]; done)
        | (rw [if_neg (by omega)]; done)
      · refine S_X7_flag (by omega) (fun x71 e71 => ?_)
        subst e71
        refine MW.p32 (fun h75 M75 => ?_)
        refine H _ _ rfl (M75.castD ?_)
        unfold lpD
        rw [← hW]
        first
        | (rw [if_pos (by omega)]; done)
        | (rw [if_neg (by omega)]; done)
    · refine ⟨MG.k0, ?_⟩
      try rw [MG.r36]
      refine ⟨MG.k0, ?_⟩
      try rw [MG.f32]
      refine ⟨MG.k0, ?_⟩
      refine S_X7_newName_12 MG PG (by omega) (by omega) (by exact NG) (fun x51 h51 e51 M51 => ?_)
      subst e51
      try rw [G3] at M51
      obtain ⟨W, hW⟩ : ∃ Z, Z = lpW D := ⟨_, rfl⟩
      have MW := M51.castD (D' := W) (by rw [hW]; unfold lpW; rw [← hF, ← hG]; first | (rw [if_pos (by omega)]; done) | (rw [if_neg (by omega)]; done))
      have PW : PR W := by rw [hW]; exact ((P.l1 _ _).go).nw _ _ _ (by decide) (by decide)
      have PWw := PW.w
      refine ⟨MW.k0, ?_⟩
      try rw [MW.f32]
      refine ⟨MW.k0, ?_⟩
      try rw [MW.f25]
      refine ⟨ir (by omega) (by omega), fun c63 => ?_, fun c63 => ?_⟩
      · refine S_X7_flag (by omega) (fun x71 e71 => ?_)
        subst e71
        refine MW.p32 (fun h75 M75 => ?_)
        refine H _ _ rfl (M75.castD ?_)
        unfold lpD
        rw [← hW]
        first
        | (rw [if_pos (by omega)]; done)
        | (rw [if_neg (by omega)]; done)
      · refine S_X7_flag (by omega) (fun x71 e71 => ?_)
        subst e71
        refine MW.p32 (fun h75 M75 => ?_)
        refine H _ _ rfl (M75.castD ?_)
        unfold lpD
        rw [← hW]
        first
        | (rw [if_pos (by omega)]; done)
        | (rw [if_neg (by omega)]; done)
  · refine ⟨M.k0, ?_⟩
    refine S_X7_failsIf M (by omega) (by exact P.w) (fun x16 h16 e16 M16 => ?_)
    subst e16
    obtain ⟨F, hF⟩ : ∃ Z, Z = l1D D 32 6 := ⟨_, rfl⟩
    have MF := M16.castD (D' := F) (by rw [hF]; unfold l1D fiD; (repeat' split) <;> first | rfl | (exfalso; omega))
    have PF : PR F := by rw [hF]; exact P.l1 _ _
    have PFw := PF.w
    have F3 : F 0 32 = D 0 32 := by rw [hF]; exact l1_0 _ _ _ (by decide)
    have NF : NB (F 12) := by rw [hF, l1_row _ _ _ (by decide)]; assumption
    refine ⟨MF.k0, ?_⟩
    refine S_X7_goesOn MF PF (fun x20 h20 e20 M20 => ?_)
    subst e20
    obtain ⟨G, hG⟩ : ∃ Z, Z = gD F := ⟨_, rfl⟩
    have MG := M20.castD (D' := G) (by rw [hG]; skip)
    have PG : PR G := by rw [hG]; exact PF.go
    have PGw := PG.w
    have G3 : G 0 32 = D 0 32 := by rw [hG, go_0 _ (by decide)]; exact F3
    have NG : NB (G 12) := by rw [hG, go_row _ (by decide)]; exact NF
    refine ⟨MG.k0, ?_⟩
    try rw [MG.f32]
    refine ⟨ir (by omega) (by omega), ir (by omega) (by omega), fun c29 => ?_, fun c29 => ?_⟩
    · refine ⟨MG.k0, ?_⟩
      try rw [MG.f32]
      refine ⟨MG.k0, ?_⟩
      try rw [MG.r36]
      refine ⟨MG.k0, ?_⟩
      try rw [MG.f32]
      refine ⟨MG.k0, ?_⟩
      refine S_X7_newName_12 MG PG (by omega) (by omega) (by exact NG) (fun x51 h51 e51 M51 => ?_)
      subst e51
      try rw [G3] at M51
      obtain ⟨W, hW⟩ : ∃ Z, Z = lpW D := ⟨_, rfl⟩
      have MW := M51.castD (D' := W) (by rw [hW]; unfold lpW; rw [← hF, ← hG]; first | (rw [if_pos (by omega)]; done) | (rw [if_neg (by omega)]; done))
      have PW : PR W := by rw [hW]; exact ((P.l1 _ _).go).nw _ _ _ (by decide) (by decide)
      have PWw := PW.w
      refine ⟨MW.k0, ?_⟩
      try rw [MW.f32]
      refine ⟨MW.k0, ?_⟩
      try rw [MW.f25]
      refine ⟨ir (by omega) (by omega), fun c63 => ?_, fun c63 => ?_⟩
      · refine S_X7_flag (by omega) (fun x71 e71 => ?_)
        subst e71
        refine MW.p32 (fun h75 M75 => ?_)
        refine H _ _ rfl (M75.castD ?_)
        unfold lpD
        rw [← hW]
        first
        | (rw [if_pos (by omega)]; done)
        | (rw [if_neg (by omega)]; done)
      · refine S_X7_flag (by omega) (fun x71 e71 => ?_)
        subst e71
        refine MW.p32 (fun h75 M75 => ?_)
        refine H _ _ rfl (M75.castD ?_)
        unfold lpD
        rw [← hW]
        first
        | (rw [if_pos (by omega)]; done)
        | (rw [if_neg (by omega)]; done)
    · refine ⟨MG.k0, ?_⟩
      try rw [MG.r36]
      refine ⟨MG.k0, ?_⟩
      try rw [MG.f32]
      refine ⟨MG.k0, ?_⟩
      refine S_X7_newName_12 MG PG (by omega) (by omega) (by exact NG) (fun x51 h51 e51 M51 => ?_)
      subst e51
      try rw [G3] at M51
      obtain ⟨W, hW⟩ : ∃ Z, Z = lpW D := ⟨_, rfl⟩
      have MW := M51.castD (D' := W) (by rw [hW]; unfold lpW; rw [← hF, ← hG]; first | (rw [if_pos (by omega)]; done) | (rw [if_neg (by omega)]; done))
      have PW : PR W := by rw [hW]; exact ((P.l1 _ _).go).nw _ _ _ (by decide) (by decide)
      have PWw := PW.w
      refine ⟨MW.k0, ?_⟩
      try rw [MW.f32]
      refine ⟨MW.k0, ?_⟩
      try rw [MW.f25]
      refine ⟨ir (by omega) (by omega), fun c63 => ?_, fun c63 => ?_⟩
      · refine S_X7_flag (by omega) (fun x71 e71 => ?_)
        subst e71
        refine MW.p32 (fun h75 M75 => ?_)
        refine H _ _ rfl (M75.castD ?_)
        unfold lpD
        rw [← hW]
        first
        | (rw [if_pos (by omega)]; done)
        | (rw [if_neg (by omega)]; done)
      · refine S_X7_flag (by omega) (fun x71 e71 => ?_)
        subst e71
        refine MW.p32 (fun h75 M75 => ?_)
        refine H _ _ rfl (M75.castD ?_)
        unfold lpD
        rw [← hW]
        first
        | (rw [if_pos (by omega)]; done)
        | (rw [if_neg (by omega)]; done)
theorem S_X7_kindLine {d b : Nat} {h0 h : PH} {D : Nat → Int → Int} {s : Int → Int} {t : Int} {Q : Int → PH → Prop} {X : Nat → PH → Prop} (M : Mt b h0 h D s t) (P : PR D) (hK : KP D) (H : ∀ (x : Int) h', x = 0 → Mt b h0 h' (lkD D) s t → Q x h') : RUN GQ (d + 5) m_X7_kindLine [pA b] h Q X := by
  have Pw := P.w
  obtain ⟨k1, k2, k3, k4⟩ := id hK
  rw [e_X7_kindLine]
  refine WP.of (RUN.mono GQ _) (cuts := []) (n := 400) (v_X7_kindLine_0 _ _ _ _ _ _ _ _ ?_)
  refine ⟨M.k0, ?_⟩
  try rw [M.f31]
  refine ⟨ir (by omega) (by omega), ir (by omega) (by omega), fun c7 => ?_, fun c7 => ?_⟩
  · refine ⟨M.k0, ?_⟩
    refine S_X7_failsIf M (by omega) (by exact P.w) (fun x16 h16 e16 M16 => ?_)
    subst e16
    obtain ⟨F, hF⟩ : ∃ Z, Z = l1D D 31 8 := ⟨_, rfl⟩
    have MF := M16.castD (D' := F) (by rw [hF]; unfold l1D fiD; (repeat' split) <;> first | rfl | (exfalso; omega))
    have PF : PR F := by rw [hF]; exact P.l1 _ _
    have PFw := PF.w
    have F3 : F 0 31 = D 0 31 := by rw [hF]; exact l1_0 _ _ _ (by decide)
    have NF : NB (F 11) := by rw [hF, l1_row _ _ _ (by decide)]; assumption
    refine ⟨MF.k0, ?_⟩
    refine S_X7_goesOn MF PF (fun x20 h20 e20 M20 => ?_)
    subst e20
    obtain ⟨G, hG⟩ : ∃ Z, Z = gD F := ⟨_, rfl⟩
    have MG := M20.castD (D' := G) (by rw [hG]; skip)
    have PG : PR G := by rw [hG]; exact PF.go
    have PGw := PG.w
    have G3 : G 0 31 = D 0 31 := by rw [hG, go_0 _ (by decide)]; exact F3
    have NG : NB (G 11) := by rw [hG, go_row _ (by decide)]; exact NF
    refine ⟨MG.k0, ?_⟩
    try rw [MG.f31]
    refine ⟨ir (by omega) (by omega), ir (by omega) (by omega), fun c29 => ?_, fun c29 => ?_⟩
    · refine ⟨MG.k0, ?_⟩
      try rw [MG.f31]
      try rw [G3]
      refine ⟨MG.k0, ?_⟩
      try rw [MG.r35]
      refine ⟨MG.k0, ?_⟩
      try rw [MG.f31]
      refine ⟨MG.k0, ?_⟩
      refine S_X7_newName_11 MG PG (by omega) (by omega) (by exact NG) (fun x51 h51 e51 M51 => ?_)
      subst e51
      try rw [G3] at M51
      obtain ⟨W, hW⟩ : ∃ Z, Z = lkW D := ⟨_, rfl⟩
      have MW := M51.castD (D' := W) (by rw [hW]; unfold lkW; rw [← hF, ← hG]; first | (rw [if_pos (by omega)]; done) | (rw [if_neg (by omega)]; done))
      have PW : PR W := by rw [hW]; exact ((P.l1 _ _).go).nw _ _ _ (by decide) (by decide)
      have PWw := PW.w
      have W3 : W 0 31 = D 0 31 := by rw [hW]; unfold lkW; rw [nw_0 _ _ _ _ (by decide) (by decide), go_0 _ (by decide), l1_0 _ _ _ (by decide)]
      refine ⟨MW.k0, ?_⟩
      refine S_X7_takes MW PW (by omega) (fun x58 h58 e58 M58 => ?_)
      subst e58
      obtain ⟨A, hA⟩ : ∃ Z, Z = lkA D := ⟨_, rfl⟩
      have MA := M58.castD (D' := A) (by rw [hA]; unfold lkA; rw [← hW])
      have PA : PR A := by rw [hA]; exact (by unfold lkA; rw [← hW]; exact (PW.tE _ _).go)
      have PAw := PA.w
      have A3 : A 0 31 = D 0 31 := by rw [hA]; unfold lkA; rw [← hW, go_0 _ (by decide), tE_0 _ _ _ (by decide)]; exact W3
      refine ⟨MA.k0, ?_⟩
      refine S_X7_takes MA PA (by omega) (fun x66 h66 e66 M66 => ?_)
      subst e66
      obtain ⟨B, hB⟩ : ∃ Z, Z = lkB D := ⟨_, rfl⟩
      have MB := M66.castD (D' := B) (by rw [hB]; unfold lkB; rw [← hA])
      have PB : PR B := by rw [hB]; exact (by unfold lkB; rw [← hA]; exact (PA.tE _ _).go)
      have PBw := PB.w
      have B3 : B 0 31 = D 0 31 := by rw [hB]; unfold lkB; rw [← hA, go_0 _ (by decide), tE_0 _ _ _ (by decide)]; exact A3
      refine ⟨MB.k0, ?_⟩
      refine S_X7_takes MB PB (by omega) (fun x75 h75 e75 M75 => ?_)
      subst e75
      obtain ⟨C, hC⟩ : ∃ Z, Z = lkC D := ⟨_, rfl⟩
      have MC := M75.castD (D' := C) (by rw [hC]; unfold lkC; rw [← hB])
      have PC : PR C := by rw [hC]; exact (by unfold lkC; rw [← hB]; exact (PB.tE _ _).go)
      have PCw := PC.w
      have C3 : C 0 31 = D 0 31 := by rw [hC]; unfold lkC; rw [← hB, go_0 _ (by decide), tE_0 _ _ _ (by decide)]; exact B3
      refine ⟨MC.k0, ?_⟩
      try rw [MC.f25]
      refine ⟨ir (by omega) (by omega), fun c84 => ?_, fun c84 => ?_⟩
      · refine ⟨MC.k0, ?_⟩
        try rw [MC.r37]
        refine MC.as13 (by omega) (by omega) (fun h95 M95 => ?_)
        refine ⟨M95.k0, ?_⟩
        try rw [M95.r37]
        refine M95.as13 (by omega) (by omega) (fun h106 M106 => ?_)
        refine ⟨M106.k0, ?_⟩
        try rw [M106.r37]
        refine M106.as13 (by omega) (by omega) (fun h118 M118 => ?_)
        refine ⟨M118.k0, ?_⟩
        try rw [M118.f31]
        rw [dst_row (by decide), dst_row (by decide), dst_row (by decide), C3]
        refine M118.p31 (fun h126 M126 => ?_)
        refine H _ _ rfl (M126.castD ?_)
        unfold lkD
        rw [← hC, ← hB, ← hA, ← hW]
        (repeat' split) <;> first | rfl | (exfalso; omega)
      · refine H _ _ rfl (MC.castD ?_)
        unfold lkD
        rw [← hC, ← hB, ← hA, ← hW]
        (repeat' split) <;> first | rfl | (exfalso; omega)
    · try rw [G3]
      refine ⟨MG.k0, ?_⟩
      try rw [MG.r35]
      refine ⟨MG.k0, ?_⟩
      try rw [MG.f31]
      refine ⟨MG.k0, ?_⟩
      refine S_X7_newName_11 MG PG (by omega) (by omega) (by exact NG) (fun x51 h51 e51 M51 => ?_)
      subst e51
      try rw [G3] at M51
      obtain ⟨W, hW⟩ : ∃ Z, Z = lkW D := ⟨_, rfl⟩
      have MW := M51.castD (D' := W) (by rw [hW]; unfold lkW; rw [← hF, ← hG]; first | (rw [if_pos (by omega)]; done) | (rw [if_neg (by omega)]; done))
      have PW : PR W := by rw [hW]; exact ((P.l1 _ _).go).nw _ _ _ (by decide) (by decide)
      have PWw := PW.w
      have W3 : W 0 31 = D 0 31 := by rw [hW]; unfold lkW; rw [nw_0 _ _ _ _ (by decide) (by decide), go_0 _ (by decide), l1_0 _ _ _ (by decide)]
      refine ⟨MW.k0, ?_⟩
      refine S_X7_takes MW PW (by omega) (fun x58 h58 e58 M58 => ?_)
      subst e58
      obtain ⟨A, hA⟩ : ∃ Z, Z = lkA D := ⟨_, rfl⟩
      have MA := M58.castD (D' := A) (by rw [hA]; unfold lkA; rw [← hW])
      have PA : PR A := by rw [hA]; exact (by unfold lkA; rw [← hW]; exact (PW.tE _ _).go)
      have PAw := PA.w
      have A3 : A 0 31 = D 0 31 := by rw [hA]; unfold lkA; rw [← hW, go_0 _ (by decide), tE_0 _ _ _ (by decide)]; exact W3
      refine ⟨MA.k0, ?_⟩
      refine S_X7_takes MA PA (by omega) (fun x66 h66 e66 M66 => ?_)
      subst e66
      obtain ⟨B, hB⟩ : ∃ Z, Z = lkB D := ⟨_, rfl⟩
      have MB := M66.castD (D' := B) (by rw [hB]; unfold lkB; rw [← hA])
      have PB : PR B := by rw [hB]; exact (by unfold lkB; rw [← hA]; exact (PA.tE _ _).go)
      have PBw := PB.w
      have B3 : B 0 31 = D 0 31 := by rw [hB]; unfold lkB; rw [← hA, go_0 _ (by decide), tE_0 _ _ _ (by decide)]; exact A3
      refine ⟨MB.k0, ?_⟩
      refine S_X7_takes MB PB (by omega) (fun x75 h75 e75 M75 => ?_)
      subst e75
      obtain ⟨C, hC⟩ : ∃ Z, Z = lkC D := ⟨_, rfl⟩
      have MC := M75.castD (D' := C) (by rw [hC]; unfold lkC; rw [← hB])
      have PC : PR C := by rw [hC]; exact (by unfold lkC; rw [← hB]; exact (PB.tE _ _).go)
      have PCw := PC.w
      have C3 : C 0 31 = D 0 31 := by rw [hC]; unfold lkC; rw [← hB, go_0 _ (by decide), tE_0 _ _ _ (by decide)]; exact B3
      refine ⟨MC.k0, ?_⟩
      try rw [MC.f25]
      refine ⟨ir (by omega) (by omega), fun c84 => ?_, fun c84 => ?_⟩
      · refine ⟨MC.k0, ?_⟩
        try rw [MC.r37]
        refine MC.as13 (by omega) (by omega) (fun h95 M95 => ?_)
        refine ⟨M95.k0, ?_⟩
        try rw [M95.r37]
        refine M95.as13 (by omega) (by omega) (fun h106 M106 => ?_)
        refine ⟨M106.k0, ?_⟩
        try rw [M106.r37]
        refine M106.as13 (by omega) (by omega) (fun h118 M118 => ?_)
        refine ⟨M118.k0, ?_⟩
        try rw [M118.f31]
        rw [dst_row (by decide), dst_row (by decide), dst_row (by decide), C3]
        refine M118.p31 (fun h126 M126 => ?_)
        refine H _ _ rfl (M126.castD ?_)
        unfold lkD
        rw [← hC, ← hB, ← hA, ← hW]
        (repeat' split) <;> first | rfl | (exfalso; omega)
      · refine H _ _ rfl (MC.castD ?_)
        unfold lkD
        rw [← hC, ← hB, ← hA, ← hW]
        (repeat' split) <;> first | rfl | (exfalso; omega)
  · refine ⟨M.k0, ?_⟩
    refine S_X7_failsIf M (by omega) (by exact P.w) (fun x16 h16 e16 M16 => ?_)
    subst e16
    obtain ⟨F, hF⟩ : ∃ Z, Z = l1D D 31 8 := ⟨_, rfl⟩
    have MF := M16.castD (D' := F) (by rw [hF]; unfold l1D fiD; (repeat' split) <;> first | rfl | (exfalso; omega))
    have PF : PR F := by rw [hF]; exact P.l1 _ _
    have PFw := PF.w
    have F3 : F 0 31 = D 0 31 := by rw [hF]; exact l1_0 _ _ _ (by decide)
    have NF : NB (F 11) := by rw [hF, l1_row _ _ _ (by decide)]; assumption
    refine ⟨MF.k0, ?_⟩
    refine S_X7_goesOn MF PF (fun x20 h20 e20 M20 => ?_)
    subst e20
    obtain ⟨G, hG⟩ : ∃ Z, Z = gD F := ⟨_, rfl⟩
    have MG := M20.castD (D' := G) (by rw [hG]; skip)
    have PG : PR G := by rw [hG]; exact PF.go
    have PGw := PG.w
    have G3 : G 0 31 = D 0 31 := by rw [hG, go_0 _ (by decide)]; exact F3
    have NG : NB (G 11) := by rw [hG, go_row _ (by decide)]; exact NF
    refine ⟨MG.k0, ?_⟩
    try rw [MG.f31]
    refine ⟨ir (by omega) (by omega), ir (by omega) (by omega), fun c29 => ?_, fun c29 => ?_⟩
    · refine ⟨MG.k0, ?_⟩
      try rw [MG.f31]
      try rw [G3]
      refine ⟨MG.k0, ?_⟩
      try rw [MG.r35]
      refine ⟨MG.k0, ?_⟩
      try rw [MG.f31]
      refine ⟨MG.k0, ?_⟩
      refine S_X7_newName_11 MG PG (by omega) (by omega) (by exact NG) (fun x51 h51 e51 M51 => ?_)
      subst e51
      try rw [G3] at M51
      obtain ⟨W, hW⟩ : ∃ Z, Z = lkW D := ⟨_, rfl⟩
      have MW := M51.castD (D' := W) (by rw [hW]; unfold lkW; rw [← hF, ← hG]; first | (rw [if_pos (by omega)]; done) | (rw [if_neg (by omega)]; done))
      have PW : PR W := by rw [hW]; exact ((P.l1 _ _).go).nw _ _ _ (by decide) (by decide)
      have PWw := PW.w
      have W3 : W 0 31 = D 0 31 := by rw [hW]; unfold lkW; rw [nw_0 _ _ _ _ (by decide) (by decide), go_0 _ (by decide), l1_0 _ _ _ (by decide)]
      refine ⟨MW.k0, ?_⟩
      refine S_X7_takes MW PW (by omega) (fun x58 h58 e58 M58 => ?_)
      subst e58
      obtain ⟨A, hA⟩ : ∃ Z, Z = lkA D := ⟨_, rfl⟩
      have MA := M58.castD (D' := A) (by rw [hA]; unfold lkA; rw [← hW])
      have PA : PR A := by rw [hA]; exact (by unfold lkA; rw [← hW]; exact (PW.tE _ _).go)
      have PAw := PA.w
      have A3 : A 0 31 = D 0 31 := by rw [hA]; unfold lkA; rw [← hW, go_0 _ (by decide), tE_0 _ _ _ (by decide)]; exact W3
      refine ⟨MA.k0, ?_⟩
      refine S_X7_takes MA PA (by omega) (fun x66 h66 e66 M66 => ?_)
      subst e66
      obtain ⟨B, hB⟩ : ∃ Z, Z = lkB D := ⟨_, rfl⟩
      have MB := M66.castD (D' := B) (by rw [hB]; unfold lkB; rw [← hA])
      have PB : PR B := by rw [hB]; exact (by unfold lkB; rw [← hA]; exact (PA.tE _ _).go)
      have PBw := PB.w
      have B3 : B 0 31 = D 0 31 := by rw [hB]; unfold lkB; rw [← hA, go_0 _ (by decide), tE_0 _ _ _ (by decide)]; exact A3
      refine ⟨MB.k0, ?_⟩
      refine S_X7_takes MB PB (by omega) (fun x75 h75 e75 M75 => ?_)
      subst e75
      obtain ⟨C, hC⟩ : ∃ Z, Z = lkC D := ⟨_, rfl⟩
      have MC := M75.castD (D' := C) (by rw [hC]; unfold lkC; rw [← hB])
      have PC : PR C := by rw [hC]; exact (by unfold lkC; rw [← hB]; exact (PB.tE _ _).go)
      have PCw := PC.w
      have C3 : C 0 31 = D 0 31 := by rw [hC]; unfold lkC; rw [← hB, go_0 _ (by decide), tE_0 _ _ _ (by decide)]; exact B3
      refine ⟨MC.k0, ?_⟩
      try rw [MC.f25]
      refine ⟨ir (by omega) (by omega), fun c84 => ?_, fun c84 => ?_⟩
      · refine ⟨MC.k0, ?_⟩
        try rw [MC.r37]
        refine MC.as13 (by omega) (by omega) (fun h95 M95 => ?_)
        refine ⟨M95.k0, ?_⟩
        try rw [M95.r37]
        refine M95.as13 (by omega) (by omega) (fun h106 M106 => ?_)
        refine ⟨M106.k0, ?_⟩
        try rw [M106.r37]
        refine M106.as13 (by omega) (by omega) (fun h118 M118 => ?_)
        refine ⟨M118.k0, ?_⟩
        try rw [M118.f31]
        rw [dst_row (by decide), dst_row (by decide), dst_row (by decide), C3]
        refine M118.p31 (fun h126 M126 => ?_)
        refine H _ _ rfl (M126.castD ?_)
        unfold lkD
        rw [← hC, ← hB, ← hA, ← hW]
        (repeat' split) <;> first | rfl | (exfalso; omega)
      · refine H _ _ rfl (MC.castD ?_)
        unfold lkD
        rw [← hC, ← hB, ← hA, ← hW]
        (repeat' split) <;> first | rfl | (exfalso; omega)
    · try rw [G3]
      refine ⟨MG.k0, ?_⟩
      try rw [MG.r35]
      refine ⟨MG.k0, ?_⟩
      try rw [MG.f31]
      refine ⟨MG.k0, ?_⟩
      refine S_X7_newName_11 MG PG (by omega) (by omega) (by exact NG) (fun x51 h51 e51 M51 => ?_)
      subst e51
      try rw [G3] at M51
      obtain ⟨W, hW⟩ : ∃ Z, Z = lkW D := ⟨_, rfl⟩
      have MW := M51.castD (D' := W) (by rw [hW]; unfold lkW; rw [← hF, ← hG]; first | (rw [if_pos (by omega)]; done) | (rw [if_neg (by omega)]; done))
      have PW : PR W := by rw [hW]; exact ((P.l1 _ _).go).nw _ _ _ (by decide) (by decide)
      have PWw := PW.w
      have W3 : W 0 31 = D 0 31 := by rw [hW]; unfold lkW; rw [nw_0 _ _ _ _ (by decide) (by decide), go_0 _ (by decide), l1_0 _ _ _ (by decide)]
      refine ⟨MW.k0, ?_⟩
      refine S_X7_takes MW PW (by omega) (fun x58 h58 e58 M58 => ?_)
      subst e58
      obtain ⟨A, hA⟩ : ∃ Z, Z = lkA D := ⟨_, rfl⟩
      have MA := M58.castD (D' := A) (by rw [hA]; unfold lkA; rw [← hW])
      have PA : PR A := by rw [hA]; exact (by unfold lkA; rw [← hW]; exact (PW.tE _ _).go)
      have PAw := PA.w
      have A3 : A 0 31 = D 0 31 := by rw [hA]; unfold lkA; rw [← hW, go_0 _ (by decide), tE_0 _ _ _ (by decide)]; exact W3
      refine ⟨MA.k0, ?_⟩
      refine S_X7_takes MA PA (by omega) (fun x66 h66 e66 M66 => ?_)
      subst e66
      obtain ⟨B, hB⟩ : ∃ Z, Z = lkB D := ⟨_, rfl⟩
      have MB := M66.castD (D' := B) (by rw [hB]; unfold lkB; rw [← hA])
      have PB : PR B := by rw [hB]; exact (by unfold lkB; rw [← hA]; exact (PA.tE _ _).go)
      have PBw := PB.w
      have B3 : B 0 31 = D 0 31 := by rw [hB]; unfold lkB; rw [← hA, go_0 _ (by decide), tE_0 _ _ _ (by decide)]; exact A3
      refine ⟨MB.k0, ?_⟩
      refine S_X7_takes MB PB (by omega) (fun x75 h75 e75 M75 => ?_)
      subst e75
      obtain ⟨C, hC⟩ : ∃ Z, Z = lkC D := ⟨_, rfl⟩
      have MC := M75.castD (D' := C) (by rw [hC]; unfold lkC; rw [← hB])
      have PC : PR C := by rw [hC]; exact (by unfold lkC; rw [← hB]; exact (PB.tE _ _).go)
      have PCw := PC.w
      have C3 : C 0 31 = D 0 31 := by rw [hC]; unfold lkC; rw [← hB, go_0 _ (by decide), tE_0 _ _ _ (by decide)]; exact B3
      refine ⟨MC.k0, ?_⟩
      try rw [MC.f25]
      refine ⟨ir (by omega) (by omega), fun c84 => ?_, fun c84 => ?_⟩
      · refine ⟨MC.k0, ?_⟩
        try rw [MC.r37]
        refine MC.as13 (by omega) (by omega) (fun h95 M95 => ?_)
        refine ⟨M95.k0, ?_⟩
        try rw [M95.r37]
        refine M95.as13 (by omega) (by omega) (fun h106 M106 => ?_)
        refine ⟨M106.k0, ?_⟩
        try rw [M106.r37]
        refine M106.as13 (by omega) (by omega) (fun h118 M118 => ?_)
        refine ⟨M118.k0, ?_⟩
        try rw [M118.f31]
        rw [dst_row (by decide), dst_row (by decide), dst_row (by decide), C3]
        refine M118.p31 (fun h126 M126 => ?_)
        refine H _ _ rfl (M126.castD ?_)
        unfold lkD
        rw [← hC, ← hB, ← hA, ← hW]
        (repeat' split) <;> first | rfl | (exfalso; omega)
      · refine H _ _ rfl (MC.castD ?_)
        unfold lkD
        rw [← hC, ← hB, ← hA, ← hW]
        (repeat' split) <;> first | rfl | (exfalso; omega)
theorem S_X7_hideLine {d b : Nat} {h0 h : PH} {D : Nat → Int → Int} {s : Int → Int} {t : Int} {Q : Int → PH → Prop} {X : Nat → PH → Prop} (M : Mt b h0 h D s t) (P : PR D) (hK : KP D) (hM : ∀ p, 0 ≤ p → p < 6 → InR (D 14 p)) (H : ∀ (x : Int) h', x = 0 → Mt b h0 h' (lhD D) s t → Q x h') : RUN GQ (d + 5) m_X7_hideLine [pA b] h Q X := by
  have Pw := P.w
  rw [e_X7_hideLine]
  refine WP.of (RUN.mono GQ _) (cuts := []) (n := 400) (v_X7_hideLine_0 _ _ _ _ _ _ ?_)
  refine ⟨M.k0, ?_⟩
  refine S_X7_goesOn M P (fun x1 h1 e1 M1 => ?_)
  subst e1
  obtain ⟨G, hG⟩ : ∃ Z, Z = gD D := ⟨_, rfl⟩
  have MG := M1.castD (D' := G) (by rw [hG]; skip)
  have PG : PR G := by rw [hG]; exact P.go
  have PGw := PG.w
  have KG := hK.go
  rw [← hG] at KG
  have G31 : G 0 31 = D 0 31 := by rw [hG]; exact go_0 _ (by decide)
  have G32 : G 0 32 = D 0 32 := by rw [hG]; exact go_0 _ (by decide)
  obtain ⟨k1, k2, k3, k4⟩ := id KG
  refine ⟨MG.k0, ?_⟩
  refine S_X7_programHere MG PG (by omega) (by exact k4) (fun x5 h5 e5 M5 => ?_)
  subst e5
  rw [G32] at M5
  rw [G32]
  obtain ⟨B, hB⟩ : ∃ Z, Z = lhB D := ⟨_, rfl⟩
  have MB := M5.castD (D' := B) (by rw [hB]; unfold lhB; rw [← hG])
  have PB : PR B := by rw [hB]; exact (by unfold lhB; rw [← hG]; exact (PG.nh _ _).go)
  have PBw := PB.w
  have KB : KP B := by rw [hB]; unfold lhB; rw [← hG]; exact (KG.nh _ _).go
  have B31 : B 0 31 = D 0 31 := by rw [hB]; unfold lhB; rw [← hG, go_0 _ (by decide), nh_0 _ _ _ (by decide) (by decide), G31]
  obtain ⟨p, epp⟩ : ∃ z, z = lhp D := ⟨_, rfl⟩
  have ep2 : nhV 12 (D 0 32) G = p := by rw [epp]; unfold lhp; rw [← hG]
  have rp0 := nhV_rng 12 (many := D 0 32) G (by omega)
  rw [ep2] at rp0
  rw [ep2]
  obtain ⟨q1, q2, q3, q4⟩ := id KB
  refine ⟨MB.k0, ?_⟩
  try rw [MB.r35]
  refine ⟨MB.k0, ?_⟩
  try rw [MB.f31]
  refine ⟨MB.k0, ?_⟩
  refine S_X7_namedHere_11 MB PB (by omega) (by exact q3) (fun x18 h18 e18 M18 => ?_)
  subst e18
  rw [B31] at M18
  rw [B31]
  obtain ⟨C, hC⟩ : ∃ Z, Z = lhC D := ⟨_, rfl⟩
  have MC := M18.castD (D' := C) (by rw [hC]; unfold lhC; rw [← hB])
  have PC : PR C := by rw [hC]; exact (by unfold lhC; rw [← hB]; exact PB.nh _ _)
  have PCw := PC.w
  obtain ⟨k, ekk⟩ : ∃ z, z = lhk D := ⟨_, rfl⟩
  have ek2 : nhV 11 (D 0 31) B = k := by rw [ekk]; unfold lhk; rw [← hB]
  rw [ek2]
  have hb1 := band_InR (bshr (C 14 p) k) 1
  refine ⟨MC.k0, ?_⟩
  try rw [MC.f25]
  refine ⟨ir (by omega) (by omega), fun c27 => ?_, fun c27 => ?_⟩
  · refine ⟨MC.k0, ?_⟩
    try rw [MC.r38]
    refine MC.ld14 (by omega) (by omega) (fun er => ?_)
    try rw [er]
    clear er
    refine ⟨ir (by omega) (by omega), ir (by omega) (by omega), fun c41 => ?_, fun c41 => ?_⟩
    · refine ⟨MC.k0, ?_⟩
      refine S_X7_failsIf MC (by omega) (by exact PC.w) (fun x50 h50 e50 M50 => ?_)
      subst e50
      obtain ⟨E, hE⟩ : ∃ Z, Z = lhE D := ⟨_, rfl⟩
      have ME := M50.castD (D' := E) (by rw [hE]; unfold lhE; rw [← hC, ← epp, ← ekk]; unfold fiD; (repeat' split) <;> first | rfl | (exfalso; omega))
      have PE : PR E := by rw [hE]; exact (by unfold lhE; rw [← hC]; split <;> first | exact PC.fl (by decide) | exact PC)
      have PEw := PE.w
      refine ⟨ME.k0, ?_⟩
      try rw [ME.f25]
      refine ⟨ir (by omega) (by omega), fun c57 => ?_, fun c57 => ?_⟩
      · refine ⟨ME.k0, ?_⟩
        try rw [ME.r38]
        refine ME.ld14 (by omega) (by omega) (fun er => ?_)
        try rw [er]
        clear er
        refine ME.as14 (by omega) (by omega) (fun h71 M71 => ?_)
        obtain ⟨F, hF⟩ : ∃ Z, Z = lhF D := ⟨_, rfl⟩
        have MF := M71.castD (D' := F) (by rw [hF]; unfold lhF; rw [← hE, ← epp, ← ekk]; (repeat' split) <;> first | rfl | (exfalso; omega))
        have PF : PR F := by rw [hF]; exact (by unfold lhF; rw [← hE]; split <;> first | exact PE.row _ _ (by decide) (by decide) | exact PE)
        have PFw := PF.w
        refine ⟨MF.k0, ?_⟩
        refine S_X7_goesOn MF PF (fun x73 h73 e73 M73 => ?_)
        subst e73
        exact H _ _ rfl (M73.castD (by unfold lhD; rw [← hF]))
      · obtain ⟨F, hF⟩ : ∃ Z, Z = lhF D := ⟨_, rfl⟩
        have MF := ME.castD (D' := F) (by rw [hF]; unfold lhF; rw [← hE, ← epp, ← ekk]; (repeat' split) <;> first | rfl | (exfalso; omega))
        have PF : PR F := by rw [hF]; exact (by unfold lhF; rw [← hE]; split <;> first | exact PE.row _ _ (by decide) (by decide) | exact PE)
        have PFw := PF.w
        refine ⟨MF.k0, ?_⟩
        refine S_X7_goesOn MF PF (fun x73 h73 e73 M73 => ?_)
        subst e73
        exact H _ _ rfl (M73.castD (by unfold lhD; rw [← hF]))
    · refine ⟨MC.k0, ?_⟩
      refine S_X7_failsIf MC (by omega) (by exact PC.w) (fun x50 h50 e50 M50 => ?_)
      subst e50
      obtain ⟨E, hE⟩ : ∃ Z, Z = lhE D := ⟨_, rfl⟩
      have ME := M50.castD (D' := E) (by rw [hE]; unfold lhE; rw [← hC, ← epp, ← ekk]; unfold fiD; (repeat' split) <;> first | rfl | (exfalso; omega))
      have PE : PR E := by rw [hE]; exact (by unfold lhE; rw [← hC]; split <;> first | exact PC.fl (by decide) | exact PC)
      have PEw := PE.w
      refine ⟨ME.k0, ?_⟩
      try rw [ME.f25]
      refine ⟨ir (by omega) (by omega), fun c57 => ?_, fun c57 => ?_⟩
      · refine ⟨ME.k0, ?_⟩
        try rw [ME.r38]
        refine ME.ld14 (by omega) (by omega) (fun er => ?_)
        try rw [er]
        clear er
        refine ME.as14 (by omega) (by omega) (fun h71 M71 => ?_)
        obtain ⟨F, hF⟩ : ∃ Z, Z = lhF D := ⟨_, rfl⟩
        have MF := M71.castD (D' := F) (by rw [hF]; unfold lhF; rw [← hE, ← epp, ← ekk]; (repeat' split) <;> first | rfl | (exfalso; omega))
        have PF : PR F := by rw [hF]; exact (by unfold lhF; rw [← hE]; split <;> first | exact PE.row _ _ (by decide) (by decide) | exact PE)
        have PFw := PF.w
        refine ⟨MF.k0, ?_⟩
        refine S_X7_goesOn MF PF (fun x73 h73 e73 M73 => ?_)
        subst e73
        exact H _ _ rfl (M73.castD (by unfold lhD; rw [← hF]))
      · obtain ⟨F, hF⟩ : ∃ Z, Z = lhF D := ⟨_, rfl⟩
        have MF := ME.castD (D' := F) (by rw [hF]; unfold lhF; rw [← hE, ← epp, ← ekk]; (repeat' split) <;> first | rfl | (exfalso; omega))
        have PF : PR F := by rw [hF]; exact (by unfold lhF; rw [← hE]; split <;> first | exact PE.row _ _ (by decide) (by decide) | exact PE)
        have PFw := PF.w
        refine ⟨MF.k0, ?_⟩
        refine S_X7_goesOn MF PF (fun x73 h73 e73 M73 => ?_)
        subst e73
        exact H _ _ rfl (M73.castD (by unfold lhD; rw [← hF]))
  · refine ⟨MC.k0, ?_⟩
    refine S_X7_failsIf MC (by omega) (by exact PC.w) (fun x50 h50 e50 M50 => ?_)
    subst e50
    obtain ⟨E, hE⟩ : ∃ Z, Z = lhE D := ⟨_, rfl⟩
    have ME := M50.castD (D' := E) (by rw [hE]; unfold lhE; rw [← hC, ← epp, ← ekk]; unfold fiD; (repeat' split) <;> first | rfl | (exfalso; omega))
    have PE : PR E := by rw [hE]; exact (by unfold lhE; rw [← hC]; split <;> first | exact PC.fl (by decide) | exact PC)
    have PEw := PE.w
    refine ⟨ME.k0, ?_⟩
    try rw [ME.f25]
    refine ⟨ir (by omega) (by omega), fun c57 => ?_, fun c57 => ?_⟩
    · refine ⟨ME.k0, ?_⟩
      try rw [ME.r38]
      refine ME.ld14 (by omega) (by omega) (fun er => ?_)
      try rw [er]
      clear er
      refine ME.as14 (by omega) (by omega) (fun h71 M71 => ?_)
      obtain ⟨F, hF⟩ : ∃ Z, Z = lhF D := ⟨_, rfl⟩
      have MF := M71.castD (D' := F) (by rw [hF]; unfold lhF; rw [← hE, ← epp, ← ekk]; (repeat' split) <;> first | rfl | (exfalso; omega))
      have PF : PR F := by rw [hF]; exact (by unfold lhF; rw [← hE]; split <;> first | exact PE.row _ _ (by decide) (by decide) | exact PE)
      have PFw := PF.w
      refine ⟨MF.k0, ?_⟩
      refine S_X7_goesOn MF PF (fun x73 h73 e73 M73 => ?_)
      subst e73
      exact H _ _ rfl (M73.castD (by unfold lhD; rw [← hF]))
    · obtain ⟨F, hF⟩ : ∃ Z, Z = lhF D := ⟨_, rfl⟩
      have MF := ME.castD (D' := F) (by rw [hF]; unfold lhF; rw [← hE, ← epp, ← ekk]; (repeat' split) <;> first | rfl | (exfalso; omega))
      have PF : PR F := by rw [hF]; exact (by unfold lhF; rw [← hE]; split <;> first | exact PE.row _ _ (by decide) (by decide) | exact PE)
      have PFw := PF.w
      refine ⟨MF.k0, ?_⟩
      refine S_X7_goesOn MF PF (fun x73 h73 e73 M73 => ?_)
      subst e73
      exact H _ _ rfl (M73.castD (by unfold lhD; rw [← hF]))
theorem S_X7_sendLine {d b : Nat} {h0 h : PH} {D : Nat → Int → Int} {s : Int → Int} {t : Int} {Q : Int → PH → Prop} {X : Nat → PH → Prop} (M : Mt b h0 h D s t) (P : PR D) (hK : KP D) (h34 : 0 ≤ D 0 34 ∧ D 0 34 ≤ 12) (H : ∀ (x : Int) h', x = 0 → Mt b h0 h' (lsD D) s t → Q x h') : RUN GQ (d + 5) m_X7_sendLine [pA b] h Q X := by
  have Pw := P.w
  rw [e_X7_sendLine]
  refine WP.of (RUN.mono GQ _) (cuts := []) (n := 400) (v_X7_sendLine_0 _ _ _ _ _ _ _ ?_)
  refine ⟨M.k0, ?_⟩
  try rw [M.f34]
  refine ⟨ir (by omega) (by omega), ir (by omega) (by omega), fun c7 => ?_, fun c7 => ?_⟩
  · refine ⟨M.k0, ?_⟩
    refine S_X7_failsIf M (by omega) (by exact P.w) (fun x16 h16 e16 M16 => ?_)
    subst e16
    obtain ⟨F, hF⟩ : ∃ Z, Z = l1D D 34 12 := ⟨_, rfl⟩
    have MF := M16.castD (D' := F) (by rw [hF]; unfold l1D fiD; (repeat' split) <;> first | rfl | (exfalso; omega))
    have PF : PR F := by rw [hF]; exact P.l1 _ _
    have PFw := PF.w
    have KF : KP F := by rw [hF]; exact hK.l1 _ _
    have F31 : F 0 31 = D 0 31 := by rw [hF]; exact l1_0 _ _ _ (by decide)
    have F32 : F 0 32 = D 0 32 := by rw [hF]; exact l1_0 _ _ _ (by decide)
    have F34 : F 0 34 = D 0 34 := by rw [hF]; exact l1_0 _ _ _ (by decide)
    refine ⟨MF.k0, ?_⟩
    refine S_X7_goesOn MF PF (fun x20 h20 e20 M20 => ?_)
    subst e20
    obtain ⟨A, hA⟩ : ∃ Z, Z = lsA D := ⟨_, rfl⟩
    have MA := M20.castD (D' := A) (by rw [hA]; unfold lsA; rw [← hF])
    have PA : PR A := by rw [hA]; exact (by unfold lsA; rw [← hF]; exact PF.go)
    have PAw := PA.w
    have KA : KP A := by rw [hA]; unfold lsA; rw [← hF]; exact KF.go
    have A31 : A 0 31 = D 0 31 := by rw [hA]; unfold lsA; rw [← hF, go_0 _ (by decide), F31]
    have A32 : A 0 32 = D 0 32 := by rw [hA]; unfold lsA; rw [← hF, go_0 _ (by decide), F32]
    have A34 : A 0 34 = D 0 34 := by rw [hA]; unfold lsA; rw [← hF, go_0 _ (by decide), F34]
    obtain ⟨k1, k2, k3, k4⟩ := id KA
    refine ⟨MA.k0, ?_⟩
    refine S_X7_programHere MA PA (by omega) (by exact k4) (fun x24 h24 e24 M24 => ?_)
    subst e24
    rw [A32] at M24
    rw [A32]
    obtain ⟨B, hB⟩ : ∃ Z, Z = lsB D := ⟨_, rfl⟩
    have MB := M24.castD (D' := B) (by rw [hB]; unfold lsB; rw [← hA])
    have PB : PR B := by rw [hB]; exact (by unfold lsB; rw [← hA]; exact (PA.nh _ _).go)
    have PBw := PB.w
    have KB : KP B := by rw [hB]; unfold lsB; rw [← hA]; exact (KA.nh _ _).go
    have B31 : B 0 31 = D 0 31 := by rw [hB]; unfold lsB; rw [← hA, go_0 _ (by decide), nh_0 _ _ _ (by decide) (by decide), A31]
    have B34 : B 0 34 = D 0 34 := by rw [hB]; unfold lsB; rw [← hA, go_0 _ (by decide), nh_0 _ _ _ (by decide) (by decide), A34]
    obtain ⟨p, epp⟩ : ∃ z, z = lsp D := ⟨_, rfl⟩
    have ep2 : nhV 12 (D 0 32) A = p := by rw [epp]; unfold lsp; rw [← hA]
    rw [ep2]
    obtain ⟨q1, q2, q3, q4⟩ := id KB
    refine ⟨MB.k0, ?_⟩
    refine S_X7_kindHere MB PB (by omega) (by exact q3) (fun x29 h29 e29 M29 => ?_)
    subst e29
    rw [B31] at M29
    rw [B31]
    obtain ⟨C, hC⟩ : ∃ Z, Z = lsC D := ⟨_, rfl⟩
    have MC := M29.castD (D' := C) (by rw [hC]; unfold lsC; rw [← hB])
    have PC : PR C := by rw [hC]; exact (by unfold lsC; rw [← hB]; exact (PB.nh _ _).go)
    have PCw := PC.w
    have C34 : C 0 34 = D 0 34 := by rw [hC]; unfold lsC; rw [← hB, go_0 _ (by decide), nh_0 _ _ _ (by decide) (by decide), B34]
    obtain ⟨k, ekk⟩ : ∃ z, z = lsk D := ⟨_, rfl⟩
    have ek2 : nhV 11 (D 0 31) B = k := by rw [ekk]; unfold lsk; rw [← hB]
    rw [ek2]
    refine ⟨MC.k0, ?_⟩
    refine S_X7_takes MC PC (by omega) (fun x38 h38 e38 M38 => ?_)
    subst e38
    obtain ⟨E, hE⟩ : ∃ Z, Z = lsE D := ⟨_, rfl⟩
    have ME := M38.castD (D' := E) (by rw [hE]; unfold lsE; rw [← hC])
    have PE : PR E := by rw [hE]; exact (by unfold lsE; rw [← hC]; exact (PC.tE _ _).go)
    have PEw := PE.w
    have E34 : E 0 34 = D 0 34 := by rw [hE]; unfold lsE; rw [← hC, go_0 _ (by decide), tE_0 _ _ _ (by decide), C34]
    refine ⟨ME.k0, ?_⟩
    try rw [ME.f25]
    refine ⟨ir (by omega) (by omega), fun c46 => ?_, fun c46 => ?_⟩
    · have rm := ls_room (D := D) (by rw [← hE]; exact c46)
      refine ⟨ME.k0, ?_⟩
      try rw [ME.r42]
      refine ⟨ME.k0, ?_⟩
      try rw [ME.f34]
      rw [E34]
      refine ME.as18 (by omega) (by omega) (fun h60 M60 => ?_)
      refine ⟨M60.k0, ?_⟩
      try rw [M60.r42]
      refine ⟨M60.k0, ?_⟩
      try rw [M60.f34]
      rw [dst_row (by decide), E34]
      refine M60.as18 (by omega) (by omega) (fun h74 M74 => ?_)
      refine ⟨M74.k0, ?_⟩
      try rw [M74.r42]
      refine ⟨M74.k0, ?_⟩
      try rw [M74.f34]
      rw [dst_row (by decide), dst_row (by decide), E34]
      refine M74.as18 (by omega) (by omega) (fun h88 M88 => ?_)
      refine ⟨M88.k0, ?_⟩
      try rw [M88.f34]
      rw [dst_row (by decide), dst_row (by decide), dst_row (by decide), E34]
      refine M88.p34 (fun h96 M96 => ?_)
      refine H _ _ rfl (M96.castD ?_)
      unfold lsD
      rw [← hE, ← hC, ← epp, ← ekk]
      (repeat' split) <;> first | rfl | (exfalso; omega)
    · refine H _ _ rfl (ME.castD ?_)
      unfold lsD
      rw [← hE, ← hC, ← epp, ← ekk]
      (repeat' split) <;> first | rfl | (exfalso; omega)
  · refine ⟨M.k0, ?_⟩
    refine S_X7_failsIf M (by omega) (by exact P.w) (fun x16 h16 e16 M16 => ?_)
    subst e16
    obtain ⟨F, hF⟩ : ∃ Z, Z = l1D D 34 12 := ⟨_, rfl⟩
    have MF := M16.castD (D' := F) (by rw [hF]; unfold l1D fiD; (repeat' split) <;> first | rfl | (exfalso; omega))
    have PF : PR F := by rw [hF]; exact P.l1 _ _
    have PFw := PF.w
    have KF : KP F := by rw [hF]; exact hK.l1 _ _
    have F31 : F 0 31 = D 0 31 := by rw [hF]; exact l1_0 _ _ _ (by decide)
    have F32 : F 0 32 = D 0 32 := by rw [hF]; exact l1_0 _ _ _ (by decide)
    have F34 : F 0 34 = D 0 34 := by rw [hF]; exact l1_0 _ _ _ (by decide)
    refine ⟨MF.k0, ?_⟩
    refine S_X7_goesOn MF PF (fun x20 h20 e20 M20 => ?_)
    subst e20
    obtain ⟨A, hA⟩ : ∃ Z, Z = lsA D := ⟨_, rfl⟩
    have MA := M20.castD (D' := A) (by rw [hA]; unfold lsA; rw [← hF])
    have PA : PR A := by rw [hA]; exact (by unfold lsA; rw [← hF]; exact PF.go)
    have PAw := PA.w
    have KA : KP A := by rw [hA]; unfold lsA; rw [← hF]; exact KF.go
    have A31 : A 0 31 = D 0 31 := by rw [hA]; unfold lsA; rw [← hF, go_0 _ (by decide), F31]
    have A32 : A 0 32 = D 0 32 := by rw [hA]; unfold lsA; rw [← hF, go_0 _ (by decide), F32]
    have A34 : A 0 34 = D 0 34 := by rw [hA]; unfold lsA; rw [← hF, go_0 _ (by decide), F34]
    obtain ⟨k1, k2, k3, k4⟩ := id KA
    refine ⟨MA.k0, ?_⟩
    refine S_X7_programHere MA PA (by omega) (by exact k4) (fun x24 h24 e24 M24 => ?_)
    subst e24
    rw [A32] at M24
    rw [A32]
    obtain ⟨B, hB⟩ : ∃ Z, Z = lsB D := ⟨_, rfl⟩
    have MB := M24.castD (D' := B) (by rw [hB]; unfold lsB; rw [← hA])
    have PB : PR B := by rw [hB]; exact (by unfold lsB; rw [← hA]; exact (PA.nh _ _).go)
    have PBw := PB.w
    have KB : KP B := by rw [hB]; unfold lsB; rw [← hA]; exact (KA.nh _ _).go
    have B31 : B 0 31 = D 0 31 := by rw [hB]; unfold lsB; rw [← hA, go_0 _ (by decide), nh_0 _ _ _ (by decide) (by decide), A31]
    have B34 : B 0 34 = D 0 34 := by rw [hB]; unfold lsB; rw [← hA, go_0 _ (by decide), nh_0 _ _ _ (by decide) (by decide), A34]
    obtain ⟨p, epp⟩ : ∃ z, z = lsp D := ⟨_, rfl⟩
    have ep2 : nhV 12 (D 0 32) A = p := by rw [epp]; unfold lsp; rw [← hA]
    rw [ep2]
    obtain ⟨q1, q2, q3, q4⟩ := id KB
    refine ⟨MB.k0, ?_⟩
    refine S_X7_kindHere MB PB (by omega) (by exact q3) (fun x29 h29 e29 M29 => ?_)
    subst e29
    rw [B31] at M29
    rw [B31]
    obtain ⟨C, hC⟩ : ∃ Z, Z = lsC D := ⟨_, rfl⟩
    have MC := M29.castD (D' := C) (by rw [hC]; unfold lsC; rw [← hB])
    have PC : PR C := by rw [hC]; exact (by unfold lsC; rw [← hB]; exact (PB.nh _ _).go)
    have PCw := PC.w
    have C34 : C 0 34 = D 0 34 := by rw [hC]; unfold lsC; rw [← hB, go_0 _ (by decide), nh_0 _ _ _ (by decide) (by decide), B34]
    obtain ⟨k, ekk⟩ : ∃ z, z = lsk D := ⟨_, rfl⟩
    have ek2 : nhV 11 (D 0 31) B = k := by rw [ekk]; unfold lsk; rw [← hB]
    rw [ek2]
    refine ⟨MC.k0, ?_⟩
    refine S_X7_takes MC PC (by omega) (fun x38 h38 e38 M38 => ?_)
    subst e38
    obtain ⟨E, hE⟩ : ∃ Z, Z = lsE D := ⟨_, rfl⟩
    have ME := M38.castD (D' := E) (by rw [hE]; unfold lsE; rw [← hC])
    have PE : PR E := by rw [hE]; exact (by unfold lsE; rw [← hC]; exact (PC.tE _ _).go)
    have PEw := PE.w
    have E34 : E 0 34 = D 0 34 := by rw [hE]; unfold lsE; rw [← hC, go_0 _ (by decide), tE_0 _ _ _ (by decide), C34]
    refine ⟨ME.k0, ?_⟩
    try rw [ME.f25]
    refine ⟨ir (by omega) (by omega), fun c46 => ?_, fun c46 => ?_⟩
    · have rm := ls_room (D := D) (by rw [← hE]; exact c46)
      refine ⟨ME.k0, ?_⟩
      try rw [ME.r42]
      refine ⟨ME.k0, ?_⟩
      try rw [ME.f34]
      rw [E34]
      refine ME.as18 (by omega) (by omega) (fun h60 M60 => ?_)
      refine ⟨M60.k0, ?_⟩
      try rw [M60.r42]
      refine ⟨M60.k0, ?_⟩
      try rw [M60.f34]
      rw [dst_row (by decide), E34]
      refine M60.as18 (by omega) (by omega) (fun h74 M74 => ?_)
      refine ⟨M74.k0, ?_⟩
      try rw [M74.r42]
      refine ⟨M74.k0, ?_⟩
      try rw [M74.f34]
      rw [dst_row (by decide), dst_row (by decide), E34]
      refine M74.as18 (by omega) (by omega) (fun h88 M88 => ?_)
      refine ⟨M88.k0, ?_⟩
      try rw [M88.f34]
      rw [dst_row (by decide), dst_row (by decide), dst_row (by decide), E34]
      refine M88.p34 (fun h96 M96 => ?_)
      refine H _ _ rfl (M96.castD ?_)
      unfold lsD
      rw [← hE, ← hC, ← epp, ← ekk]
      (repeat' split) <;> first | rfl | (exfalso; omega)
    · refine H _ _ rfl (ME.castD ?_)
      unfold lsD
      rw [← hE, ← hC, ← epp, ← ekk]
      (repeat' split) <;> first | rfl | (exfalso; omega)
theorem S_X7_actHere {d b : Nat} {h0 h : PH} {D : Nat → Int → Int} {s : Int → Int} {t : Int} {Q : Int → PH → Prop} {X : Nat → PH → Prop} (M : Mt b h0 h D s t) (P : PR D) (hW : WRD h)  (H : ∀ x : Int, x = aht D → Q x h) : RUN GQ (d + 8) m_X7_actHere [pA b] h Q X := by
  have z25 := wdv_01 D (wdt 25)
  have z26 := wdv_01 D (wdt 26)
  have z27 := wdv_01 D (wdt 27)
  have z28 := wdv_01 D (wdt 28)
  rw [e_X7_actHere]
  refine WP.of (RUN.mono GQ _) (cuts := []) (n := 400) (v_X7_actHere_0 _ _ _ _ ?_)
  refine ⟨M.k0, ?_⟩
  refine S_X7_isWord M P (hW 25 (by decide) (by decide)) (by decide) (fun x3 e3 => ?_)
  subst e3
  refine ⟨ir (by omega) (by omega), fun c6 => ?_, fun c6 => ?_⟩
  · refine ⟨M.k0, ?_⟩
    refine S_X7_isWord M P (hW 26 (by decide) (by decide)) (by decide) (fun x16 e16 => ?_)
    subst e16
    refine ⟨ir (by omega) (by omega), fun c19 => ?_, fun c19 => ?_⟩
    · refine ⟨M.k0, ?_⟩
      refine S_X7_isWord M P (hW 27 (by decide) (by decide)) (by decide) (fun x29 e29 => ?_)
      subst e29
      refine ⟨ir (by omega) (by omega), fun c32 => ?_, fun c32 => ?_⟩
      · refine ⟨M.k0, ?_⟩
        refine S_X7_isWord M P (hW 28 (by decide) (by decide)) (by decide) (fun x42 e42 => ?_)
        subst e42
        refine ⟨ir (by omega) (by omega), fun c45 => ?_, fun c45 => ?_⟩
        · refine H _ ?_
          unfold aht
          (repeat' split) <;> first | rfl | (exfalso; omega)
        · refine H _ ?_
          unfold aht
          (repeat' split) <;> first | rfl | (exfalso; omega)
      · refine H _ ?_
        unfold aht
        (repeat' split) <;> first | rfl | (exfalso; omega)
    · refine H _ ?_
      unfold aht
      (repeat' split) <;> first | rfl | (exfalso; omega)
  · refine H _ ?_
    unfold aht
    (repeat' split) <;> first | rfl | (exfalso; omega)
