/-! the model's beginning (written by wip/whole/tools/eng.py) -/
section VCS
variable {call : PC} {mc ms fr : Nat} {Q : Int → PH → Prop} {X : Nat → PH → Prop} {K : PK}
set_option maxRecDepth 100000 in
theorem v_X7_begins_0 (a0 : Nat) (i1 : Int) (z2 : Option PV) (z3 : Option PV) (z4 : Option PV) (z5 : Option PV) (h : PH) (c s : Nat) (H : K 2 [some (pA a0), some (pI i1), some (pI 1), z3, z4, z5] [] h c s) : wpc k_X7_begins [] call mc ms fr Q X [2] K 400 (pto 0 k_X7_begins) [some (pA a0), some (pI i1), z2, z3, z4, z5] [] h c s :=
  H
set_option maxRecDepth 100000 in
theorem v_X7_begins_2 (a0 : Nat) (i1 : Int) (i2 : Int) (z3 : Option PV) (z4 : Option PV) (z5 : Option PV) (h : PH) (c s : Nat) (H : InR i2 ∧ (i2 = 0 →
 Q 0 h) ∧
(i2 ≠ 0 →
 hk h a0 = 8 ∧ call m_X7_nextOf [pA a0, pI i1] h (fun x1 h1 =>
 InR x1 ∧ InR ((-1)) ∧ (x1 = ((-1)) →
 InR x1 ∧ InR ((-1)) ∧ (x1 = ((-1)) →
 InR 0 ∧ ((0 : Int) = 0 →
 K 2 [some (pA a0), some (pI i1), some (pI 0), some (pI x1), some (pI 0), z5] [] h1 c s) ∧
((0 : Int) ≠ 0 →
 hk h1 a0 = 8 ∧ hk h1 a0 = 8 ∧ call m_X7_inQueue [pA a0, pI i1, pI x1, pI 1] h1 (fun x2 h2 =>
 (hk h2 (hr h1 a0 8) = 20 ∨ hk h2 (hr h1 a0 8) = 26) ∧ (0 ≤ ((8 * i1) + x2) ∧ ((8 * i1) + x2) < (hl h2 (hr h1 a0 8) : Int)) ∧ InR 0 ∧ ((0 : Int) = 0 →
 InR 0 ∧ ((0 : Int) = 0 →
 hk h2 a0 = 8 ∧ call m_X7_endsInQueue [pA a0, pI i1, pI x1, pI 1] h2 (fun _ h3 =>
 K 2 [some (pA a0), some (pI i1), some (pI 0), some (pI x1), some (pI 0), some (pI (hi h2 (hr h1 a0 8) (Int.toNat (((8 * i1) + x2)))))] [] h3 c s) X) ∧
((0 : Int) ≠ 0 →
 hk h2 a0 = 8 ∧ call m_X7_endsInQueue [pA a0, pI i1, pI x1, pI 4] h2 (fun _ h4 =>
 K 2 [some (pA a0), some (pI i1), some (pI 0), some (pI x1), some (pI 0), some (pI (hi h2 (hr h1 a0 8) (Int.toNat (((8 * i1) + x2)))))] [] h4 c s) X)) ∧
((0 : Int) ≠ 0 →
 InR (hi h2 (hr h1 a0 8) (Int.toNat (((8 * i1) + x2)))) ∧ ((hi h2 (hr h1 a0 8) (Int.toNat (((8 * i1) + x2)))) = 0 →
 InR 0 ∧ ((0 : Int) = 0 →
 hk h2 a0 = 8 ∧ call m_X7_endsInQueue [pA a0, pI i1, pI x1, pI 1] h2 (fun _ h5 =>
 K 2 [some (pA a0), some (pI i1), some (pI 0), some (pI x1), some (pI 0), some (pI (hi h2 (hr h1 a0 8) (Int.toNat (((8 * i1) + x2)))))] [] h5 c s) X) ∧
((0 : Int) ≠ 0 →
 hk h2 a0 = 8 ∧ call m_X7_endsInQueue [pA a0, pI i1, pI x1, pI 4] h2 (fun _ h6 =>
 K 2 [some (pA a0), some (pI i1), some (pI 0), some (pI x1), some (pI 0), some (pI (hi h2 (hr h1 a0 8) (Int.toNat (((8 * i1) + x2)))))] [] h6 c s) X)) ∧
((hi h2 (hr h1 a0 8) (Int.toNat (((8 * i1) + x2)))) ≠ 0 →
 hk h2 a0 = 8 ∧ call m_X7_stacks [pA a0, pI i1, pI x1, pI 0, pI (hi h2 (hr h1 a0 8) (Int.toNat (((8 * i1) + x2))))] h2 (fun _ h7 =>
 K 2 [some (pA a0), some (pI i1), some (pI 0), some (pI x1), some (pI 0), some (pI (hi h2 (hr h1 a0 8) (Int.toNat (((8 * i1) + x2)))))] [] h7 c s) X))) X)) ∧
(x1 ≠ ((-1)) →
 hk h1 a0 = 8 ∧ call m_X7_mayBegin [pA a0, pI i1, pI 0] h1 (fun x8 h8 =>
 InR x8 ∧ (x8 = 0 →
 InR 0 ∧ ((0 : Int) = 0 →
 K 2 [some (pA a0), some (pI i1), some (pI 0), some (pI x1), some (pI 0), z5] [] h8 c s) ∧
((0 : Int) ≠ 0 →
 hk h8 a0 = 8 ∧ hk h8 a0 = 8 ∧ call m_X7_inQueue [pA a0, pI i1, pI x1, pI 1] h8 (fun x9 h9 =>
 (hk h9 (hr h8 a0 8) = 20 ∨ hk h9 (hr h8 a0 8) = 26) ∧ (0 ≤ ((8 * i1) + x9) ∧ ((8 * i1) + x9) < (hl h9 (hr h8 a0 8) : Int)) ∧ InR 0 ∧ ((0 : Int) = 0 →
 InR 0 ∧ ((0 : Int) = 0 →
 hk h9 a0 = 8 ∧ call m_X7_endsInQueue [pA a0, pI i1, pI x1, pI 1] h9 (fun _ h10 =>
 K 2 [some (pA a0), some (pI i1), some (pI 0), some (pI x1), some (pI 0), some (pI (hi h9 (hr h8 a0 8) (Int.toNat (((8 * i1) + x9)))))] [] h10 c s) X) ∧
((0 : Int) ≠ 0 →
 hk h9 a0 = 8 ∧ call m_X7_endsInQueue [pA a0, pI i1, pI x1, pI 4] h9 (fun _ h11 =>
 K 2 [some (pA a0), some (pI i1), some (pI 0), some (pI x1), some (pI 0), some (pI (hi h9 (hr h8 a0 8) (Int.toNat (((8 * i1) + x9)))))] [] h11 c s) X)) ∧
((0 : Int) ≠ 0 →
 InR (hi h9 (hr h8 a0 8) (Int.toNat (((8 * i1) + x9)))) ∧ ((hi h9 (hr h8 a0 8) (Int.toNat (((8 * i1) + x9)))) = 0 →
 InR 0 ∧ ((0 : Int) = 0 →
 hk h9 a0 = 8 ∧ call m_X7_endsInQueue [pA a0, pI i1, pI x1, pI 1] h9 (fun _ h12 =>
 K 2 [some (pA a0), some (pI i1), some (pI 0), some (pI x1), some (pI 0), some (pI (hi h9 (hr h8 a0 8) (Int.toNat (((8 * i1) + x9)))))] [] h12 c s) X) ∧
((0 : Int) ≠ 0 →
 hk h9 a0 = 8 ∧ call m_X7_endsInQueue [pA a0, pI i1, pI x1, pI 4] h9 (fun _ h13 =>
 K 2 [some (pA a0), some (pI i1), some (pI 0), some (pI x1), some (pI 0), some (pI (hi h9 (hr h8 a0 8) (Int.toNat (((8 * i1) + x9)))))] [] h13 c s) X)) ∧
((hi h9 (hr h8 a0 8) (Int.toNat (((8 * i1) + x9)))) ≠ 0 →
 hk h9 a0 = 8 ∧ call m_X7_stacks [pA a0, pI i1, pI x1, pI 0, pI (hi h9 (hr h8 a0 8) (Int.toNat (((8 * i1) + x9))))] h9 (fun _ h14 =>
 K 2 [some (pA a0), some (pI i1), some (pI 0), some (pI x1), some (pI 0), some (pI (hi h9 (hr h8 a0 8) (Int.toNat (((8 * i1) + x9)))))] [] h14 c s) X))) X)) ∧
(x8 ≠ 0 →
 InR 1 ∧ ((1 : Int) = 0 →
 K 2 [some (pA a0), some (pI i1), some (pI 1), some (pI x1), some (pI 0), z5] [] h8 c s) ∧
((1 : Int) ≠ 0 →
 hk h8 a0 = 8 ∧ hk h8 a0 = 8 ∧ call m_X7_inQueue [pA a0, pI i1, pI x1, pI 1] h8 (fun x15 h15 =>
 (hk h15 (hr h8 a0 8) = 20 ∨ hk h15 (hr h8 a0 8) = 26) ∧ (0 ≤ ((8 * i1) + x15) ∧ ((8 * i1) + x15) < (hl h15 (hr h8 a0 8) : Int)) ∧ InR 0 ∧ ((0 : Int) = 0 →
 InR 0 ∧ ((0 : Int) = 0 →
 hk h15 a0 = 8 ∧ call m_X7_endsInQueue [pA a0, pI i1, pI x1, pI 1] h15 (fun _ h16 =>
 K 2 [some (pA a0), some (pI i1), some (pI 1), some (pI x1), some (pI 0), some (pI (hi h15 (hr h8 a0 8) (Int.toNat (((8 * i1) + x15)))))] [] h16 c s) X) ∧
((0 : Int) ≠ 0 →
 hk h15 a0 = 8 ∧ call m_X7_endsInQueue [pA a0, pI i1, pI x1, pI 4] h15 (fun _ h17 =>
 K 2 [some (pA a0), some (pI i1), some (pI 1), some (pI x1), some (pI 0), some (pI (hi h15 (hr h8 a0 8) (Int.toNat (((8 * i1) + x15)))))] [] h17 c s) X)) ∧
((0 : Int) ≠ 0 →
 InR (hi h15 (hr h8 a0 8) (Int.toNat (((8 * i1) + x15)))) ∧ ((hi h15 (hr h8 a0 8) (Int.toNat (((8 * i1) + x15)))) = 0 →
 InR 0 ∧ ((0 : Int) = 0 →
 hk h15 a0 = 8 ∧ call m_X7_endsInQueue [pA a0, pI i1, pI x1, pI 1] h15 (fun _ h18 =>
 K 2 [some (pA a0), some (pI i1), some (pI 1), some (pI x1), some (pI 0), some (pI (hi h15 (hr h8 a0 8) (Int.toNat (((8 * i1) + x15)))))] [] h18 c s) X) ∧
((0 : Int) ≠ 0 →
 hk h15 a0 = 8 ∧ call m_X7_endsInQueue [pA a0, pI i1, pI x1, pI 4] h15 (fun _ h19 =>
 K 2 [some (pA a0), some (pI i1), some (pI 1), some (pI x1), some (pI 0), some (pI (hi h15 (hr h8 a0 8) (Int.toNat (((8 * i1) + x15)))))] [] h19 c s) X)) ∧
((hi h15 (hr h8 a0 8) (Int.toNat (((8 * i1) + x15)))) ≠ 0 →
 hk h15 a0 = 8 ∧ call m_X7_stacks [pA a0, pI i1, pI x1, pI 0, pI (hi h15 (hr h8 a0 8) (Int.toNat (((8 * i1) + x15))))] h15 (fun _ h20 =>
 K 2 [some (pA a0), some (pI i1), some (pI 0), some (pI x1), some (pI 0), some (pI (hi h15 (hr h8 a0 8) (Int.toNat (((8 * i1) + x15)))))] [] h20 c s) X))) X))) X)) ∧
(x1 ≠ ((-1)) →
 hk h1 a0 = 8 ∧ call m_X7_inQueue [pA a0, pI i1, pI x1, pI 1] h1 (fun x21 h21 =>
 hk h21 a0 = 8 ∧ call m_X7_urgencyOf [pA a0, pI i1, pI x21] h21 (fun x22 h22 =>
 InR x1 ∧ InR ((-1)) ∧ (x1 = ((-1)) →
 InR 0 ∧ ((0 : Int) = 0 →
 K 2 [some (pA a0), some (pI i1), some (pI 0), some (pI x1), some (pI x22), z5] [] h22 c s) ∧
((0 : Int) ≠ 0 →
 hk h22 a0 = 8 ∧ hk h22 a0 = 8 ∧ call m_X7_inQueue [pA a0, pI i1, pI x1, pI 1] h22 (fun x23 h23 =>
 (hk h23 (hr h22 a0 8) = 20 ∨ hk h23 (hr h22 a0 8) = 26) ∧ (0 ≤ ((8 * i1) + x23) ∧ ((8 * i1) + x23) < (hl h23 (hr h22 a0 8) : Int)) ∧ InR x22 ∧ (x22 = 0 →
 InR x22 ∧ (x22 = 0 →
 hk h23 a0 = 8 ∧ call m_X7_endsInQueue [pA a0, pI i1, pI x1, pI 1] h23 (fun _ h24 =>
 K 2 [some (pA a0), some (pI i1), some (pI 0), some (pI x1), some (pI x22), some (pI (hi h23 (hr h22 a0 8) (Int.toNat (((8 * i1) + x23)))))] [] h24 c s) X) ∧
(x22 ≠ 0 →
 hk h23 a0 = 8 ∧ call m_X7_endsInQueue [pA a0, pI i1, pI x1, pI 4] h23 (fun _ h25 =>
 K 2 [some (pA a0), some (pI i1), some (pI 0), some (pI x1), some (pI x22), some (pI (hi h23 (hr h22 a0 8) (Int.toNat (((8 * i1) + x23)))))] [] h25 c s) X)) ∧
(x22 ≠ 0 →
 InR (hi h23 (hr h22 a0 8) (Int.toNat (((8 * i1) + x23)))) ∧ ((hi h23 (hr h22 a0 8) (Int.toNat (((8 * i1) + x23)))) = 0 →
 InR x22 ∧ (x22 = 0 →
 hk h23 a0 = 8 ∧ call m_X7_endsInQueue [pA a0, pI i1, pI x1, pI 1] h23 (fun _ h26 =>
 K 2 [some (pA a0), some (pI i1), some (pI 0), some (pI x1), some (pI x22), some (pI (hi h23 (hr h22 a0 8) (Int.toNat (((8 * i1) + x23)))))] [] h26 c s) X) ∧
(x22 ≠ 0 →
 hk h23 a0 = 8 ∧ call m_X7_endsInQueue [pA a0, pI i1, pI x1, pI 4] h23 (fun _ h27 =>
 K 2 [some (pA a0), some (pI i1), some (pI 0), some (pI x1), some (pI x22), some (pI (hi h23 (hr h22 a0 8) (Int.toNat (((8 * i1) + x23)))))] [] h27 c s) X)) ∧
((hi h23 (hr h22 a0 8) (Int.toNat (((8 * i1) + x23)))) ≠ 0 →
 hk h23 a0 = 8 ∧ call m_X7_stacks [pA a0, pI i1, pI x1, pI x22, pI (hi h23 (hr h22 a0 8) (Int.toNat (((8 * i1) + x23))))] h23 (fun _ h28 =>
 K 2 [some (pA a0), some (pI i1), some (pI 0), some (pI x1), some (pI x22), some (pI (hi h23 (hr h22 a0 8) (Int.toNat (((8 * i1) + x23)))))] [] h28 c s) X))) X)) ∧
(x1 ≠ ((-1)) →
 hk h22 a0 = 8 ∧ call m_X7_mayBegin [pA a0, pI i1, pI x22] h22 (fun x29 h29 =>
 InR x29 ∧ (x29 = 0 →
 InR 0 ∧ ((0 : Int) = 0 →
 K 2 [some (pA a0), some (pI i1), some (pI 0), some (pI x1), some (pI x22), z5] [] h29 c s) ∧
((0 : Int) ≠ 0 →
 hk h29 a0 = 8 ∧ hk h29 a0 = 8 ∧ call m_X7_inQueue [pA a0, pI i1, pI x1, pI 1] h29 (fun x30 h30 =>
 (hk h30 (hr h29 a0 8) = 20 ∨ hk h30 (hr h29 a0 8) = 26) ∧ (0 ≤ ((8 * i1) + x30) ∧ ((8 * i1) + x30) < (hl h30 (hr h29 a0 8) : Int)) ∧ InR x22 ∧ (x22 = 0 →
 InR x22 ∧ (x22 = 0 →
 hk h30 a0 = 8 ∧ call m_X7_endsInQueue [pA a0, pI i1, pI x1, pI 1] h30 (fun _ h31 =>
 K 2 [some (pA a0), some (pI i1), some (pI 0), some (pI x1), some (pI x22), some (pI (hi h30 (hr h29 a0 8) (Int.toNat (((8 * i1) + x30)))))] [] h31 c s) X) ∧
(x22 ≠ 0 →
 hk h30 a0 = 8 ∧ call m_X7_endsInQueue [pA a0, pI i1, pI x1, pI 4] h30 (fun _ h32 =>
 K 2 [some (pA a0), some (pI i1), some (pI 0), some (pI x1), some (pI x22), some (pI (hi h30 (hr h29 a0 8) (Int.toNat (((8 * i1) + x30)))))] [] h32 c s) X)) ∧
(x22 ≠ 0 →
 InR (hi h30 (hr h29 a0 8) (Int.toNat (((8 * i1) + x30)))) ∧ ((hi h30 (hr h29 a0 8) (Int.toNat (((8 * i1) + x30)))) = 0 →
 InR x22 ∧ (x22 = 0 →
 hk h30 a0 = 8 ∧ call m_X7_endsInQueue [pA a0, pI i1, pI x1, pI 1] h30 (fun _ h33 =>
 K 2 [some (pA a0), some (pI i1), some (pI 0), some (pI x1), some (pI x22), some (pI (hi h30 (hr h29 a0 8) (Int.toNat (((8 * i1) + x30)))))] [] h33 c s) X) ∧
(x22 ≠ 0 →
 hk h30 a0 = 8 ∧ call m_X7_endsInQueue [pA a0, pI i1, pI x1, pI 4] h30 (fun _ h34 =>
 K 2 [some (pA a0), some (pI i1), some (pI 0), some (pI x1), some (pI x22), some (pI (hi h30 (hr h29 a0 8) (Int.toNat (((8 * i1) + x30)))))] [] h34 c s) X)) ∧
((hi h30 (hr h29 a0 8) (Int.toNat (((8 * i1) + x30)))) ≠ 0 →
 hk h30 a0 = 8 ∧ call m_X7_stacks [pA a0, pI i1, pI x1, pI x22, pI (hi h30 (hr h29 a0 8) (Int.toNat (((8 * i1) + x30))))] h30 (fun _ h35 =>
 K 2 [some (pA a0), some (pI i1), some (pI 0), some (pI x1), some (pI x22), some (pI (hi h30 (hr h29 a0 8) (Int.toNat (((8 * i1) + x30)))))] [] h35 c s) X))) X)) ∧
(x29 ≠ 0 →
 InR 1 ∧ ((1 : Int) = 0 →
 K 2 [some (pA a0), some (pI i1), some (pI 1), some (pI x1), some (pI x22), z5] [] h29 c s) ∧
((1 : Int) ≠ 0 →
 hk h29 a0 = 8 ∧ hk h29 a0 = 8 ∧ call m_X7_inQueue [pA a0, pI i1, pI x1, pI 1] h29 (fun x36 h36 =>
 (hk h36 (hr h29 a0 8) = 20 ∨ hk h36 (hr h29 a0 8) = 26) ∧ (0 ≤ ((8 * i1) + x36) ∧ ((8 * i1) + x36) < (hl h36 (hr h29 a0 8) : Int)) ∧ InR x22 ∧ (x22 = 0 →
 InR x22 ∧ (x22 = 0 →
 hk h36 a0 = 8 ∧ call m_X7_endsInQueue [pA a0, pI i1, pI x1, pI 1] h36 (fun _ h37 =>
 K 2 [some (pA a0), some (pI i1), some (pI 1), some (pI x1), some (pI x22), some (pI (hi h36 (hr h29 a0 8) (Int.toNat (((8 * i1) + x36)))))] [] h37 c s) X) ∧
(x22 ≠ 0 →
 hk h36 a0 = 8 ∧ call m_X7_endsInQueue [pA a0, pI i1, pI x1, pI 4] h36 (fun _ h38 =>
 K 2 [some (pA a0), some (pI i1), some (pI 1), some (pI x1), some (pI x22), some (pI (hi h36 (hr h29 a0 8) (Int.toNat (((8 * i1) + x36)))))] [] h38 c s) X)) ∧
(x22 ≠ 0 →
 InR (hi h36 (hr h29 a0 8) (Int.toNat (((8 * i1) + x36)))) ∧ ((hi h36 (hr h29 a0 8) (Int.toNat (((8 * i1) + x36)))) = 0 →
 InR x22 ∧ (x22 = 0 →
 hk h36 a0 = 8 ∧ call m_X7_endsInQueue [pA a0, pI i1, pI x1, pI 1] h36 (fun _ h39 =>
 K 2 [some (pA a0), some (pI i1), some (pI 1), some (pI x1), some (pI x22), some (pI (hi h36 (hr h29 a0 8) (Int.toNat (((8 * i1) + x36)))))] [] h39 c s) X) ∧
(x22 ≠ 0 →
 hk h36 a0 = 8 ∧ call m_X7_endsInQueue [pA a0, pI i1, pI x1, pI 4] h36 (fun _ h40 =>
 K 2 [some (pA a0), some (pI i1), some (pI 1), some (pI x1), some (pI x22), some (pI (hi h36 (hr h29 a0 8) (Int.toNat (((8 * i1) + x36)))))] [] h40 c s) X)) ∧
((hi h36 (hr h29 a0 8) (Int.toNat (((8 * i1) + x36)))) ≠ 0 →
 hk h36 a0 = 8 ∧ call m_X7_stacks [pA a0, pI i1, pI x1, pI x22, pI (hi h36 (hr h29 a0 8) (Int.toNat (((8 * i1) + x36))))] h36 (fun _ h41 =>
 K 2 [some (pA a0), some (pI i1), some (pI 0), some (pI x1), some (pI x22), some (pI (hi h36 (hr h29 a0 8) (Int.toNat (((8 * i1) + x36)))))] [] h41 c s) X))) X))) X)) X) X)) X)) : wpc k_X7_begins [] call mc ms fr Q X [2] K 400 (pto 2 k_X7_begins) [some (pA a0), some (pI i1), some (pI i2), z3, z4, z5] [] h c s :=
  H
end VCS
theorem L_X7_begins_2 {d b : Nat} {h0 : PH} {D : Nat → Int → Int} {Q : Int → PH → Prop} {X : Nat → PH → Prop} {p : Int} (V : PIv D) (hp : 0 ≤ p ∧ p < D 0 4) : ∀ (n : Nat) (l : Int) (z3 z4 z5 : Option PV) (s : Int → Int) (h : PH) (N : Int), (Md b h0 h D s) → (HI (D 0 3) (D 0 4) (D 0 2) N s) → (l = 0 ∨ l = 1) → (l = 1 → s (115 + p) < n) → (N + n ≤ 1999600000) → (∀ (x : Int) h', x = 0 → Md b h0 h' D (if l = 0 then s else e_bgl D p n s) → Q x h') → WP k_X7_begins [] (RUN GQ (d + 4)) 0 0 (d + 5) Q X 2 [some (pA b), some (pI p), some (pI l), z3, z4, z5] [] h 0 0 := by
  intro n
  induction n with
  | zero =>
    intro l z3 z4 z5 s h N M I hl hn hN H
    obtain ⟨v2, v3, v4, vh⟩ := id V
    have hp6 : 0 ≤ p ∧ p < 6 := by omega
    have q0 := I.qn hp6
    refine WP.of (RUN.mono GQ _) (cuts := [2]) (n := 400) (v_X7_begins_2 _ _ _ _ _ _ _ _ _ ?_)
    refine ⟨ir (by omega) (by omega), fun c3 => ?_, fun c3 => ?_⟩
    · exact H _ _ rfl (M.cast (if_pos (by omega)))
    · exfalso; omega
  | succ n ih =>
    intro l z3 z4 z5 s h N M I hl hn hN H
    obtain ⟨v2, v3, v4, vh⟩ := id V
    have hp6 : 0 ≤ p ∧ p < 6 := by omega
    have q0 := I.qn hp6
    refine WP.of (RUN.mono GQ _) (cuts := [2]) (n := 400) (v_X7_begins_2 _ _ _ _ _ _ _ _ _ ?_)
    refine ⟨ir (by omega) (by omega), fun c3 => ?_, fun c3 => ?_⟩
    · exact H _ _ rfl (M.cast (if_pos (by omega)))
    · refine ⟨M.k0, ?_⟩
      refine S_X7_nextOf M I V (by omega) (by omega) (fun x8 e8 => ?_)
      subst e8
      have hy := nxt_rng (s := s) p
      refine ⟨ir (by omega) (by omega), ir (by omega) (by omega), fun c14 => ?_, fun c14 => ?_⟩
      · refine ⟨ir (by omega) (by omega), ir (by omega) (by omega), fun c37 => ?_, fun c37 => ?_⟩
        · refine ⟨ir (by omega) (by omega), fun c57 => ?_, fun c57 => ?_⟩
          · refine ih _ _ _ _ _ _ _ M I (by omega) (by first | exact fun e => absurd e (by decide) | (intro _; rw [sz]; omega) | (intro _; rw [sz4]; omega)) (by omega) ?_
            refine fun x h' e M => H x h' e (M.cast ?_)
            first | (rw [if_neg (by omega), if_pos rfl]; first | exact (if_pos (by omega)) | exact ((if_neg (by omega)).trans (if_pos (by omega)))) | skip
            all_goals first | done | (rw [if_neg (show l ≠ 0 by omega)]; show e_bgl D p (n + 1) s = _; simp only [e_bgl]; rw [if_neg c14, if_neg c47]; first | (rw [if_pos c84]; rfl) | (rw [if_pos (by omega)]; rfl) | (rw [if_neg (by omega), if_pos (by omega)]; rfl) | (rw [if_neg (by omega), if_neg (by omega)]; rfl))
          · exfalso; omega
        · exfalso; omega
      · have hx : 0 ≤ nxt s p ∧ nxt s p < s (115 + p) := (nxt_rng p).resolve_left c14
        have qk := I.qe hp6 hx
        unfold QE at qk
        have uu := I.ur hp6 (k := qv s p (nxt s p) 1) ⟨qk.2.1.1, by omega⟩
        have sz := eiq_sz (t := 1) I hp6 hx (by omega)
        have sz4 := eiq_sz (t := 4) I hp6 hx (by omega)
        have h48 := (vh (8 * p + qv s p (nxt s p) 1) (by omega) (by omega)).1
        refine ⟨M.k0, ?_⟩
        refine S_X7_inQueue M (by omega) (by omega) (by omega) (fun x27 e27 => ?_)
        subst e27
        refine ⟨M.k0, ?_⟩
        refine S_X7_urgencyOf M (by omega) (by omega) (by exact uu.2) (fun x30 e30 => ?_)
        subst e30
        refine ⟨ir (by omega) (by omega), ir (by omega) (by omega), fun c37 => ?_, fun c37 => ?_⟩
        · exfalso; omega
        · refine ⟨M.k0, ?_⟩
          refine S_X7_mayBegin M I V (by omega) (by omega) (fun x44 e44 => ?_)
          subst e44
          have y01 := may_01 (s := s) p (ur s p (qv s p (nxt s p) 1))
          refine ⟨ir (by omega) (by omega), fun c47 => ?_, fun c47 => ?_⟩
          · refine ⟨ir (by omega) (by omega), fun c57 => ?_, fun c57 => ?_⟩
            · refine ih _ _ _ _ _ _ _ M I (by omega) (by first | exact fun e => absurd e (by decide) | (intro _; rw [sz]; omega) | (intro _; rw [sz4]; omega)) (by omega) ?_
              refine fun x h' e M => H x h' e (M.cast ?_)
              first | (rw [if_neg (by omega), if_pos rfl]; first | exact (if_pos (by omega)) | exact ((if_neg (by omega)).trans (if_pos (by omega)))) | skip
              all_goals first | done | (rw [if_neg (show l ≠ 0 by omega)]; show e_bgl D p (n + 1) s = _; simp only [e_bgl]; rw [if_neg c14, if_neg c47]; first | (rw [if_pos c84]; rfl) | (rw [if_pos (by omega)]; rfl) | (rw [if_neg (by omega), if_pos (by omega)]; rfl) | (rw [if_neg (by omega), if_neg (by omega)]; rfl))
            · exfalso; omega
          · refine ⟨ir (by omega) (by omega), fun c57 => ?_, fun c57 => ?_⟩
            · exfalso; omega
            · refine ⟨M.k0, ?_⟩
              try rw [M.r8]
              refine ⟨M.k0, ?_⟩
              refine S_X7_inQueue M (by omega) (by omega) (by omega) (fun x75 e75 => ?_)
              subst e75
              refine M.ld3 (by omega) (by omega) (fun er => ?_)
              try rw [er]
              clear er
              refine ⟨ir (by omega) (by omega), fun c84 => ?_, fun c84 => ?_⟩
              · refine ⟨ir (by omega) (by omega), fun c97 => ?_, fun c97 => ?_⟩
                · refine ⟨M.k0, ?_⟩
                  refine S_X7_endsInQueue M I v3 (by omega) (by omega) (by omega) (by omega) (fun x105 h105 e105 M105 => ?_)
                  subst e105
                  have I105 := fun t (ht : 0 ≤ t ∧ t < 6) => eiq_HI (t := t) I v3 v4.1 hp6 hx ht
                  refine ih _ _ _ _ _ _ _ M105 (I105 _ (by omega)) (by omega) (by first | exact fun e => absurd e (by decide) | (intro _; rw [sz]; omega) | (intro _; rw [sz4]; omega)) (by omega) ?_
                  refine fun x h' e M => H x h' e (M.cast ?_)
                  first | (rw [if_neg (by omega), if_pos rfl]; first | exact (if_pos (by omega)) | exact ((if_neg (by omega)).trans (if_pos (by omega)))) | skip
                  all_goals first | done | (rw [if_neg (show l ≠ 0 by omega)]; show e_bgl D p (n + 1) s = _; simp only [e_bgl]; rw [if_neg c14, if_neg c47]; first | (rw [if_pos c84]; rfl) | (rw [if_pos (by omega)]; rfl) | (rw [if_neg (by omega), if_pos (by omega)]; rfl) | (rw [if_neg (by omega), if_neg (by omega)]; rfl))
                · exfalso; omega
              · refine ⟨ir (by omega) (by omega), fun c89 => ?_, fun c89 => ?_⟩
                · refine ⟨ir (by omega) (by omega), fun c97 => ?_, fun c97 => ?_⟩
                  · exfalso; omega
                  · refine ⟨M.k0, ?_⟩
                    refine S_X7_endsInQueue M I v3 (by omega) (by omega) (by omega) (by omega) (fun x105 h105 e105 M105 => ?_)
                    subst e105
                    have I105 := fun t (ht : 0 ≤ t ∧ t < 6) => eiq_HI (t := t) I v3 v4.1 hp6 hx ht
                    refine ih _ _ _ _ _ _ _ M105 (I105 _ (by omega)) (by omega) (by first | exact fun e => absurd e (by decide) | (intro _; rw [sz]; omega) | (intro _; rw [sz4]; omega)) (by omega) ?_
                    refine fun x h' e M => H x h' e (M.cast ?_)
                    first | (rw [if_neg (by omega), if_pos rfl]; first | exact (if_pos (by omega)) | exact ((if_neg (by omega)).trans (if_pos (by omega)))) | skip
                    all_goals first | done | (rw [if_neg (show l ≠ 0 by omega)]; show e_bgl D p (n + 1) s = _; simp only [e_bgl]; rw [if_neg c14, if_neg c47]; first | (rw [if_pos c84]; rfl) | (rw [if_pos (by omega)]; rfl) | (rw [if_neg (by omega), if_pos (by omega)]; rfl) | (rw [if_neg (by omega), if_neg (by omega)]; rfl))
                · refine ⟨M.k0, ?_⟩
                  refine S_X7_stacks M (by omega) (by omega) (by omega) (by exact ⟨(I.sn hp6).1, may_sz I hp6 c47⟩) (fun x118 h118 e118 M118 => ?_)
                  subst e118
                  have I118 := stk_HI (u := ur s p (qv s p (nxt s p) 1)) (t := D 3 (8 * p + qv s p (nxt s p) 1)) I v3 v4 hp hx (may_sz I hp6 c47) (by omega) (by omega)
                  refine ih _ _ _ _ _ _ _ M118 I118 (by omega) (by first | exact fun e => absurd e (by decide) | (intro _; rw [sz]; omega) | (intro _; rw [sz4]; omega)) (by omega) ?_
                  refine fun x h' e M => H x h' e (M.cast ?_)
                  first | (rw [if_neg (by omega), if_pos rfl]; first | exact (if_pos (by omega)) | exact ((if_neg (by omega)).trans (if_pos (by omega)))) | skip
                  all_goals first | done | (rw [if_neg (show l ≠ 0 by omega)]; show e_bgl D p (n + 1) s = _; simp only [e_bgl]; rw [if_neg c14, if_neg c47]; first | (rw [if_pos c84]; rfl) | (rw [if_pos (by omega)]; rfl) | (rw [if_neg (by omega), if_pos (by omega)]; rfl) | (rw [if_neg (by omega), if_neg (by omega)]; rfl))
theorem S_X7_begins {d b : Nat} {h0 h : PH} {D : Nat → Int → Int} {s : Int → Int} {Q : Int → PH → Prop} {X : Nat → PH → Prop} {N : Int} {p : Int} (M : Md b h0 h D s) (I : HI (D 0 3) (D 0 4) (D 0 2) N s) (V : PIv D) (hN : N ≤ 1999500000) (hp : 0 ≤ p ∧ p < D 0 4) (H : ∀ (x : Int) h', x = (0) → Md b h0 h' D (e_bg D s p) → Q x h') : RUN GQ (d + 5) m_X7_begins [pA b, pI p] h Q X := by
  obtain ⟨v2, v3, v4, vh⟩ := id V
  have hp6 : 0 ≤ p ∧ p < 6 := by omega
  have q0 := I.qn hp6
  rw [e_X7_begins]
  refine WP.of (RUN.mono GQ _) (cuts := [2]) (n := 400) (v_X7_begins_0 _ _ _ _ _ _ _ _ _ ?_)
  refine L_X7_begins_2 V hp ((s (115 + p)).toNat + 1) _ _ _ _ _ _ _ M I (by omega) (by omega) (by omega) ?_
  exact fun x h' e M => H x h' e (M.cast (by rw [if_neg (by omega)]; rfl))
