/-! the class changes (written by wip/whole/tools/eng.py) -/
section VCS
variable {call : PC} {mc ms fr : Nat} {Q : Int → PH → Prop} {X : Nat → PH → Prop} {K : PK}
set_option maxRecDepth 100000 in
theorem v_X6_send_0 (a0 : Nat) (i1 : Int) (i2 : Int) (i3 : Int) (h : PH) (c s : Nat) (H : hk h a0 = 7 ∧ (c + 1 ≤ mc ∧ s + 6 ≤ ms) ∧ call m_X6_needHall [pA a0] h (fun _ h1 =>
 hk h1 a0 = 7 ∧ ((c + 1) + 1 ≤ mc ∧ (s + 6) + 6 ≤ ms) ∧ call m_X6_needProgram [pA a0, pI i1] h1 (fun _ h2 =>
 hk h2 a0 = 7 ∧ (((c + 1) + 1) + 1 ≤ mc ∧ ((s + 6) + 6) + 6 ≤ ms) ∧ call m_X6_needKind [pA a0, pI i2] h2 (fun _ h3 =>
 InR i3 ∧ (i3 < 0 →
 ((((c + 1) + 1) + 1) + 1 ≤ mc ∧ (((s + 6) + 6) + 6) + 6 ≤ ms) ∧ call m_X6_needArgument [pI 0] h3 (fun _ h4 =>
 hk h4 a0 = 7 ∧ (((((c + 1) + 1) + 1) + 1) + 16 ≤ mc ∧ ((((s + 6) + 6) + 6) + 6) + 1620 ≤ ms) ∧ call m_X6_remember [pA a0] h4 (fun _ h5 =>
 hk h5 a0 = 7 ∧ hk h5 (hr h5 a0 6) = 1 ∧ call m_X0_sendSignal [pA (hr h5 a0 6), pI i1, pI i2, pI ((-1)), pI i3] h5 (fun x6 h6 =>
 Q x6 h6) X) X) X) ∧
(0 ≤ i3 →
 InR i3 ∧ InR 999 ∧ (999 < i3 →
 ((((c + 1) + 1) + 1) + 1 ≤ mc ∧ (((s + 6) + 6) + 6) + 6 ≤ ms) ∧ call m_X6_needArgument [pI 0] h3 (fun _ h7 =>
 hk h7 a0 = 7 ∧ (((((c + 1) + 1) + 1) + 1) + 16 ≤ mc ∧ ((((s + 6) + 6) + 6) + 6) + 1620 ≤ ms) ∧ call m_X6_remember [pA a0] h7 (fun _ h8 =>
 hk h8 a0 = 7 ∧ hk h8 (hr h8 a0 6) = 1 ∧ call m_X0_sendSignal [pA (hr h8 a0 6), pI i1, pI i2, pI ((-1)), pI i3] h8 (fun x9 h9 =>
 Q x9 h9) X) X) X) ∧
(i3 ≤ 999 →
 ((((c + 1) + 1) + 1) + 1 ≤ mc ∧ (((s + 6) + 6) + 6) + 6 ≤ ms) ∧ call m_X6_needArgument [pI 1] h3 (fun _ h10 =>
 hk h10 a0 = 7 ∧ (((((c + 1) + 1) + 1) + 1) + 16 ≤ mc ∧ ((((s + 6) + 6) + 6) + 6) + 1620 ≤ ms) ∧ call m_X6_remember [pA a0] h10 (fun _ h11 =>
 hk h11 a0 = 7 ∧ hk h11 (hr h11 a0 6) = 1 ∧ call m_X0_sendSignal [pA (hr h11 a0 6), pI i1, pI i2, pI ((-1)), pI i3] h11 (fun x12 h12 =>
 Q x12 h12) X) X) X))) X) X) X) : wpc k_X6_send [] call mc ms fr Q X [] K 400 (pto 0 k_X6_send) [some (pA a0), some (pI i1), some (pI i2), some (pI i3)] [] h c s :=
  H
set_option maxRecDepth 100000 in
theorem v_X6_mask_0 (a0 : Nat) (i1 : Int) (i2 : Int) (i3 : Int) (z4 : Option PV) (h : PH) (c s : Nat) (H : hk h a0 = 7 ∧ (c + 1 ≤ mc ∧ s + 6 ≤ ms) ∧ call m_X6_needHall [pA a0] h (fun _ h1 =>
 hk h1 a0 = 7 ∧ ((c + 1) + 1 ≤ mc ∧ (s + 6) + 6 ≤ ms) ∧ call m_X6_needProgram [pA a0, pI i1] h1 (fun _ h2 =>
 hk h2 a0 = 7 ∧ (((c + 1) + 1) + 1 ≤ mc ∧ ((s + 6) + 6) + 6 ≤ ms) ∧ call m_X6_needKind [pA a0, pI i2] h2 (fun _ h3 =>
 hk h3 a0 = 7 ∧ ((((c + 1) + 1) + 1) + 16 ≤ mc ∧ (((s + 6) + 6) + 6) + 1620 ≤ ms) ∧ call m_X6_remember [pA a0] h3 (fun _ h4 =>
 hk h4 a0 = 7 ∧ hk h4 (hr h4 a0 6) = 1 ∧ call m_X0_isMasked [pA (hr h4 a0 6), pI i1, pI i2] h4 (fun x5 h5 =>
 hk h5 a0 = 7 ∧ hk h5 (hr h5 a0 6) = 1 ∧ call m_X0_putMask [pA (hr h5 a0 6), pI i1, pI i2, pI i3] h5 (fun _ h6 =>
 (x5 = 0 ∨ x5 = 1) ∧ Q x5 h6) X) X) X) X) X) X) : wpc k_X6_mask [] call mc ms fr Q X [] K 400 (pto 0 k_X6_mask) [some (pA a0), some (pI i1), some (pI i2), some (pI i3), z4] [] h c s :=
  H
set_option maxRecDepth 100000 in
theorem v_X6_clear_0 (a0 : Nat) (i1 : Int) (h : PH) (c s : Nat) (H : hk h a0 = 7 ∧ (c + 1 ≤ mc ∧ s + 6 ≤ ms) ∧ call m_X6_needHall [pA a0] h (fun _ h1 =>
 hk h1 a0 = 7 ∧ ((c + 1) + 1 ≤ mc ∧ (s + 6) + 6 ≤ ms) ∧ call m_X6_needProgram [pA a0, pI i1] h1 (fun _ h2 =>
 hk h2 a0 = 7 ∧ (((c + 1) + 1) + 16 ≤ mc ∧ ((s + 6) + 6) + 1620 ≤ ms) ∧ call m_X6_remember [pA a0] h2 (fun _ h3 =>
 hk h3 a0 = 7 ∧ hk h3 (hr h3 a0 6) = 1 ∧ call m_X0_dropAll [pA (hr h3 a0 6), pI i1] h3 (fun x4 h4 =>
 Q x4 h4) X) X) X) X) : wpc k_X6_clear [] call mc ms fr Q X [] K 400 (pto 0 k_X6_clear) [some (pA a0), some (pI i1)] [] h c s :=
  H
set_option maxRecDepth 100000 in
theorem v_X6_refresh_0 (a0 : Nat) (i1 : Int) (h : PH) (c s : Nat) (H : hk h a0 = 7 ∧ (c + 1 ≤ mc ∧ s + 6 ≤ ms) ∧ call m_X6_needHall [pA a0] h (fun _ h1 =>
 hk h1 a0 = 7 ∧ ((c + 1) + 1 ≤ mc ∧ (s + 6) + 6 ≤ ms) ∧ call m_X6_needProgram [pA a0, pI i1] h1 (fun _ h2 =>
 hk h2 a0 = 7 ∧ (((c + 1) + 1) + 16 ≤ mc ∧ ((s + 6) + 6) + 1620 ≤ ms) ∧ call m_X6_remember [pA a0] h2 (fun _ h3 =>
 hk h3 a0 = 7 ∧ hk h3 (hr h3 a0 6) = 1 ∧ call m_X0_takeTirednessAway [pA (hr h3 a0 6), pI i1] h3 (fun x4 h4 =>
 Q x4 h4) X) X) X) X) : wpc k_X6_refresh [] call mc ms fr Q X [] K 400 (pto 0 k_X6_refresh) [some (pA a0), some (pI i1)] [] h c s :=
  H
set_option maxRecDepth 100000 in
theorem v_X6_setKind_0 (a0 : Nat) (i1 : Int) (i2 : Int) (i3 : Int) (z4 : Option PV) (h : PH) (c s : Nat) (H : hk h a0 = 7 ∧ (c + 1 ≤ mc ∧ s + 6 ≤ ms) ∧ call m_X6_needHall [pA a0] h (fun _ h1 =>
 hk h1 a0 = 7 ∧ ((c + 1) + 1 ≤ mc ∧ (s + 6) + 6 ≤ ms) ∧ call m_X6_needKind [pA a0, pI i1] h1 (fun _ h2 =>
 InR i2 ∧ (i2 < 0 →
 (((c + 1) + 1) + 1 ≤ mc ∧ ((s + 6) + 6) + 6 ≤ ms) ∧ call m_X6_needArgument [pI 0] h2 (fun _ h3 =>
 (hk h3 4 = 20 ∨ hk h3 4 = 26) ∧ (0 ≤ i2 ∧ i2 < (hl h3 4 : Int)) ∧ InR i3 ∧ InR (hi h3 4 (Int.toNat i2)) ∧ (i3 < (hi h3 4 (Int.toNat i2)) →
 ((((c + 1) + 1) + 1) + 1 ≤ mc ∧ (((s + 6) + 6) + 6) + 6 ≤ ms) ∧ call m_X6_needArgument [pI 0] h3 (fun _ h4 =>
 hk h4 a0 = 7 ∧ (((((c + 1) + 1) + 1) + 1) + 16 ≤ mc ∧ ((((s + 6) + 6) + 6) + 6) + 1620 ≤ ms) ∧ call m_X6_remember [pA a0] h4 (fun _ h5 =>
 hk h5 a0 = 7 ∧ hk h5 (hr h5 a0 6) = 1 ∧ call m_X0_kindNumber [pA (hr h5 a0 6), pI i1, pI i2] h5 (fun x6 h6 =>
 hk h6 a0 = 7 ∧ hk h6 (hr h6 a0 6) = 1 ∧ call m_X0_putKindNumber [pA (hr h6 a0 6), pI i1, pI i2, pI i3] h6 (fun _ h7 =>
 Q x6 h7) X) X) X) X) ∧
((hi h3 4 (Int.toNat i2)) ≤ i3 →
 (hk h3 5 = 20 ∨ hk h3 5 = 26) ∧ (0 ≤ i2 ∧ i2 < (hl h3 5 : Int)) ∧ InR i3 ∧ InR (hi h3 5 (Int.toNat i2)) ∧ ((hi h3 5 (Int.toNat i2)) < i3 →
 ((((c + 1) + 1) + 1) + 1 ≤ mc ∧ (((s + 6) + 6) + 6) + 6 ≤ ms) ∧ call m_X6_needArgument [pI 0] h3 (fun _ h8 =>
 hk h8 a0 = 7 ∧ (((((c + 1) + 1) + 1) + 1) + 16 ≤ mc ∧ ((((s + 6) + 6) + 6) + 6) + 1620 ≤ ms) ∧ call m_X6_remember [pA a0] h8 (fun _ h9 =>
 hk h9 a0 = 7 ∧ hk h9 (hr h9 a0 6) = 1 ∧ call m_X0_kindNumber [pA (hr h9 a0 6), pI i1, pI i2] h9 (fun x10 h10 =>
 hk h10 a0 = 7 ∧ hk h10 (hr h10 a0 6) = 1 ∧ call m_X0_putKindNumber [pA (hr h10 a0 6), pI i1, pI i2, pI i3] h10 (fun _ h11 =>
 Q x10 h11) X) X) X) X) ∧
(i3 ≤ (hi h3 5 (Int.toNat i2)) →
 ((((c + 1) + 1) + 1) + 1 ≤ mc ∧ (((s + 6) + 6) + 6) + 6 ≤ ms) ∧ call m_X6_needArgument [pI 1] h3 (fun _ h12 =>
 hk h12 a0 = 7 ∧ (((((c + 1) + 1) + 1) + 1) + 16 ≤ mc ∧ ((((s + 6) + 6) + 6) + 6) + 1620 ≤ ms) ∧ call m_X6_remember [pA a0] h12 (fun _ h13 =>
 hk h13 a0 = 7 ∧ hk h13 (hr h13 a0 6) = 1 ∧ call m_X0_kindNumber [pA (hr h13 a0 6), pI i1, pI i2] h13 (fun x14 h14 =>
 hk h14 a0 = 7 ∧ hk h14 (hr h14 a0 6) = 1 ∧ call m_X0_putKindNumber [pA (hr h14 a0 6), pI i1, pI i2, pI i3] h14 (fun _ h15 =>
 Q x14 h15) X) X) X) X))) X) ∧
(0 ≤ i2 →
 InR i2 ∧ InR 3 ∧ (i2 < 3 →
 (((c + 1) + 1) + 1 ≤ mc ∧ ((s + 6) + 6) + 6 ≤ ms) ∧ call m_X6_needArgument [pI 1] h2 (fun _ h16 =>
 (hk h16 4 = 20 ∨ hk h16 4 = 26) ∧ (0 ≤ i2 ∧ i2 < (hl h16 4 : Int)) ∧ InR i3 ∧ InR (hi h16 4 (Int.toNat i2)) ∧ (i3 < (hi h16 4 (Int.toNat i2)) →
 ((((c + 1) + 1) + 1) + 1 ≤ mc ∧ (((s + 6) + 6) + 6) + 6 ≤ ms) ∧ call m_X6_needArgument [pI 0] h16 (fun _ h17 =>
 hk h17 a0 = 7 ∧ (((((c + 1) + 1) + 1) + 1) + 16 ≤ mc ∧ ((((s + 6) + 6) + 6) + 6) + 1620 ≤ ms) ∧ call m_X6_remember [pA a0] h17 (fun _ h18 =>
 hk h18 a0 = 7 ∧ hk h18 (hr h18 a0 6) = 1 ∧ call m_X0_kindNumber [pA (hr h18 a0 6), pI i1, pI i2] h18 (fun x19 h19 =>
 hk h19 a0 = 7 ∧ hk h19 (hr h19 a0 6) = 1 ∧ call m_X0_putKindNumber [pA (hr h19 a0 6), pI i1, pI i2, pI i3] h19 (fun _ h20 =>
 Q x19 h20) X) X) X) X) ∧
((hi h16 4 (Int.toNat i2)) ≤ i3 →
 (hk h16 5 = 20 ∨ hk h16 5 = 26) ∧ (0 ≤ i2 ∧ i2 < (hl h16 5 : Int)) ∧ InR i3 ∧ InR (hi h16 5 (Int.toNat i2)) ∧ ((hi h16 5 (Int.toNat i2)) < i3 →
 ((((c + 1) + 1) + 1) + 1 ≤ mc ∧ (((s + 6) + 6) + 6) + 6 ≤ ms) ∧ call m_X6_needArgument [pI 0] h16 (fun _ h21 =>
 hk h21 a0 = 7 ∧ (((((c + 1) + 1) + 1) + 1) + 16 ≤ mc ∧ ((((s + 6) + 6) + 6) + 6) + 1620 ≤ ms) ∧ call m_X6_remember [pA a0] h21 (fun _ h22 =>
 hk h22 a0 = 7 ∧ hk h22 (hr h22 a0 6) = 1 ∧ call m_X0_kindNumber [pA (hr h22 a0 6), pI i1, pI i2] h22 (fun x23 h23 =>
 hk h23 a0 = 7 ∧ hk h23 (hr h23 a0 6) = 1 ∧ call m_X0_putKindNumber [pA (hr h23 a0 6), pI i1, pI i2, pI i3] h23 (fun _ h24 =>
 Q x23 h24) X) X) X) X) ∧
(i3 ≤ (hi h16 5 (Int.toNat i2)) →
 ((((c + 1) + 1) + 1) + 1 ≤ mc ∧ (((s + 6) + 6) + 6) + 6 ≤ ms) ∧ call m_X6_needArgument [pI 1] h16 (fun _ h25 =>
 hk h25 a0 = 7 ∧ (((((c + 1) + 1) + 1) + 1) + 16 ≤ mc ∧ ((((s + 6) + 6) + 6) + 6) + 1620 ≤ ms) ∧ call m_X6_remember [pA a0] h25 (fun _ h26 =>
 hk h26 a0 = 7 ∧ hk h26 (hr h26 a0 6) = 1 ∧ call m_X0_kindNumber [pA (hr h26 a0 6), pI i1, pI i2] h26 (fun x27 h27 =>
 hk h27 a0 = 7 ∧ hk h27 (hr h27 a0 6) = 1 ∧ call m_X0_putKindNumber [pA (hr h27 a0 6), pI i1, pI i2, pI i3] h27 (fun _ h28 =>
 Q x27 h28) X) X) X) X))) X) ∧
(3 ≤ i2 →
 (((c + 1) + 1) + 1 ≤ mc ∧ ((s + 6) + 6) + 6 ≤ ms) ∧ call m_X6_needArgument [pI 0] h2 (fun _ h29 =>
 (hk h29 4 = 20 ∨ hk h29 4 = 26) ∧ (0 ≤ i2 ∧ i2 < (hl h29 4 : Int)) ∧ InR i3 ∧ InR (hi h29 4 (Int.toNat i2)) ∧ (i3 < (hi h29 4 (Int.toNat i2)) →
 ((((c + 1) + 1) + 1) + 1 ≤ mc ∧ (((s + 6) + 6) + 6) + 6 ≤ ms) ∧ call m_X6_needArgument [pI 0] h29 (fun _ h30 =>
 hk h30 a0 = 7 ∧ (((((c + 1) + 1) + 1) + 1) + 16 ≤ mc ∧ ((((s + 6) + 6) + 6) + 6) + 1620 ≤ ms) ∧ call m_X6_remember [pA a0] h30 (fun _ h31 =>
 hk h31 a0 = 7 ∧ hk h31 (hr h31 a0 6) = 1 ∧ call m_X0_kindNumber [pA (hr h31 a0 6), pI i1, pI i2] h31 (fun x32 h32 =>
 hk h32 a0 = 7 ∧ hk h32 (hr h32 a0 6) = 1 ∧ call m_X0_putKindNumber [pA (hr h32 a0 6), pI i1, pI i2, pI i3] h32 (fun _ h33 =>
 Q x32 h33) X) X) X) X) ∧
((hi h29 4 (Int.toNat i2)) ≤ i3 →
 (hk h29 5 = 20 ∨ hk h29 5 = 26) ∧ (0 ≤ i2 ∧ i2 < (hl h29 5 : Int)) ∧ InR i3 ∧ InR (hi h29 5 (Int.toNat i2)) ∧ ((hi h29 5 (Int.toNat i2)) < i3 →
 ((((c + 1) + 1) + 1) + 1 ≤ mc ∧ (((s + 6) + 6) + 6) + 6 ≤ ms) ∧ call m_X6_needArgument [pI 0] h29 (fun _ h34 =>
 hk h34 a0 = 7 ∧ (((((c + 1) + 1) + 1) + 1) + 16 ≤ mc ∧ ((((s + 6) + 6) + 6) + 6) + 1620 ≤ ms) ∧ call m_X6_remember [pA a0] h34 (fun _ h35 =>
 hk h35 a0 = 7 ∧ hk h35 (hr h35 a0 6) = 1 ∧ call m_X0_kindNumber [pA (hr h35 a0 6), pI i1, pI i2] h35 (fun x36 h36 =>
 hk h36 a0 = 7 ∧ hk h36 (hr h36 a0 6) = 1 ∧ call m_X0_putKindNumber [pA (hr h36 a0 6), pI i1, pI i2, pI i3] h36 (fun _ h37 =>
 Q x36 h37) X) X) X) X) ∧
(i3 ≤ (hi h29 5 (Int.toNat i2)) →
 ((((c + 1) + 1) + 1) + 1 ≤ mc ∧ (((s + 6) + 6) + 6) + 6 ≤ ms) ∧ call m_X6_needArgument [pI 1] h29 (fun _ h38 =>
 hk h38 a0 = 7 ∧ (((((c + 1) + 1) + 1) + 1) + 16 ≤ mc ∧ ((((s + 6) + 6) + 6) + 6) + 1620 ≤ ms) ∧ call m_X6_remember [pA a0] h38 (fun _ h39 =>
 hk h39 a0 = 7 ∧ hk h39 (hr h39 a0 6) = 1 ∧ call m_X0_kindNumber [pA (hr h39 a0 6), pI i1, pI i2] h39 (fun x40 h40 =>
 hk h40 a0 = 7 ∧ hk h40 (hr h40 a0 6) = 1 ∧ call m_X0_putKindNumber [pA (hr h40 a0 6), pI i1, pI i2, pI i3] h40 (fun _ h41 =>
 Q x40 h41) X) X) X) X))) X))) X) X) : wpc k_X6_setKind [] call mc ms fr Q X [] K 400 (pto 0 k_X6_setKind) [some (pA a0), some (pI i1), some (pI i2), some (pI i3), z4] [] h c s :=
  H
set_option maxRecDepth 100000 in
theorem v_X6_set_0 (a0 : Nat) (i1 : Int) (i2 : Int) (z3 : Option PV) (h : PH) (c s : Nat) (H : hk h a0 = 7 ∧ (c + 1 ≤ mc ∧ s + 6 ≤ ms) ∧ call m_X6_needHall [pA a0] h (fun _ h1 =>
 InR i1 ∧ (i1 < 0 →
 ((c + 1) + 1 ≤ mc ∧ (s + 6) + 6 ≤ ms) ∧ call m_X6_needArgument [pI 0] h1 (fun _ h2 =>
 (hk h2 2 = 20 ∨ hk h2 2 = 26) ∧ (0 ≤ i1 ∧ i1 < (hl h2 2 : Int)) ∧ InR i2 ∧ InR (hi h2 2 (Int.toNat i1)) ∧ (i2 < (hi h2 2 (Int.toNat i1)) →
 (((c + 1) + 1) + 1 ≤ mc ∧ ((s + 6) + 6) + 6 ≤ ms) ∧ call m_X6_needArgument [pI 0] h2 (fun _ h3 =>
 hk h3 a0 = 7 ∧ ((((c + 1) + 1) + 1) + 16 ≤ mc ∧ (((s + 6) + 6) + 6) + 1620 ≤ ms) ∧ call m_X6_remember [pA a0] h3 (fun _ h4 =>
 hk h4 a0 = 7 ∧ hk h4 (hr h4 a0 6) = 1 ∧ call m_X0_settingOf [pA (hr h4 a0 6), pI i1] h4 (fun x5 h5 =>
 hk h5 a0 = 7 ∧ hk h5 (hr h5 a0 6) = 1 ∧ call m_X0_putSetting [pA (hr h5 a0 6), pI i1, pI i2] h5 (fun _ h6 =>
 Q x5 h6) X) X) X) X) ∧
((hi h2 2 (Int.toNat i1)) ≤ i2 →
 (hk h2 3 = 20 ∨ hk h2 3 = 26) ∧ (0 ≤ i1 ∧ i1 < (hl h2 3 : Int)) ∧ InR i2 ∧ InR (hi h2 3 (Int.toNat i1)) ∧ ((hi h2 3 (Int.toNat i1)) < i2 →
 (((c + 1) + 1) + 1 ≤ mc ∧ ((s + 6) + 6) + 6 ≤ ms) ∧ call m_X6_needArgument [pI 0] h2 (fun _ h7 =>
 hk h7 a0 = 7 ∧ ((((c + 1) + 1) + 1) + 16 ≤ mc ∧ (((s + 6) + 6) + 6) + 1620 ≤ ms) ∧ call m_X6_remember [pA a0] h7 (fun _ h8 =>
 hk h8 a0 = 7 ∧ hk h8 (hr h8 a0 6) = 1 ∧ call m_X0_settingOf [pA (hr h8 a0 6), pI i1] h8 (fun x9 h9 =>
 hk h9 a0 = 7 ∧ hk h9 (hr h9 a0 6) = 1 ∧ call m_X0_putSetting [pA (hr h9 a0 6), pI i1, pI i2] h9 (fun _ h10 =>
 Q x9 h10) X) X) X) X) ∧
(i2 ≤ (hi h2 3 (Int.toNat i1)) →
 (((c + 1) + 1) + 1 ≤ mc ∧ ((s + 6) + 6) + 6 ≤ ms) ∧ call m_X6_needArgument [pI 1] h2 (fun _ h11 =>
 hk h11 a0 = 7 ∧ ((((c + 1) + 1) + 1) + 16 ≤ mc ∧ (((s + 6) + 6) + 6) + 1620 ≤ ms) ∧ call m_X6_remember [pA a0] h11 (fun _ h12 =>
 hk h12 a0 = 7 ∧ hk h12 (hr h12 a0 6) = 1 ∧ call m_X0_settingOf [pA (hr h12 a0 6), pI i1] h12 (fun x13 h13 =>
 hk h13 a0 = 7 ∧ hk h13 (hr h13 a0 6) = 1 ∧ call m_X0_putSetting [pA (hr h13 a0 6), pI i1, pI i2] h13 (fun _ h14 =>
 Q x13 h14) X) X) X) X))) X) ∧
(0 ≤ i1 →
 InR i1 ∧ InR 3 ∧ (i1 < 3 →
 ((c + 1) + 1 ≤ mc ∧ (s + 6) + 6 ≤ ms) ∧ call m_X6_needArgument [pI 1] h1 (fun _ h15 =>
 (hk h15 2 = 20 ∨ hk h15 2 = 26) ∧ (0 ≤ i1 ∧ i1 < (hl h15 2 : Int)) ∧ InR i2 ∧ InR (hi h15 2 (Int.toNat i1)) ∧ (i2 < (hi h15 2 (Int.toNat i1)) →
 (((c + 1) + 1) + 1 ≤ mc ∧ ((s + 6) + 6) + 6 ≤ ms) ∧ call m_X6_needArgument [pI 0] h15 (fun _ h16 =>
 hk h16 a0 = 7 ∧ ((((c + 1) + 1) + 1) + 16 ≤ mc ∧ (((s + 6) + 6) + 6) + 1620 ≤ ms) ∧ call m_X6_remember [pA a0] h16 (fun _ h17 =>
 hk h17 a0 = 7 ∧ hk h17 (hr h17 a0 6) = 1 ∧ call m_X0_settingOf [pA (hr h17 a0 6), pI i1] h17 (fun x18 h18 =>
 hk h18 a0 = 7 ∧ hk h18 (hr h18 a0 6) = 1 ∧ call m_X0_putSetting [pA (hr h18 a0 6), pI i1, pI i2] h18 (fun _ h19 =>
 Q x18 h19) X) X) X) X) ∧
((hi h15 2 (Int.toNat i1)) ≤ i2 →
 (hk h15 3 = 20 ∨ hk h15 3 = 26) ∧ (0 ≤ i1 ∧ i1 < (hl h15 3 : Int)) ∧ InR i2 ∧ InR (hi h15 3 (Int.toNat i1)) ∧ ((hi h15 3 (Int.toNat i1)) < i2 →
 (((c + 1) + 1) + 1 ≤ mc ∧ ((s + 6) + 6) + 6 ≤ ms) ∧ call m_X6_needArgument [pI 0] h15 (fun _ h20 =>
 hk h20 a0 = 7 ∧ ((((c + 1) + 1) + 1) + 16 ≤ mc ∧ (((s + 6) + 6) + 6) + 1620 ≤ ms) ∧ call m_X6_remember [pA a0] h20 (fun _ h21 =>
 hk h21 a0 = 7 ∧ hk h21 (hr h21 a0 6) = 1 ∧ call m_X0_settingOf [pA (hr h21 a0 6), pI i1] h21 (fun x22 h22 =>
 hk h22 a0 = 7 ∧ hk h22 (hr h22 a0 6) = 1 ∧ call m_X0_putSetting [pA (hr h22 a0 6), pI i1, pI i2] h22 (fun _ h23 =>
 Q x22 h23) X) X) X) X) ∧
(i2 ≤ (hi h15 3 (Int.toNat i1)) →
 (((c + 1) + 1) + 1 ≤ mc ∧ ((s + 6) + 6) + 6 ≤ ms) ∧ call m_X6_needArgument [pI 1] h15 (fun _ h24 =>
 hk h24 a0 = 7 ∧ ((((c + 1) + 1) + 1) + 16 ≤ mc ∧ (((s + 6) + 6) + 6) + 1620 ≤ ms) ∧ call m_X6_remember [pA a0] h24 (fun _ h25 =>
 hk h25 a0 = 7 ∧ hk h25 (hr h25 a0 6) = 1 ∧ call m_X0_settingOf [pA (hr h25 a0 6), pI i1] h25 (fun x26 h26 =>
 hk h26 a0 = 7 ∧ hk h26 (hr h26 a0 6) = 1 ∧ call m_X0_putSetting [pA (hr h26 a0 6), pI i1, pI i2] h26 (fun _ h27 =>
 Q x26 h27) X) X) X) X))) X) ∧
(3 ≤ i1 →
 ((c + 1) + 1 ≤ mc ∧ (s + 6) + 6 ≤ ms) ∧ call m_X6_needArgument [pI 0] h1 (fun _ h28 =>
 (hk h28 2 = 20 ∨ hk h28 2 = 26) ∧ (0 ≤ i1 ∧ i1 < (hl h28 2 : Int)) ∧ InR i2 ∧ InR (hi h28 2 (Int.toNat i1)) ∧ (i2 < (hi h28 2 (Int.toNat i1)) →
 (((c + 1) + 1) + 1 ≤ mc ∧ ((s + 6) + 6) + 6 ≤ ms) ∧ call m_X6_needArgument [pI 0] h28 (fun _ h29 =>
 hk h29 a0 = 7 ∧ ((((c + 1) + 1) + 1) + 16 ≤ mc ∧ (((s + 6) + 6) + 6) + 1620 ≤ ms) ∧ call m_X6_remember [pA a0] h29 (fun _ h30 =>
 hk h30 a0 = 7 ∧ hk h30 (hr h30 a0 6) = 1 ∧ call m_X0_settingOf [pA (hr h30 a0 6), pI i1] h30 (fun x31 h31 =>
 hk h31 a0 = 7 ∧ hk h31 (hr h31 a0 6) = 1 ∧ call m_X0_putSetting [pA (hr h31 a0 6), pI i1, pI i2] h31 (fun _ h32 =>
 Q x31 h32) X) X) X) X) ∧
((hi h28 2 (Int.toNat i1)) ≤ i2 →
 (hk h28 3 = 20 ∨ hk h28 3 = 26) ∧ (0 ≤ i1 ∧ i1 < (hl h28 3 : Int)) ∧ InR i2 ∧ InR (hi h28 3 (Int.toNat i1)) ∧ ((hi h28 3 (Int.toNat i1)) < i2 →
 (((c + 1) + 1) + 1 ≤ mc ∧ ((s + 6) + 6) + 6 ≤ ms) ∧ call m_X6_needArgument [pI 0] h28 (fun _ h33 =>
 hk h33 a0 = 7 ∧ ((((c + 1) + 1) + 1) + 16 ≤ mc ∧ (((s + 6) + 6) + 6) + 1620 ≤ ms) ∧ call m_X6_remember [pA a0] h33 (fun _ h34 =>
 hk h34 a0 = 7 ∧ hk h34 (hr h34 a0 6) = 1 ∧ call m_X0_settingOf [pA (hr h34 a0 6), pI i1] h34 (fun x35 h35 =>
 hk h35 a0 = 7 ∧ hk h35 (hr h35 a0 6) = 1 ∧ call m_X0_putSetting [pA (hr h35 a0 6), pI i1, pI i2] h35 (fun _ h36 =>
 Q x35 h36) X) X) X) X) ∧
(i2 ≤ (hi h28 3 (Int.toNat i1)) →
 (((c + 1) + 1) + 1 ≤ mc ∧ ((s + 6) + 6) + 6 ≤ ms) ∧ call m_X6_needArgument [pI 1] h28 (fun _ h37 =>
 hk h37 a0 = 7 ∧ ((((c + 1) + 1) + 1) + 16 ≤ mc ∧ (((s + 6) + 6) + 6) + 1620 ≤ ms) ∧ call m_X6_remember [pA a0] h37 (fun _ h38 =>
 hk h38 a0 = 7 ∧ hk h38 (hr h38 a0 6) = 1 ∧ call m_X0_settingOf [pA (hr h38 a0 6), pI i1] h38 (fun x39 h39 =>
 hk h39 a0 = 7 ∧ hk h39 (hr h39 a0 6) = 1 ∧ call m_X0_putSetting [pA (hr h39 a0 6), pI i1, pI i2] h39 (fun _ h40 =>
 Q x39 h40) X) X) X) X))) X))) X) : wpc k_X6_set [] call mc ms fr Q X [] K 400 (pto 0 k_X6_set) [some (pA a0), some (pI i1), some (pI i2), z3] [] h c s :=
  H
set_option maxRecDepth 100000 in
theorem v_X6_drop_0 (a0 : Nat) (i1 : Int) (h : PH) (c s : Nat) (H : hk h a0 = 7 ∧ (c + 1 ≤ mc ∧ s + 6 ≤ ms) ∧ call m_X6_needHall [pA a0] h (fun _ h1 =>
 hk h1 a0 = 7 ∧ ((c + 1) + 1 ≤ mc ∧ (s + 6) + 6 ≤ ms) ∧ call m_X6_needSignal [pA a0, pI i1] h1 (fun _ h2 =>
 hk h2 a0 = 7 ∧ (((c + 1) + 1) + 16 ≤ mc ∧ ((s + 6) + 6) + 1620 ≤ ms) ∧ call m_X6_remember [pA a0] h2 (fun _ h3 =>
 hk h3 a0 = 7 ∧ hk h3 a0 = 7 ∧ hk h3 (hr h3 a0 6) = 1 ∧ hk h3 (hr h3 a0 6) = 1 ∧ call m_X0_dropFrom [pA (hr h3 a0 6), pA (hr h3 (hr h3 a0 6) 5), pI i1] h3 (fun x4 h4 =>
 InR x4 ∧ (x4 = 0 →
 hk h4 a0 = 7 ∧ hk h4 a0 = 7 ∧ hk h4 (hr h4 a0 6) = 1 ∧ hk h4 (hr h4 a0 6) = 1 ∧ call m_X0_dropFrom [pA (hr h4 a0 6), pA (hr h4 (hr h4 a0 6) 6), pI i1] h4 (fun x5 h5 =>
 InR x5 ∧ (x5 = 0 →
 Q 2 h5) ∧
(x5 ≠ 0 →
 Q 1 h5)) X) ∧
(x4 ≠ 0 →
 Q 0 h4)) X) X) X) X) : wpc k_X6_drop [] call mc ms fr Q X [] K 400 (pto 0 k_X6_drop) [some (pA a0), some (pI i1)] [] h c s :=
  H
set_option maxRecDepth 100000 in
theorem v_X6_tick_0 (a0 : Nat) (i1 : Int) (z2 : Option PV) (z3 : Option PV) (h : PH) (c s : Nat) (H : hk h a0 = 7 ∧ (c + 1 ≤ mc ∧ s + 6 ≤ ms) ∧ call m_X6_needHall [pA a0] h (fun _ h1 =>
 InR i1 ∧ InR 1 ∧ (i1 < 1 →
 ((c + 1) + 1 ≤ mc ∧ (s + 6) + 6 ≤ ms) ∧ call m_X6_needArgument [pI 0] h1 (fun _ h2 =>
 hk h2 a0 = 7 ∧ hk h2 (hr h2 a0 6) = 1 ∧ InR (hi h2 (hr h2 a0 6) 10) ∧ InR (9999 - i1) ∧ ((9999 - i1) < (hi h2 (hr h2 a0 6) 10) →
 (((c + 1) + 1) + 1 ≤ mc ∧ ((s + 6) + 6) + 6 ≤ ms) ∧ call m_X6_needArgument [pI 0] h2 (fun _ h3 =>
 hk h3 a0 = 7 ∧ ((((c + 1) + 1) + 1) + 16 ≤ mc ∧ (((s + 6) + 6) + 6) + 1620 ≤ ms) ∧ call m_X6_remember [pA a0] h3 (fun _ h4 =>
 hk h4 a0 = 7 ∧ hk h4 (hr h4 a0 6) = 1 ∧ K 61 [some (pA a0), some (pI i1), some (pI (hi h4 (hr h4 a0 6) 9)), some (pI 0)] [] h4 ((((c + 1) + 1) + 1) + 16) ((((s + 6) + 6) + 6) + 1620)) X) X) ∧
((hi h2 (hr h2 a0 6) 10) ≤ (9999 - i1) →
 (((c + 1) + 1) + 1 ≤ mc ∧ ((s + 6) + 6) + 6 ≤ ms) ∧ call m_X6_needArgument [pI 1] h2 (fun _ h5 =>
 hk h5 a0 = 7 ∧ ((((c + 1) + 1) + 1) + 16 ≤ mc ∧ (((s + 6) + 6) + 6) + 1620 ≤ ms) ∧ call m_X6_remember [pA a0] h5 (fun _ h6 =>
 hk h6 a0 = 7 ∧ hk h6 (hr h6 a0 6) = 1 ∧ K 61 [some (pA a0), some (pI i1), some (pI (hi h6 (hr h6 a0 6) 9)), some (pI 0)] [] h6 ((((c + 1) + 1) + 1) + 16) ((((s + 6) + 6) + 6) + 1620)) X) X)) X) ∧
(1 ≤ i1 →
 InR i1 ∧ InR 200 ∧ (200 < i1 →
 ((c + 1) + 1 ≤ mc ∧ (s + 6) + 6 ≤ ms) ∧ call m_X6_needArgument [pI 0] h1 (fun _ h7 =>
 hk h7 a0 = 7 ∧ hk h7 (hr h7 a0 6) = 1 ∧ InR (hi h7 (hr h7 a0 6) 10) ∧ InR (9999 - i1) ∧ ((9999 - i1) < (hi h7 (hr h7 a0 6) 10) →
 (((c + 1) + 1) + 1 ≤ mc ∧ ((s + 6) + 6) + 6 ≤ ms) ∧ call m_X6_needArgument [pI 0] h7 (fun _ h8 =>
 hk h8 a0 = 7 ∧ ((((c + 1) + 1) + 1) + 16 ≤ mc ∧ (((s + 6) + 6) + 6) + 1620 ≤ ms) ∧ call m_X6_remember [pA a0] h8 (fun _ h9 =>
 hk h9 a0 = 7 ∧ hk h9 (hr h9 a0 6) = 1 ∧ K 61 [some (pA a0), some (pI i1), some (pI (hi h9 (hr h9 a0 6) 9)), some (pI 0)] [] h9 ((((c + 1) + 1) + 1) + 16) ((((s + 6) + 6) + 6) + 1620)) X) X) ∧
((hi h7 (hr h7 a0 6) 10) ≤ (9999 - i1) →
 (((c + 1) + 1) + 1 ≤ mc ∧ ((s + 6) + 6) + 6 ≤ ms) ∧ call m_X6_needArgument [pI 1] h7 (fun _ h10 =>
 hk h10 a0 = 7 ∧ ((((c + 1) + 1) + 1) + 16 ≤ mc ∧ (((s + 6) + 6) + 6) + 1620 ≤ ms) ∧ call m_X6_remember [pA a0] h10 (fun _ h11 =>
 hk h11 a0 = 7 ∧ hk h11 (hr h11 a0 6) = 1 ∧ K 61 [some (pA a0), some (pI i1), some (pI (hi h11 (hr h11 a0 6) 9)), some (pI 0)] [] h11 ((((c + 1) + 1) + 1) + 16) ((((s + 6) + 6) + 6) + 1620)) X) X)) X) ∧
(i1 ≤ 200 →
 ((c + 1) + 1 ≤ mc ∧ (s + 6) + 6 ≤ ms) ∧ call m_X6_needArgument [pI 1] h1 (fun _ h12 =>
 hk h12 a0 = 7 ∧ hk h12 (hr h12 a0 6) = 1 ∧ InR (hi h12 (hr h12 a0 6) 10) ∧ InR (9999 - i1) ∧ ((9999 - i1) < (hi h12 (hr h12 a0 6) 10) →
 (((c + 1) + 1) + 1 ≤ mc ∧ ((s + 6) + 6) + 6 ≤ ms) ∧ call m_X6_needArgument [pI 0] h12 (fun _ h13 =>
 hk h13 a0 = 7 ∧ ((((c + 1) + 1) + 1) + 16 ≤ mc ∧ (((s + 6) + 6) + 6) + 1620 ≤ ms) ∧ call m_X6_remember [pA a0] h13 (fun _ h14 =>
 hk h14 a0 = 7 ∧ hk h14 (hr h14 a0 6) = 1 ∧ K 61 [some (pA a0), some (pI i1), some (pI (hi h14 (hr h14 a0 6) 9)), some (pI 0)] [] h14 ((((c + 1) + 1) + 1) + 16) ((((s + 6) + 6) + 6) + 1620)) X) X) ∧
((hi h12 (hr h12 a0 6) 10) ≤ (9999 - i1) →
 (((c + 1) + 1) + 1 ≤ mc ∧ ((s + 6) + 6) + 6 ≤ ms) ∧ call m_X6_needArgument [pI 1] h12 (fun _ h15 =>
 hk h15 a0 = 7 ∧ ((((c + 1) + 1) + 1) + 16 ≤ mc ∧ (((s + 6) + 6) + 6) + 1620 ≤ ms) ∧ call m_X6_remember [pA a0] h15 (fun _ h16 =>
 hk h16 a0 = 7 ∧ hk h16 (hr h16 a0 6) = 1 ∧ K 61 [some (pA a0), some (pI i1), some (pI (hi h16 (hr h16 a0 6) 9)), some (pI 0)] [] h16 ((((c + 1) + 1) + 1) + 16) ((((s + 6) + 6) + 6) + 1620)) X) X)) X))) X) : wpc k_X6_tick [] call mc ms fr Q X [61] K 400 (pto 0 k_X6_tick) [some (pA a0), some (pI i1), z2, z3] [] h c s :=
  H
set_option maxRecDepth 100000 in
theorem v_X6_tick_61 (a0 : Nat) (i1 : Int) (i2 : Int) (i3 : Int) (h : PH) (c s : Nat) (H : InR i3 ∧ InR i1 ∧ (i3 < i1 →
 hk h a0 = 7 ∧ hk h a0 = 7 ∧ hk h (hr h a0 6) = 1 ∧ call m_X0_passTick [pA (hr h a0 6), pA (hr h a0 5)] h (fun _ h1 =>
 K 61 [some (pA a0), some (pI i1), some (pI i2), some (pI (i3 + 1))] [] h1 c s) X) ∧
(i1 ≤ i3 →
 hk h a0 = 7 ∧ hk h (hr h a0 6) = 1 ∧ Q ((hi h (hr h a0 6) 9) - i2) h)) : wpc k_X6_tick [] call mc ms fr Q X [61] K 400 (pto 61 k_X6_tick) [some (pA a0), some (pI i1), some (pI i2), some (pI i3)] [] h c s :=
  H
end VCS
theorem S_X6_send {d : Nat} {h : PH} {B A nx : Nat} {EP E D : Nat → Int → Int} {s : Int → Int} {N : Int} {Q : Int → PH → Prop} {X : Nat → PH → Prop} {p k v : Int} (T : FT h B A EP E D s) (W : WD D s N) (dAB : DAB A B) (P : PST h D nx) (n141 : 141 ≤ hn h) (RM : RR h D nx (D 0 14).toNat N) (hvp : InR p) (hvk : InR k) (hvv : InR v) (H : ∀ (x : Int) h1 h' (a : Nat) F E', ck (ck (ck (tL D) p 0 (D 0 4 - 1) 2) k 0 (D 0 3 - 1) 2) v 0 (999) 3 = 0 → x = s 1 → RMB h h1 nx a (D 0 14) → RMK h1 a F → HR F (D 0 2) (D 0 3) s → (141 ≤ a ∧ a + 14 ≤ hn h1) → Hx A h1 h' E' → HR E' (D 0 2) (D 0 3) (e_snd D s p k v (-1)) → Q x h') (HX : ∀ (e n' : Nat), (ck (ck (ck (tL D) p 0 (D 0 4 - 1) 2) k 0 (D 0 3 - 1) 2) v 0 (999) 3 = 1 ∧ e = 0 ∨ ck (ck (ck (tL D) p 0 (D 0 4 - 1) 2) k 0 (D 0 3 - 1) 2) v 0 (999) 3 = 2 ∧ e = 2 ∨ ck (ck (ck (tL D) p 0 (D 0 4 - 1) 2) k 0 (D 0 3 - 1) 2) v 0 (999) 3 = 3 ∧ e = 1) → hn h ≤ n' → X e (hup h n')) : RUN GQ (d + 8) m_X6_send [pA 64, pI p, pI k, pI v] h Q X := by
  obtain ⟨w1, w2, w3, wN, ws1, wI⟩ := id W
  have kL := tL_or D
  have M := T.M
  have L := T.L
  have k1 := ck_or (tL D) p 0 (D 0 4 - 1) 2
  have k2 := ck_or (ck (tL D) p 0 (D 0 4 - 1) 2) k 0 (D 0 3 - 1) 2
  have k3 := ck_or (ck (ck (tL D) p 0 (D 0 4 - 1) 2) k 0 (D 0 3 - 1) 2) v 0 (999) 3
  rw [e_X6_send]
  refine WP.of (RUN.mono GQ _) (cuts := []) (n := 400) (v_X6_send_0 _ _ _ _ _ _ _ ?_)
  refine ⟨T.k, ?_⟩
  refine ⟨⟨by omega, by omega⟩, ?_⟩
  refine S_X6_needHall T (fun c1 => ?_) (fun c1 n1 l1 => ?_)
  · obtain ⟨I, V, sw⟩ := wI (by omega)
    obtain ⟨R, U⟩ := T.u (by omega)
    obtain ⟨v2, v3, v4, vh⟩ := id V
    have I1 := I.e1
    have I2 := I.e2
    refine ⟨T.k, ?_⟩
    refine ⟨⟨by omega, by omega⟩, ?_⟩
    refine S_X6_needProgram T U V (by omega) (fun c6 => ?_) (fun c6 n6 l6 => ?_)
    · refine ⟨T.k, ?_⟩
      refine ⟨⟨by omega, by omega⟩, ?_⟩
      refine S_X6_needKind T U V (by omega) (fun c11 => ?_) (fun c11 n11 l11 => ?_)
      · refine ⟨ir (by omega) (by omega), fun c15 => ?_, fun c15 => ?_⟩
        · refine ⟨⟨by omega, by omega⟩, ?_⟩
          refine S_X6_needArgument (by omega) (fun c30 => ?_) (fun c30 n30 l30 => ?_)
          · exact absurd rfl c30
          · exact HX 1 _ (by omega) l30
        · refine ⟨ir (by omega) (by omega), ir (by omega) (by omega), fun c22 => ?_, fun c22 => ?_⟩
          · refine ⟨⟨by omega, by omega⟩, ?_⟩
            refine S_X6_needArgument (by omega) (fun c30 => ?_) (fun c30 n30 l30 => ?_)
            · exact absurd rfl c30
            · exact HX 1 _ (by omega) l30
          · refine ⟨⟨by omega, by omega⟩, ?_⟩
            refine S_X6_needArgument (by omega) (fun c30 => ?_) (fun c30 n30 l30 => ?_)
            · refine ⟨T.k, ?_⟩
              refine ⟨⟨by omega, by omega⟩, ?_⟩
              refine S_X6_remember T P.1 P.2.1 P.2.2.1 P.2.2.2 dAB.1 n141 (RM.room P.2.1) I R sw (fun h34 a34 F34 rb34 rk34 rf34 ra34 => ?_)
              have T1 := T.rem rb34 ra34.1 n141 dAB
              have X1 := T1.xq
              have M1 := T1.M
              have L1 := T1.L
              refine ⟨(XQ.sa M1.2.1 X1 dAB.1.1).k, ?_⟩
              try rw [(XQ.sa M1.2.1 X1 dAB.1.1).r6]
              refine ⟨Bx.k M1 0 (by decide) rfl, ?_⟩
              refine S_X0_sendSignal M1 R I V (by omega) (by omega) (by omega) (by omega) (by omega) (fun x45 h45 E45 e45 M45 R45 => ?_)
              subst e45
              refine H _ _ _ _ _ _ (by omega) ?_ rb34 rk34 rf34 ra34 M45 ?_
              · first | rfl | omega
              · exact R45
            · exact absurd c30 (by decide)
      · exact HX 2 _ (by omega) l11
    · exact HX 2 _ (by omega) l6
  · exact HX 0 _ (by omega) l1
theorem S_X6_mask {d : Nat} {h : PH} {B A nx : Nat} {EP E D : Nat → Int → Int} {s : Int → Int} {N : Int} {Q : Int → PH → Prop} {X : Nat → PH → Prop} {p k z : Int} (T : FT h B A EP E D s) (W : WD D s N) (dAB : DAB A B) (P : PST h D nx) (n141 : 141 ≤ hn h) (RM : RR h D nx (D 0 14).toNat N) (hvp : InR p) (hvk : InR k) (hvz : InR z) (hz : z = 0 ∨ z = 1) (H : ∀ (x : Int) h1 h' (a : Nat) F E', ck (ck (tL D) p 0 (D 0 4 - 1) 2) k 0 (D 0 3 - 1) 2 = 0 → x = msk s p k → RMB h h1 nx a (D 0 14) → RMK h1 a F → HR F (D 0 2) (D 0 3) s → (141 ≤ a ∧ a + 14 ≤ hn h1) → Hx A h1 h' E' → HR E' (D 0 2) (D 0 3) (ups s (85 + p) (bor (band (s (85 + p)) (bxor (bshl 1 k) (-1))) (bshl z k))) → Q x h') (HX : ∀ (e n' : Nat), (ck (ck (tL D) p 0 (D 0 4 - 1) 2) k 0 (D 0 3 - 1) 2 = 1 ∧ e = 0 ∨ ck (ck (tL D) p 0 (D 0 4 - 1) 2) k 0 (D 0 3 - 1) 2 = 2 ∧ e = 2) → hn h ≤ n' → X e (hup h n')) : RUN GQ (d + 8) m_X6_mask [pA 64, pI p, pI k, pI z] h Q X := by
  obtain ⟨w1, w2, w3, wN, ws1, wI⟩ := id W
  have kL := tL_or D
  have M := T.M
  have L := T.L
  have k1 := ck_or (tL D) p 0 (D 0 4 - 1) 2
  have k2 := ck_or (ck (tL D) p 0 (D 0 4 - 1) 2) k 0 (D 0 3 - 1) 2
  rw [e_X6_mask]
  refine WP.of (RUN.mono GQ _) (cuts := []) (n := 400) (v_X6_mask_0 _ _ _ _ _ _ _ _ ?_)
  refine ⟨T.k, ?_⟩
  refine ⟨⟨by omega, by omega⟩, ?_⟩
  refine S_X6_needHall T (fun c1 => ?_) (fun c1 n1 l1 => ?_)
  · obtain ⟨I, V, sw⟩ := wI (by omega)
    obtain ⟨R, U⟩ := T.u (by omega)
    obtain ⟨v2, v3, v4, vh⟩ := id V
    have I1 := I.e1
    have I2 := I.e2
    refine ⟨T.k, ?_⟩
    refine ⟨⟨by omega, by omega⟩, ?_⟩
    refine S_X6_needProgram T U V (by omega) (fun c6 => ?_) (fun c6 n6 l6 => ?_)
    · refine ⟨T.k, ?_⟩
      refine ⟨⟨by omega, by omega⟩, ?_⟩
      refine S_X6_needKind T U V (by omega) (fun c11 => ?_) (fun c11 n11 l11 => ?_)
      · refine ⟨T.k, ?_⟩
        refine ⟨⟨by omega, by omega⟩, ?_⟩
        refine S_X6_remember T P.1 P.2.1 P.2.2.1 P.2.2.2 dAB.1 n141 (RM.room P.2.1) I R sw (fun h15 a15 F15 rb15 rk15 rf15 ra15 => ?_)
        have T1 := T.rem rb15 ra15.1 n141 dAB
        have X1 := T1.xq
        have M1 := T1.M
        have L1 := T1.L
        refine ⟨(XQ.sa M1.2.1 X1 dAB.1.1).k, ?_⟩
        try rw [(XQ.sa M1.2.1 X1 dAB.1.1).r6]
        refine ⟨Bx.k M1 0 (by decide) rfl, ?_⟩
        refine S_X0_isMasked M1 R I (by omega) (fun x24 e24 => ?_)
        subst e24
        have ms := msk_01 (s := s) p k
        refine ⟨(XQ.sa M1.2.1 X1 dAB.1.1).k, ?_⟩
        try rw [(XQ.sa M1.2.1 X1 dAB.1.1).r6]
        refine ⟨Bx.k M1 0 (by decide) rfl, ?_⟩
        refine S_X0_putMask M1 (by omega) (by omega) (fun x36 h36 e36 M36 => ?_)
        subst e36
        refine ⟨(by omega), ?_⟩
        refine H _ _ _ _ _ _ (by omega) ?_ rb15 rk15 rf15 ra15 M36 ?_
        · first | rfl | omega
        · rw [msk_to hz]
          have q := R.mk (p := p) (by omega)
          rw [q]
          exact hr_msk (p := p) R (by omega)
      · exact HX 2 _ (by omega) l11
    · exact HX 2 _ (by omega) l6
  · exact HX 0 _ (by omega) l1
theorem S_X6_clear {d : Nat} {h : PH} {B A nx : Nat} {EP E D : Nat → Int → Int} {s : Int → Int} {N : Int} {Q : Int → PH → Prop} {X : Nat → PH → Prop} {p : Int} (T : FT h B A EP E D s) (W : WD D s N) (dAB : DAB A B) (P : PST h D nx) (n141 : 141 ≤ hn h) (RM : RR h D nx (D 0 14).toNat N) (hvp : InR p) (H : ∀ (x : Int) h1 h' (a : Nat) F E', ck (tL D) p 0 (D 0 4 - 1) 2 = 0 → x = s (115 + p) → RMB h h1 nx a (D 0 14) → RMK h1 a F → HR F (D 0 2) (D 0 3) s → (141 ≤ a ∧ a + 14 ≤ hn h1) → Hx A h1 h' E' → HR E' (D 0 2) (D 0 3) (e_drops s p (-1)) → Q x h') (HX : ∀ (e n' : Nat), (ck (tL D) p 0 (D 0 4 - 1) 2 = 1 ∧ e = 0 ∨ ck (tL D) p 0 (D 0 4 - 1) 2 = 2 ∧ e = 2) → hn h ≤ n' → X e (hup h n')) : RUN GQ (d + 8) m_X6_clear [pA 64, pI p] h Q X := by
  obtain ⟨w1, w2, w3, wN, ws1, wI⟩ := id W
  have kL := tL_or D
  have M := T.M
  have L := T.L
  have k1 := ck_or (tL D) p 0 (D 0 4 - 1) 2
  rw [e_X6_clear]
  refine WP.of (RUN.mono GQ _) (cuts := []) (n := 400) (v_X6_clear_0 _ _ _ _ _ ?_)
  refine ⟨T.k, ?_⟩
  refine ⟨⟨by omega, by omega⟩, ?_⟩
  refine S_X6_needHall T (fun c1 => ?_) (fun c1 n1 l1 => ?_)
  · obtain ⟨I, V, sw⟩ := wI (by omega)
    obtain ⟨R, U⟩ := T.u (by omega)
    obtain ⟨v2, v3, v4, vh⟩ := id V
    have I1 := I.e1
    have I2 := I.e2
    refine ⟨T.k, ?_⟩
    refine ⟨⟨by omega, by omega⟩, ?_⟩
    refine S_X6_needProgram T U V (by omega) (fun c6 => ?_) (fun c6 n6 l6 => ?_)
    · refine ⟨T.k, ?_⟩
      refine ⟨⟨by omega, by omega⟩, ?_⟩
      refine S_X6_remember T P.1 P.2.1 P.2.2.1 P.2.2.2 dAB.1 n141 (RM.room P.2.1) I R sw (fun h10 a10 F10 rb10 rk10 rf10 ra10 => ?_)
      have T1 := T.rem rb10 ra10.1 n141 dAB
      have X1 := T1.xq
      have M1 := T1.M
      have L1 := T1.L
      refine ⟨(XQ.sa M1.2.1 X1 dAB.1.1).k, ?_⟩
      try rw [(XQ.sa M1.2.1 X1 dAB.1.1).r6]
      refine ⟨Bx.k M1 0 (by decide) rfl, ?_⟩
      refine S_X0_dropAll M1 R I V (by omega) (by omega) (fun x18 h18 E18 e18 M18 R18 => ?_)
      subst e18
      refine H _ _ _ _ _ _ (by omega) ?_ rb10 rk10 rf10 ra10 M18 ?_
      · first | rfl | omega
      · exact R18
    · exact HX 2 _ (by omega) l6
  · exact HX 0 _ (by omega) l1
theorem S_X6_refresh {d : Nat} {h : PH} {B A nx : Nat} {EP E D : Nat → Int → Int} {s : Int → Int} {N : Int} {Q : Int → PH → Prop} {X : Nat → PH → Prop} {p : Int} (T : FT h B A EP E D s) (W : WD D s N) (dAB : DAB A B) (P : PST h D nx) (n141 : 141 ≤ hn h) (RM : RR h D nx (D 0 14).toNat N) (hvp : InR p) (H : ∀ (x : Int) h1 h' (a : Nat) F E', ck (tL D) p 0 (D 0 4 - 1) 2 = 0 → x = rfsum p (D 0 3).toNat 0 s 0 → RMB h h1 nx a (D 0 14) → RMK h1 a F → HR F (D 0 2) (D 0 3) s → (141 ≤ a ∧ a + 14 ≤ hn h1) → Hx A h1 h' E' → HR E' (D 0 2) (D 0 3) (rfs p (D 0 3).toNat 0 s) → Q x h') (HX : ∀ (e n' : Nat), (ck (tL D) p 0 (D 0 4 - 1) 2 = 1 ∧ e = 0 ∨ ck (tL D) p 0 (D 0 4 - 1) 2 = 2 ∧ e = 2) → hn h ≤ n' → X e (hup h n')) : RUN GQ (d + 8) m_X6_refresh [pA 64, pI p] h Q X := by
  obtain ⟨w1, w2, w3, wN, ws1, wI⟩ := id W
  have kL := tL_or D
  have M := T.M
  have L := T.L
  have k1 := ck_or (tL D) p 0 (D 0 4 - 1) 2
  rw [e_X6_refresh]
  refine WP.of (RUN.mono GQ _) (cuts := []) (n := 400) (v_X6_refresh_0 _ _ _ _ _ ?_)
  refine ⟨T.k, ?_⟩
  refine ⟨⟨by omega, by omega⟩, ?_⟩
  refine S_X6_needHall T (fun c1 => ?_) (fun c1 n1 l1 => ?_)
  · obtain ⟨I, V, sw⟩ := wI (by omega)
    obtain ⟨R, U⟩ := T.u (by omega)
    obtain ⟨v2, v3, v4, vh⟩ := id V
    have I1 := I.e1
    have I2 := I.e2
    refine ⟨T.k, ?_⟩
    refine ⟨⟨by omega, by omega⟩, ?_⟩
    refine S_X6_needProgram T U V (by omega) (fun c6 => ?_) (fun c6 n6 l6 => ?_)
    · refine ⟨T.k, ?_⟩
      refine ⟨⟨by omega, by omega⟩, ?_⟩
      refine S_X6_remember T P.1 P.2.1 P.2.2.1 P.2.2.2 dAB.1 n141 (RM.room P.2.1) I R sw (fun h10 a10 F10 rb10 rk10 rf10 ra10 => ?_)
      have T1 := T.rem rb10 ra10.1 n141 dAB
      have X1 := T1.xq
      have M1 := T1.M
      have L1 := T1.L
      refine ⟨(XQ.sa M1.2.1 X1 dAB.1.1).k, ?_⟩
      try rw [(XQ.sa M1.2.1 X1 dAB.1.1).r6]
      refine ⟨Bx.k M1 0 (by decide) rfl, ?_⟩
      refine S_X0_takeTirednessAway M1 R I V (by omega) (by omega) (fun x18 h18 E18 e18 M18 R18 => ?_)
      subst e18
      refine H _ _ _ _ _ _ (by omega) ?_ rb10 rk10 rf10 ra10 M18 ?_
      · rw [rfsum_8 I v3 (by omega)]
      · rw [← rfs_8 I v3 (by omega)]
        exact R18
    · exact HX 2 _ (by omega) l6
  · exact HX 0 _ (by omega) l1
theorem S_X6_setKind {d : Nat} {h : PH} {B A nx : Nat} {EP E D : Nat → Int → Int} {s : Int → Int} {N : Int} {Q : Int → PH → Prop} {X : Nat → PH → Prop} {k w v : Int} (T : FT h B A EP E D s) (W : WD D s N) (G : SG h) (dAB : DAB A B) (P : PST h D nx) (n141 : 141 ≤ hn h) (RM : RR h D nx (D 0 14).toNat N) (hvk : InR k) (hvw : InR w) (hvv : InR v) (H : ∀ (x : Int) h1 h' (a : Nat) F E', ck (ck (ck (tL D) k 0 (D 0 3 - 1) 2) w 0 (2) 3) v (knl w) (knh w) 3 = 0 → x = kn s k w → RMB h h1 nx a (D 0 14) → RMK h1 a F → HR F (D 0 2) (D 0 3) s → (141 ≤ a ∧ a + 14 ≤ hn h1) → Hx A h1 h' E' → HR E' (D 0 2) (D 0 3) (ups s (13 + 3 * k + w) v) → Q x h') (HX : ∀ (e n' : Nat), (ck (ck (ck (tL D) k 0 (D 0 3 - 1) 2) w 0 (2) 3) v (knl w) (knh w) 3 = 1 ∧ e = 0 ∨ ck (ck (ck (tL D) k 0 (D 0 3 - 1) 2) w 0 (2) 3) v (knl w) (knh w) 3 = 2 ∧ e = 2 ∨ ck (ck (ck (tL D) k 0 (D 0 3 - 1) 2) w 0 (2) 3) v (knl w) (knh w) 3 = 3 ∧ e = 1) → hn h ≤ n' → X e (hup h n')) : RUN GQ (d + 8) m_X6_setKind [pA 64, pI k, pI w, pI v] h Q X := by
  obtain ⟨w1, w2, w3, wN, ws1, wI⟩ := id W
  have kL := tL_or D
  have M := T.M
  have L := T.L
  have k1 := ck_or (tL D) k 0 (D 0 3 - 1) 2
  have k2 := ck_or (ck (tL D) k 0 (D 0 3 - 1) 2) w 0 (2) 3
  have k3 := ck_or (ck (ck (tL D) k 0 (D 0 3 - 1) 2) w 0 (2) 3) v (knl w) (knh w) 3
  have kl := kl_to w
  have kr := kl_rng w
  rw [e_X6_setKind]
  refine WP.of (RUN.mono GQ _) (cuts := []) (n := 400) (v_X6_setKind_0 _ _ _ _ _ _ _ _ ?_)
  refine ⟨T.k, ?_⟩
  refine ⟨⟨by omega, by omega⟩, ?_⟩
  refine S_X6_needHall T (fun c1 => ?_) (fun c1 n1 l1 => ?_)
  · obtain ⟨I, V, sw⟩ := wI (by omega)
    obtain ⟨R, U⟩ := T.u (by omega)
    obtain ⟨v2, v3, v4, vh⟩ := id V
    have I1 := I.e1
    have I2 := I.e2
    refine ⟨T.k, ?_⟩
    refine ⟨⟨by omega, by omega⟩, ?_⟩
    refine S_X6_needKind T U V (by omega) (fun c6 => ?_) (fun c6 n6 l6 => ?_)
    · refine ⟨ir (by omega) (by omega), fun c10 => ?_, fun c10 => ?_⟩
      · refine ⟨⟨by omega, by omega⟩, ?_⟩
        refine S_X6_needArgument (by omega) (fun c23 => ?_) (fun c23 n23 l23 => ?_)
        · exact absurd rfl c23
        · exact HX 1 _ (by omega) l23
      · refine ⟨ir (by omega) (by omega), ir (by omega) (by omega), fun c15 => ?_, fun c15 => ?_⟩
        · refine ⟨⟨by omega, by omega⟩, ?_⟩
          refine S_X6_needArgument (by omega) (fun c23 => ?_) (fun c23 n23 l23 => ?_)
          · refine (G.g4).ld (by omega) (by omega) (fun er => ?_)
            rw [er]
            clear er
            refine ⟨ir (by omega) (by omega), ir (by omega) (by omega), fun c32 => ?_, fun c32 => ?_⟩
            · refine ⟨⟨by omega, by omega⟩, ?_⟩
              refine S_X6_needArgument (by omega) (fun c49 => ?_) (fun c49 n49 l49 => ?_)
              · exact absurd rfl c49
              · exact HX 1 _ (by omega) l49
            · refine (G.g5).ld (by omega) (by omega) (fun er => ?_)
              rw [er]
              clear er
              refine ⟨ir (by omega) (by omega), ir (by omega) (by omega), fun c41 => ?_, fun c41 => ?_⟩
              · refine ⟨⟨by omega, by omega⟩, ?_⟩
                refine S_X6_needArgument (by omega) (fun c49 => ?_) (fun c49 n49 l49 => ?_)
                · exact absurd rfl c49
                · exact HX 1 _ (by omega) l49
              · refine ⟨⟨by omega, by omega⟩, ?_⟩
                refine S_X6_needArgument (by omega) (fun c49 => ?_) (fun c49 n49 l49 => ?_)
                · refine ⟨T.k, ?_⟩
                  refine ⟨⟨by omega, by omega⟩, ?_⟩
                  refine S_X6_remember T P.1 P.2.1 P.2.2.1 P.2.2.2 dAB.1 n141 (RM.room P.2.1) I R sw (fun h53 a53 F53 rb53 rk53 rf53 ra53 => ?_)
                  have T1 := T.rem rb53 ra53.1 n141 dAB
                  have X1 := T1.xq
                  have M1 := T1.M
                  have L1 := T1.L
                  refine ⟨(XQ.sa M1.2.1 X1 dAB.1.1).k, ?_⟩
                  try rw [(XQ.sa M1.2.1 X1 dAB.1.1).r6]
                  refine ⟨Bx.k M1 0 (by decide) rfl, ?_⟩
                  refine S_X0_kindNumber M1 R (by omega) (by omega) (by omega) (fun x62 e62 => ?_)
                  subst e62
                  refine ⟨(XQ.sa M1.2.1 X1 dAB.1.1).k, ?_⟩
                  try rw [(XQ.sa M1.2.1 X1 dAB.1.1).r6]
                  refine ⟨Bx.k M1 0 (by decide) rfl, ?_⟩
                  refine S_X0_putKindNumber M1 (by omega) (by omega) (fun x74 h74 e74 M74 => ?_)
                  subst e74
                  refine H _ _ _ _ _ _ (by omega) ?_ rb53 rk53 rf53 ra53 M74 ?_
                  · first | rfl | omega
                  · exact hr_num R (by omega) (by omega)
                · exact absurd c49 (by decide)
          · exact absurd c23 (by decide)
        · refine ⟨⟨by omega, by omega⟩, ?_⟩
          refine S_X6_needArgument (by omega) (fun c23 => ?_) (fun c23 n23 l23 => ?_)
          · exact absurd rfl c23
          · exact HX 1 _ (by omega) l23
    · exact HX 2 _ (by omega) l6
  · exact HX 0 _ (by omega) l1
theorem S_X6_set {d : Nat} {h : PH} {B A nx : Nat} {EP E D : Nat → Int → Int} {s : Int → Int} {N : Int} {Q : Int → PH → Prop} {X : Nat → PH → Prop} {w v : Int} (T : FT h B A EP E D s) (W : WD D s N) (G : SG h) (dAB : DAB A B) (P : PST h D nx) (n141 : 141 ≤ hn h) (RM : RR h D nx (D 0 14).toNat N) (hvw : InR w) (hvv : InR v) (H : ∀ (x : Int) h1 h' (a : Nat) F E', ck (ck (tL D) w 0 (2) 2) v (stl w) (sth w) 2 = 0 → x = s (10 + w) → RMB h h1 nx a (D 0 14) → RMK h1 a F → HR F (D 0 2) (D 0 3) s → (141 ≤ a ∧ a + 14 ≤ hn h1) → Hx A h1 h' E' → HR E' (D 0 2) (D 0 3) (ups s (10 + w) v) → Q x h') (HX : ∀ (e n' : Nat), (ck (ck (tL D) w 0 (2) 2) v (stl w) (sth w) 2 = 1 ∧ e = 0 ∨ ck (ck (tL D) w 0 (2) 2) v (stl w) (sth w) 2 = 2 ∧ e = 1) → hn h ≤ n' → X e (hup h n')) : RUN GQ (d + 7) m_X6_set [pA 64, pI w, pI v] h Q X := by
  obtain ⟨w1, w2, w3, wN, ws1, wI⟩ := id W
  have kL := tL_or D
  have M := T.M
  have L := T.L
  have k1 := ck_or (tL D) w 0 (2) 2
  have k2 := ck_or (ck (tL D) w 0 (2) 2) v (stl w) (sth w) 2
  have kl := kl_to w
  have kr := kl_rng w
  rw [e_X6_set]
  refine WP.of (RUN.mono GQ _) (cuts := []) (n := 400) (v_X6_set_0 _ _ _ _ _ _ _ ?_)
  refine ⟨T.k, ?_⟩
  refine ⟨⟨by omega, by omega⟩, ?_⟩
  refine S_X6_needHall T (fun c1 => ?_) (fun c1 n1 l1 => ?_)
  · obtain ⟨I, V, sw⟩ := wI (by omega)
    obtain ⟨R, U⟩ := T.u (by omega)
    obtain ⟨v2, v3, v4, vh⟩ := id V
    have I1 := I.e1
    have I2 := I.e2
    refine ⟨ir (by omega) (by omega), fun c5 => ?_, fun c5 => ?_⟩
    · refine ⟨⟨by omega, by omega⟩, ?_⟩
      refine S_X6_needArgument (by omega) (fun c18 => ?_) (fun c18 n18 l18 => ?_)
      · exact absurd rfl c18
      · exact HX 1 _ (by omega) l18
    · refine ⟨ir (by omega) (by omega), ir (by omega) (by omega), fun c10 => ?_, fun c10 => ?_⟩
      · refine ⟨⟨by omega, by omega⟩, ?_⟩
        refine S_X6_needArgument (by omega) (fun c18 => ?_) (fun c18 n18 l18 => ?_)
        · refine (G.g2).ld (by omega) (by omega) (fun er => ?_)
          rw [er]
          clear er
          refine ⟨ir (by omega) (by omega), ir (by omega) (by omega), fun c27 => ?_, fun c27 => ?_⟩
          · refine ⟨⟨by omega, by omega⟩, ?_⟩
            refine S_X6_needArgument (by omega) (fun c44 => ?_) (fun c44 n44 l44 => ?_)
            · exact absurd rfl c44
            · exact HX 1 _ (by omega) l44
          · refine (G.g3).ld (by omega) (by omega) (fun er => ?_)
            rw [er]
            clear er
            refine ⟨ir (by omega) (by omega), ir (by omega) (by omega), fun c36 => ?_, fun c36 => ?_⟩
            · refine ⟨⟨by omega, by omega⟩, ?_⟩
              refine S_X6_needArgument (by omega) (fun c44 => ?_) (fun c44 n44 l44 => ?_)
              · exact absurd rfl c44
              · exact HX 1 _ (by omega) l44
            · refine ⟨⟨by omega, by omega⟩, ?_⟩
              refine S_X6_needArgument (by omega) (fun c44 => ?_) (fun c44 n44 l44 => ?_)
              · refine ⟨T.k, ?_⟩
                refine ⟨⟨by omega, by omega⟩, ?_⟩
                refine S_X6_remember T P.1 P.2.1 P.2.2.1 P.2.2.2 dAB.1 n141 (RM.room P.2.1) I R sw (fun h48 a48 F48 rb48 rk48 rf48 ra48 => ?_)
                have T1 := T.rem rb48 ra48.1 n141 dAB
                have X1 := T1.xq
                have M1 := T1.M
                have L1 := T1.L
                refine ⟨(XQ.sa M1.2.1 X1 dAB.1.1).k, ?_⟩
                try rw [(XQ.sa M1.2.1 X1 dAB.1.1).r6]
                refine ⟨Bx.k M1 0 (by decide) rfl, ?_⟩
                refine S_X0_settingOf M1 (by omega) (fun x56 e56 => ?_)
                subst e56
                refine ⟨(XQ.sa M1.2.1 X1 dAB.1.1).k, ?_⟩
                try rw [(XQ.sa M1.2.1 X1 dAB.1.1).r6]
                refine ⟨Bx.k M1 0 (by decide) rfl, ?_⟩
                refine S_X0_putSetting M1 (by omega) (fun x66 h66 e66 M66 => ?_)
                subst e66
                refine H _ _ _ _ _ _ (by omega) ?_ rb48 rk48 rf48 ra48 M66 ?_
                · exact R.set (by omega)
                · exact hr_put R (by omega)
              · exact absurd c44 (by decide)
        · exact absurd c18 (by decide)
      · refine ⟨⟨by omega, by omega⟩, ?_⟩
        refine S_X6_needArgument (by omega) (fun c18 => ?_) (fun c18 n18 l18 => ?_)
        · exact absurd rfl c18
        · exact HX 1 _ (by omega) l18
  · exact HX 0 _ (by omega) l1
theorem S_X6_drop {d : Nat} {h : PH} {B A nx : Nat} {EP E D : Nat → Int → Int} {s : Int → Int} {N : Int} {Q : Int → PH → Prop} {X : Nat → PH → Prop} {g : Int} (T : FT h B A EP E D s) (W : WD D s N) (dAB : DAB A B) (P : PST h D nx) (n141 : 141 ≤ hn h) (RM : RR h D nx (D 0 14).toNat N) (hvg : InR g) (H : ∀ (x : Int) h1 h' (a : Nat) F E', ck (tL D) g 0 (s 1 - 1) 2 = 0 → x = drpv D s g → RMB h h1 nx a (D 0 14) → RMK h1 a F → HR F (D 0 2) (D 0 3) s → (141 ≤ a ∧ a + 14 ≤ hn h1) → Hx A h1 h' E' → HR E' (D 0 2) (D 0 3) (drps D s g) → Q x h') (HX : ∀ (e n' : Nat), (ck (tL D) g 0 (s 1 - 1) 2 = 1 ∧ e = 0 ∨ ck (tL D) g 0 (s 1 - 1) 2 = 2 ∧ e = 2) → hn h ≤ n' → X e (hup h n')) : RUN GQ (d + 8) m_X6_drop [pA 64, pI g] h Q X := by
  obtain ⟨w1, w2, w3, wN, ws1, wI⟩ := id W
  have kL := tL_or D
  have M := T.M
  have L := T.L
  have k1 := ck_or (tL D) g 0 (s 1 - 1) 2
  rw [e_X6_drop]
  refine WP.of (RUN.mono GQ _) (cuts := []) (n := 400) (v_X6_drop_0 _ _ _ _ _ ?_)
  refine ⟨T.k, ?_⟩
  refine ⟨⟨by omega, by omega⟩, ?_⟩
  refine S_X6_needHall T (fun c1 => ?_) (fun c1 n1 l1 => ?_)
  · obtain ⟨I, V, sw⟩ := wI (by omega)
    obtain ⟨R, U⟩ := T.u (by omega)
    obtain ⟨v2, v3, v4, vh⟩ := id V
    have I1 := I.e1
    have I2 := I.e2
    refine ⟨T.k, ?_⟩
    refine ⟨⟨by omega, by omega⟩, ?_⟩
    refine S_X6_needSignal T R (by exact ir (by omega) (by omega)) (by omega) (fun c6 => ?_) (fun c6 n6 l6 => ?_)
    · refine ⟨T.k, ?_⟩
      refine ⟨⟨by omega, by omega⟩, ?_⟩
      refine S_X6_remember T P.1 P.2.1 P.2.2.1 P.2.2.2 dAB.1 n141 (RM.room P.2.1) I R sw (fun h10 a10 F10 rb10 rk10 rf10 ra10 => ?_)
      have T1 := T.rem rb10 ra10.1 n141 dAB
      have X1 := T1.xq
      have M1 := T1.M
      have L1 := T1.L
      have dt := drp_to (g := g) I rfl v4
      have pr := ppl_spec (s := s) (g := g) (a := 115) (f := qv) 6 0 (by omega)
      have ps := ppl_spec (s := s) (g := g) (a := 511) (f := sv) 6 0 (by omega)
      refine ⟨(XQ.sa M1.2.1 X1 dAB.1.1).k, ?_⟩
      try rw [(XQ.sa M1.2.1 X1 dAB.1.1).r6]
      refine ⟨(XQ.sa M1.2.1 X1 dAB.1.1).k, ?_⟩
      try rw [(XQ.sa M1.2.1 X1 dAB.1.1).r6]
      refine ⟨Bx.k M1 0 (by decide) rfl, ?_⟩
      try rw [show hr h10 A 5 = A + 6 from Bx.r M1 0 5 6 (by decide)]
      refine ⟨Bx.k M1 0 (by decide) rfl, ?_⟩
      refine S_X0_dropFrom_q M1 R I V (by omega) (by omega) (fun x25 h25 E25 e25 M25 R25 => ?_)
      refine ⟨ir (by omega) (by omega), fun c28 => ?_, fun c28 => ?_⟩
      · have pq : ppl s g 115 qv 6 0 = -1 := by
          by_cases z : ppl s g 115 qv 6 0 = -1
          · exact z
          · rw [if_neg z] at e25; omega
        have R33 : HR E25 (D 0 2) (D 0 3) s := by have q := R25; rw [if_pos pq] at q; exact q
        refine ⟨(XQ.sa M25.2.1 X1 dAB.1.1).k, ?_⟩
        try rw [(XQ.sa M25.2.1 X1 dAB.1.1).r6]
        refine ⟨(XQ.sa M25.2.1 X1 dAB.1.1).k, ?_⟩
        try rw [(XQ.sa M25.2.1 X1 dAB.1.1).r6]
        refine ⟨Bx.k M25 0 (by decide) rfl, ?_⟩
        try rw [show hr h25 A 6 = A + 9 from Bx.r M25 0 6 9 (by decide)]
        refine ⟨Bx.k M25 0 (by decide) rfl, ?_⟩
        refine S_X0_dropFrom_s M25 R33 I V (by omega) (by omega) (fun x45 h45 E45 e45 M45 R45 => ?_)
        refine ⟨ir (by omega) (by omega), fun c48 => ?_, fun c48 => ?_⟩
        · refine H _ _ _ _ _ _ (by omega) ?_ rb10 rk10 rf10 ra10 M45 ?_
          · rw [dt.1]
            first
            | (rw [if_pos pq]; done)
            | (rw [if_neg (by omega)]; by_cases z : ppl s g 511 sv 6 0 = -1
               · rw [if_pos z] at e45; first | omega | (rw [if_neg (by omega)]; done) | (rw [if_neg (by omega)])
               · rw [if_neg z] at e45; first | omega | (rw [if_pos z]; done) | (rw [if_pos z]))
          · rw [dt.2]
            first
            | (rw [if_pos pq]; have q := R45; rw [if_neg pq] at q; exact q)
            | (rw [if_neg (by omega)]; have q := R45; by_cases z : ppl s g 511 sv 6 0 = -1
               · rw [if_pos z] at q; rw [if_neg (by omega)]; exact q
               · rw [if_neg z] at q; rw [if_pos z]; exact q)
        · refine H _ _ _ _ _ _ (by omega) ?_ rb10 rk10 rf10 ra10 M45 ?_
          · rw [dt.1]
            first
            | (rw [if_pos pq]; done)
            | (rw [if_neg (by omega)]; by_cases z : ppl s g 511 sv 6 0 = -1
               · rw [if_pos z] at e45; first | omega | (rw [if_neg (by omega)]; done) | (rw [if_neg (by omega)])
               · rw [if_neg z] at e45; first | omega | (rw [if_pos z]; done) | (rw [if_pos z]))
          · rw [dt.2]
            first
            | (rw [if_pos pq]; have q := R45; rw [if_neg pq] at q; exact q)
            | (rw [if_neg (by omega)]; have q := R45; by_cases z : ppl s g 511 sv 6 0 = -1
               · rw [if_pos z] at q; rw [if_neg (by omega)]; exact q
               · rw [if_neg z] at q; rw [if_pos z]; exact q)
      · have pq : ppl s g 115 qv 6 0 ≠ -1 := fun z => by rw [if_pos z] at e25; omega
        refine H _ _ _ _ _ _ (by omega) ?_ rb10 rk10 rf10 ra10 M25 ?_
        · rw [dt.1]
          first
          | (rw [if_pos pq]; done)
          | (rw [if_neg (by omega)]; by_cases z : ppl s g 511 sv 6 0 = -1
             · rw [if_pos z] at e45; first | omega | (rw [if_neg (by omega)]; done) | (rw [if_neg (by omega)])
             · rw [if_neg z] at e45; first | omega | (rw [if_pos z]; done) | (rw [if_pos z]))
        · rw [dt.2]
          first
          | (rw [if_pos pq]; have q := R25; rw [if_neg pq] at q; exact q)
          | (rw [if_neg (by omega)]; have q := R25; by_cases z : ppl s g 511 sv 6 0 = -1
             · rw [if_pos z] at q; rw [if_neg (by omega)]; exact q
             · rw [if_neg z] at q; rw [if_pos z]; exact q)
    · exact HX 2 _ (by omega) l6
  · exact HX 0 _ (by omega) l1
theorem L_X6_tick_61 {d : Nat} {Q : Int → PH → Prop} {X : Nat → PH → Prop} {m : Int} {B A : Nat} {EP D : Nat → Int → Int} {h0 : PH} {be : Int} (X1 : XQ h0 B A) (L1 : Px B h0 h0 EP) (V : PIv D) (U : PT EP D) (dAB : DAB A B) (hm : 0 ≤ m ∧ m ≤ 200) (hbe : 0 ≤ be ∧ be ≤ 1990000000) : ∀ (n : Nat) (i : Int) (E : Nat → Int → Int) (r : Int → Int) (h : PH) (N : Int), (Hx A h0 h E) → (HR E (D 0 2) (D 0 3) r) → (HI (D 0 3) (D 0 4) (D 0 2) N r) → (0 ≤ i ∧ i + n = m) → (N + 481 * n ≤ 1998000000) → (∀ (x : Int) h' E', x = e_tks D n r 2 - be → Hx A h0 h' E' → HR E' (D 0 2) (D 0 3) (e_tks D n r) → Q x h') → WP k_X6_tick [] (RUN GQ (d + 6)) 24 1700 (d + 7) Q X 61 [some (pA 64), some (pI m), some (pI be), some (pI i)] [] h 19 1638 := by
  intro n
  induction n with
  | zero =>
    intro i E r h N M R I hk0 hN H
    obtain ⟨v2, v3, v4, vh⟩ := id V
    have I2 := I.e2
    refine WP.of (RUN.mono GQ _) (cuts := [61]) (n := 400) (v_X6_tick_61 _ _ _ _ _ _ _ ?_)
    refine ⟨ir (by omega) (by omega), ir (by omega) (by omega), fun c63 => ?_, fun c63 => ?_⟩
    · exfalso; omega
    · refine ⟨(XQ.sa M.2.1 X1 dAB.1.1).k, ?_⟩
      try rw [(XQ.sa M.2.1 X1 dAB.1.1).r6]
      refine ⟨Bx.k M 0 (by decide) rfl, ?_⟩
      try rw [show hi h A 9 = _ from Bx.f9 M 0 (by decide)]
      rw [R.fl.1]
      exact H _ _ _ rfl M R
  | succ n ih =>
    intro i E r h N M R I hk0 hN H
    obtain ⟨v2, v3, v4, vh⟩ := id V
    have I2 := I.e2
    refine WP.of (RUN.mono GQ _) (cuts := [61]) (n := 400) (v_X6_tick_61 _ _ _ _ _ _ _ ?_)
    refine ⟨ir (by omega) (by omega), ir (by omega) (by omega), fun c63 => ?_, fun c63 => ?_⟩
    · refine ⟨(XQ.sa M.2.1 X1 dAB.1.1).k, ?_⟩
      try rw [(XQ.sa M.2.1 X1 dAB.1.1).r6]
      refine ⟨(XQ.sa M.2.1 X1 dAB.1.1).k, ?_⟩
      try rw [(XQ.sa M.2.1 X1 dAB.1.1).r5]
      refine ⟨Bx.k M 0 (by decide) rfl, ?_⟩
      refine S_X0_passTick M R I V L1 U.1 (by have := dAB.2.2; omega) (by omega) (fun x74 h74 E74 e74 M74 R74 => ?_)
      subst e74
      have J74 := tick_HI I V rfl rfl
      refine ih _ _ _ _ _ M74 R74 J74 (by omega) (by omega) ?_
      exact H
    · exfalso; omega
theorem S_X6_tick {d : Nat} {h : PH} {B A nx : Nat} {EP E D : Nat → Int → Int} {s : Int → Int} {N : Int} {Q : Int → PH → Prop} {X : Nat → PH → Prop} {m : Int} (T : FT h B A EP E D s) (W : WD D s N) (dAB : DAB A B) (P : PST h D nx) (n141 : 141 ≤ hn h) (RM : RR h D nx (D 0 14).toNat N) (hvm : InR m) (H : ∀ (x : Int) h1 h' (a : Nat) F E', tTk D s m = 0 → x = e_tks D m.toNat s 2 - s 2 → RMB h h1 nx a (D 0 14) → RMK h1 a F → HR F (D 0 2) (D 0 3) s → (141 ≤ a ∧ a + 14 ≤ hn h1) → Hx A h1 h' E' → HR E' (D 0 2) (D 0 3) (e_tks D m.toNat s) → Q x h') (HX : ∀ (e n' : Nat), (tTk D s m = 1 ∧ e = 0 ∨ tTk D s m = 2 ∧ e = 1) → hn h ≤ n' → X e (hup h n')) : RUN GQ (d + 7) m_X6_tick [pA 64, pI m] h Q X := by
  obtain ⟨w1, w2, w3, wN, ws1, wI⟩ := id W
  have kL := tL_or D
  have M := T.M
  have L := T.L
  have kt := tTk_or D s m
  rw [e_X6_tick]
  refine WP.of (RUN.mono GQ _) (cuts := [61]) (n := 400) (v_X6_tick_0 _ _ _ _ _ _ _ ?_)
  refine ⟨T.k, ?_⟩
  refine ⟨⟨by omega, by omega⟩, ?_⟩
  refine S_X6_needHall T (fun c1 => ?_) (fun c1 n1 l1 => ?_)
  · obtain ⟨I, V, sw⟩ := wI (by omega)
    obtain ⟨R, U⟩ := T.u (by omega)
    obtain ⟨v2, v3, v4, vh⟩ := id V
    have I1 := I.e1
    have I2 := I.e2
    have I0 := I.e0
    refine ⟨ir (by omega) (by omega), ir (by omega) (by omega), fun c6 => ?_, fun c6 => ?_⟩
    · refine ⟨⟨by omega, by omega⟩, ?_⟩
      refine S_X6_needArgument (by omega) (fun c21 => ?_) (fun c21 n21 l21 => ?_)
      · exact absurd rfl c21
      · exact HX 1 _ (by omega) l21
    · refine ⟨ir (by omega) (by omega), ir (by omega) (by omega), fun c13 => ?_, fun c13 => ?_⟩
      · refine ⟨⟨by omega, by omega⟩, ?_⟩
        refine S_X6_needArgument (by omega) (fun c21 => ?_) (fun c21 n21 l21 => ?_)
        · exact absurd rfl c21
        · exact HX 1 _ (by omega) l21
      · refine ⟨⟨by omega, by omega⟩, ?_⟩
        refine S_X6_needArgument (by omega) (fun c21 => ?_) (fun c21 n21 l21 => ?_)
        · refine ⟨T.k, ?_⟩
          try rw [T.r6]
          refine ⟨Bx.k M 0 (by decide) rfl, ?_⟩
          try rw [show hi h A 10 = _ from Bx.f10 M 0 (by decide)]
          rw [R.fl.2.1]
          refine ⟨ir (by omega) (by omega), ir (by omega) (by omega), fun c36 => ?_, fun c36 => ?_⟩
          · refine ⟨⟨by omega, by omega⟩, ?_⟩
            refine S_X6_needArgument (by omega) (fun c44 => ?_) (fun c44 n44 l44 => ?_)
            · exact absurd rfl c44
            · exact HX 1 _ (by omega) l44
          · refine ⟨⟨by omega, by omega⟩, ?_⟩
            refine S_X6_needArgument (by omega) (fun c44 => ?_) (fun c44 n44 l44 => ?_)
            · refine ⟨T.k, ?_⟩
              refine ⟨⟨by omega, by omega⟩, ?_⟩
              refine S_X6_remember T P.1 P.2.1 P.2.2.1 P.2.2.2 dAB.1 n141 (RM.room P.2.1) I R sw (fun h48 a48 F48 rb48 rk48 rf48 ra48 => ?_)
              have T1 := T.rem rb48 ra48.1 n141 dAB
              have X1 := T1.xq
              have M1 := T1.M
              have L1 := T1.L
              refine ⟨(XQ.sa M1.2.1 X1 dAB.1.1).k, ?_⟩
              try rw [(XQ.sa M1.2.1 X1 dAB.1.1).r6]
              refine ⟨Bx.k M1 0 (by decide) rfl, ?_⟩
              try rw [show hi h48 A 9 = _ from Bx.f9 M1 0 (by decide)]
              rw [R.fl.1]
              refine L_X6_tick_61 (be := s 2) (m := m) X1 L1 V U dAB (by omega) (by omega) (m.toNat) _ _ _ _ _ M1 R I (by omega) (by omega) ?_
              exact fun x h' E' e M' R' => H _ _ _ _ _ _ (by omega) e rb48 rk48 rf48 ra48 M' R'
            · exact absurd c44 (by decide)
        · exact absurd c21 (by decide)
  · exact HX 0 _ (by omega) l1
